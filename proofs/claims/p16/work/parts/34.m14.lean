/-! methods on typed pools, 14 (written by a program) -/
set_option maxHeartbeats 4000000 in
theorem c_CR_fewestChanges_Reducer_NPiece_l6 {Po : mP} {a1_ : Nat} (hTo : Typ Po) (hX : XR Po) (hp0 : a1_ ≤ 288 ∨ 298 ≤ a1_) (ha1 : rl a1_ = 33) : ∀ (n : Nat) (v2 : Int32) (v3 : Int32), ∀ (P : mP), Typ P → KW [640, 641, 704, 768] Po P → (FEr (fun v : Int32 => chF (fun j : Nat => fv Po (a1_ + 2) j) v (nC (fv Po a1_ 0).toInt (fv Po a1_ 1).toInt)) (FWf cM eM (fv Po a1_ 0).toInt (fv Po a1_ 1).toInt (fun j : Nat => fv Po (a1_ + 1) j)) v3.toInt.toNat v2.toInt) → (v3.toInt.toNat ≤ shN (cI (fv Po a1_ 0).toInt (fv Po a1_ 1).toInt)) → (KI 291 294 Po P) → (0 ≤ v3.toInt) → (2147483647 - v3.toInt).toNat = n → MEvP 4 none q_81 6 [(0, .ref 291), (1, .ref a1_), (2, .int v2), (3, .int v3)] [] P 0 0 (fun r P' => (∃ x : Int32, r = some (.int x) ∧ (FEr (fun v : Int32 => chF (fun j : Nat => fv Po (a1_ + 2) j) v (nC (fv Po a1_ 0).toInt (fv Po a1_ 1).toInt)) (FWf cM eM (fv Po a1_ 0).toInt (fv Po a1_ 1).toInt (fun j : Nat => fv Po (a1_ + 1) j)) (shN (cI (fv Po a1_ 0).toInt (fv Po a1_ 1).toInt)) x.toInt)) ∧ Typ P' ∧ KW [640, 641, 704, 768] Po P' ∧ True) := by
  intro n
  induction n using Nat.strongRecOn with | _ n ih => ?_
  intro v2 v3 P hT hK i_0 i_1 i_2 i_3 hm
  have w1 := np_ar ha1
  have w_v2 := ti_full v2
  have w_v3 := ti_full v3
  refine mp_a (a_iload_n dX3_fewestChanges_6 rfl) (mpp 7 rfl ?_)
  refine mp_a (a_iconst (v := 1) dX3_fewestChanges_7 rfl) (mpp 8 rfl ?_)
  refine mp_a (a_aload_n dX3_fewestChanges_8 rfl) (mpp 9 rfl ?_)
  refine mt_callv (i := 34) (q' := q_25) (As := []) (rest := [.int 1, .int v3]) hT dX3_fewestChanges_9 rfl qm_25 (by decide) rfl ha1 (by decide) rfl (Nat.le_of_ble_eq_true rfl) rfl ⟨rfl, rfl⟩ ⟨Nat.le_of_ble_eq_true rfl, Nat.le_of_ble_eq_true rfl⟩ (EvP.mono (by decide) (c_CP_creaseCount_NPiece hT (KW.xr hK hX) ha1)) (fun r2 P3 g4 => mpp 12 rfl ?_)
  obtain ⟨⟨x5, rfl, g6⟩, e7⟩ := g4
  have e7 := e7.symm
  subst e7
  have wx5 := ti_full x5
  replace g6 : -1 ≤ x5.toInt ∧ x5.toInt ≤ (fv P a1_ 1).toInt ∧ (((fv P a1_ 0).toInt = 0 ∧ x5.toInt = (fv P a1_ 1).toInt - 1) ∨ ((fv P a1_ 0).toInt ≠ 0 ∧ x5.toInt = (fv P a1_ 1).toInt)) := g6
  have e8 : (fv P a1_ 1).toInt = (fv Po a1_ 1).toInt := congrArg Int32.toInt (KW.at hK 1 ha1 rfl)
  have e9 : (fv P a1_ 0).toInt = (fv Po a1_ 0).toInt := congrArg Int32.toInt (KW.at hK 0 ha1 rfl)
  show MEvP _ none q_81 12 [(0, .ref 291), (1, .ref a1_), (2, .int v2), (3, .int v3)] [.int x5, .int 1, .int v3] _ _ _ _
  obtain ⟨z10, h11⟩ := ti_ex (1 <<< (x5 &&& 31) : Int32)
  have wz10 := ti_full z10
  refine mp_t (s_ishl (v := z10) dX3_fewestChanges_12 h11) (mpp 13 rfl ?_)
  refine mp_Tb (t := 54) (j_icmp_ge dX3_fewestChanges_13) (by decide) (fun c12 => ?_) (fun c12 => mpp 16 rfl ?_)
  · have c12 : v3.toInt ≥ z10.toInt := ti_ge c12
    refine mp_a (a_iload_n dX3_fewestChanges_54 rfl) (mpp 55 rfl ?_)
    have w14_0 : (fv P a1_ 0).toInt = (fv Po a1_ 0).toInt := congrArg Int32.toInt (i_2 a1_ 0 (by omega))
    have w14_1 : (fv P a1_ 1).toInt = (fv Po a1_ 1).toInt := congrArg Int32.toInt (i_2 a1_ 1 (by omega))
    have w14_s : shN (cI (fv Po a1_ 0).toInt (fv Po a1_ 1).toInt) = z10.toInt.toNat := shN_of h11 (by unfold cI; split <;> omega)
    have u13 : FEr (fun v : Int32 => chF (fun j : Nat => fv Po (a1_ + 2) j) v (nC (fv Po a1_ 0).toInt (fv Po a1_ 1).toInt)) (FWf cM eM (fv Po a1_ 0).toInt (fv Po a1_ 1).toInt (fun j : Nat => fv Po (a1_ + 1) j)) (shN (cI (fv Po a1_ 0).toInt (fv Po a1_ 1).toInt)) v2.toInt := (show v3.toInt.toNat = shN (cI (fv Po a1_ 0).toInt (fv Po a1_ 1).toInt) from by omega) ▸ i_0
    exact mp_iret ⟨⟨_, rfl, u13⟩, hT, hK, trivial⟩ dX3_fewestChanges_55 (Or.inl rfl)
  · have c12 : v3.toInt < z10.toInt := ti_ge_n c12
    refine mp_a (a_aload_n dX3_fewestChanges_16 rfl) (mpp 17 rfl ?_)
    refine mp_a (a_iload_n dX3_fewestChanges_17 rfl) (mpp 18 rfl ?_)
    refine mp_calls (i := 86) (q' := q_77) (As := [.ref a1_, .int v3]) (rest := []) dX3_fewestChanges_18 rfl qm_77 (by decide) rfl (Nat.le_of_ble_eq_true rfl) rfl ⟨rfl, rfl⟩ ⟨Nat.le_of_ble_eq_true rfl, Nat.le_of_ble_eq_true rfl⟩ (EvP.mono (by decide) (c_CR_changesTo_NPiece hT (KW.xr hK hX) ha1)) (fun r15 P16 g17 => mpp 21 rfl ?_)
    obtain ⟨⟨x18, rfl, g19⟩, e20⟩ := g17
    have e20 := e20.symm
    subst e20
    have wx18 := ti_full x18
    replace g19 : 0 ≤ x18.toInt ∧ x18.toInt ≤ 8 ∧ x18.toInt = chF (fun j : Nat => fv P (a1_ + 2) j) v3 (nC (fv P a1_ 0).toInt (fv P a1_ 1).toInt) := g19
    show MEvP _ none q_81 21 [(0, .ref 291), (1, .ref a1_), (2, .int v2), (3, .int v3)] [.int x18] _ _ _ _
    refine mp_a (a_istore (L' := [(4, .int x18), (0, .ref 291), (1, .ref a1_), (2, .int v2), (3, .int v3)]) dX3_fewestChanges_21 (by decide) rfl) (mpp 23 rfl ?_)
    refine mp_a (a_iload_n dX3_fewestChanges_23 rfl) (mpp 24 rfl ?_)
    refine mp_a (a_sipush (v := -1004) dX3_fewestChanges_24 rfl) (mpp 27 rfl ?_)
    refine mp_Tb (t := 36) (j_icmp_eq dX3_fewestChanges_27) (by decide) (fun c21 => ?_) (fun c21 => mpp 30 rfl ?_)
    · have c21 : v2.toInt = (-1004) := ti_eq c21
      refine mp_a (a_aload_n dX3_fewestChanges_36 rfl) (mpp 37 rfl ?_)
      refine mp_a (a_aload_n dX3_fewestChanges_37 rfl) (mpp 38 rfl ?_)
      refine mp_a (a_iload_n dX3_fewestChanges_38 rfl) (mpp 39 rfl ?_)
      have p22 : a1_ ≤ 288 ∨ 298 ≤ a1_ := by omega
      refine mt_callv (i := 90) (q' := q_79) (As := [.ref a1_, .int v3]) (rest := []) hT dX3_fewestChanges_39 rfl qm_79 (by decide) rfl rl_291 (by decide) rfl (Nat.le_of_ble_eq_true rfl) rfl ⟨rfl, rfl⟩ ⟨Nat.le_of_ble_eq_true rfl, Nat.le_of_ble_eq_true rfl⟩ (EvP.mono (by decide) (c_CR_foldsWith_Reducer_NPiece hT (KW.xr hK hX) p22 ha1)) (fun r23 P24 g25 => mpp 42 rfl ?_)
      obtain ⟨⟨x26, rfl, g27⟩, hT28, k29, R30⟩ := g25
      have k31 : KW [640, 641, 704, 768] Po P24 := KW.trans hK k29 rfl
      have wx26 := ti_full x26
      replace g27 : 0 ≤ x26.toInt ∧ x26.toInt ≤ 1 ∧ ((x26.toInt = 1 ∧ FWf cM eM (fv P a1_ 0).toInt (fv P a1_ 1).toInt (fun j : Nat => fv P (a1_ + 1) j) v3) ∨ (x26.toInt = 0 ∧ ¬ FWf cM eM (fv P a1_ 0).toInt (fv P a1_ 1).toInt (fun j : Nat => fv P (a1_ + 1) j) v3)) := g27
      show MEvP _ none q_81 42 [(4, .int x18), (0, .ref 291), (1, .ref a1_), (2, .int v2), (3, .int v3)] [.int x26] _ _ _ _
      refine mp_Tb (t := 48) (j_if_eq dX3_fewestChanges_42) (by decide) (fun c33 => ?_) (fun c33 => mpp 45 rfl ?_)
      · have c33 : x26.toInt = 0 := ti_eq c33
        obtain ⟨z34, h35⟩ := ti_ex (v3 + 1 : Int32)
        have wz34 := ti_full z34
        refine mp_a (a_iinc (v := z34) (L' := [(3, .int z34), (4, .int x18), (0, .ref 291), (1, .ref a1_), (2, .int v2)]) dX3_fewestChanges_48 (by decide) rfl h35 rfl) (mpp 51 rfl ?_)
        try have e36 : z34.toInt = v3.toInt + 1 := ti_addz h35 rfl rfl (by omega) (by omega)
        refine mp_a (a_goto (t := 6) dX3_fewestChanges_51 (by decide)) ?_
        refine MEvP.less (L := [(0, .ref 291), (1, .ref a1_), (2, .int v2), (3, .int z34)]) rfl rfl ⟨rfl, rfl, rfl, rfl, trivial⟩ ?_
        have w38_a : ∀ j : Nat, fv P a1_ j = fv Po a1_ j := fun j => i_2 a1_ j (by omega)
        have w38_b : ∀ j : Nat, fv P (a1_ + 1) j = fv Po (a1_ + 1) j := fun j => i_2 (a1_ + 1) j (by omega)
        have w38_c : ∀ j : Nat, fv P (a1_ + 2) j = fv Po (a1_ + 2) j := fun j => i_2 (a1_ + 2) j (by omega)
        have w38_0 := g19
        simp only [w38_a, w38_b, w38_c] at w38_0
        have w38_1 := g27
        simp only [w38_a, w38_b, w38_c] at w38_1
        have i37 : FEr (fun v : Int32 => chF (fun j : Nat => fv Po (a1_ + 2) j) v (nC (fv Po a1_ 0).toInt (fv Po a1_ 1).toInt)) (FWf cM eM (fv Po a1_ 0).toInt (fv Po a1_ 1).toInt (fun j : Nat => fv Po (a1_ + 1) j)) z34.toInt.toNat v2.toInt := FEr.no i_0 (by omega) rfl (by omega) w38_0.2.2 (Or.inr (w38_1.2.2.resolve_left (by omega)).2) rfl
        have w40_0 : (fv P a1_ 0).toInt = (fv Po a1_ 0).toInt := congrArg Int32.toInt (i_2 a1_ 0 (by omega))
        have w40_1 : (fv P a1_ 1).toInt = (fv Po a1_ 1).toInt := congrArg Int32.toInt (i_2 a1_ 1 (by omega))
        have w40_s : shN (cI (fv Po a1_ 0).toInt (fv Po a1_ 1).toInt) = z10.toInt.toNat := shN_of h11 (by unfold cI; split <;> omega)
        have i39 : z34.toInt.toNat ≤ shN (cI (fv Po a1_ 0).toInt (fv Po a1_ 1).toInt) := by omega
        have i41 : KI 291 294 Po P24 := fun x j hx => by rw [R30 x j (by omega), i_2 x j (by omega)]
        have i42 : 0 ≤ z34.toInt := by omega
        exact ih _ (by omega) _ _ P24 hT28 k31 i37 i39 i41 i42 rfl
      · have c33 : x26.toInt ≠ 0 := ti_eq_n c33
        refine mp_a (a_iload dX3_fewestChanges_45 rfl) (mpp 47 rfl ?_)
        refine mp_a (a_istore_n (L' := [(2, .int x18), (4, .int x18), (0, .ref 291), (1, .ref a1_), (3, .int v3)]) dX3_fewestChanges_47 (by decide) rfl) (mpp 48 rfl ?_)
        obtain ⟨z43, h44⟩ := ti_ex (v3 + 1 : Int32)
        have wz43 := ti_full z43
        refine mp_a (a_iinc (v := z43) (L' := [(3, .int z43), (2, .int x18), (4, .int x18), (0, .ref 291), (1, .ref a1_)]) dX3_fewestChanges_48 (by decide) rfl h44 rfl) (mpp 51 rfl ?_)
        try have e45 : z43.toInt = v3.toInt + 1 := ti_addz h44 rfl rfl (by omega) (by omega)
        refine mp_a (a_goto (t := 6) dX3_fewestChanges_51 (by decide)) ?_
        refine MEvP.less (L := [(0, .ref 291), (1, .ref a1_), (2, .int x18), (3, .int z43)]) rfl rfl ⟨rfl, rfl, rfl, rfl, trivial⟩ ?_
        have w47_a : ∀ j : Nat, fv P a1_ j = fv Po a1_ j := fun j => i_2 a1_ j (by omega)
        have w47_b : ∀ j : Nat, fv P (a1_ + 1) j = fv Po (a1_ + 1) j := fun j => i_2 (a1_ + 1) j (by omega)
        have w47_c : ∀ j : Nat, fv P (a1_ + 2) j = fv Po (a1_ + 2) j := fun j => i_2 (a1_ + 2) j (by omega)
        have w47_0 := g19
        simp only [w47_a, w47_b, w47_c] at w47_0
        have w47_1 := g27
        simp only [w47_a, w47_b, w47_c] at w47_1
        have i46 : FEr (fun v : Int32 => chF (fun j : Nat => fv Po (a1_ + 2) j) v (nC (fv Po a1_ 0).toInt (fv Po a1_ 1).toInt)) (FWf cM eM (fv Po a1_ 0).toInt (fv Po a1_ 1).toInt (fun j : Nat => fv Po (a1_ + 1) j)) z43.toInt.toNat x18.toInt := FEr.yes i_0 (by omega) rfl (by omega) w47_0.2.2 (by omega) (w47_1.2.2.resolve_right (by omega)).2 rfl
        have w49_0 : (fv P a1_ 0).toInt = (fv Po a1_ 0).toInt := congrArg Int32.toInt (i_2 a1_ 0 (by omega))
        have w49_1 : (fv P a1_ 1).toInt = (fv Po a1_ 1).toInt := congrArg Int32.toInt (i_2 a1_ 1 (by omega))
        have w49_s : shN (cI (fv Po a1_ 0).toInt (fv Po a1_ 1).toInt) = z10.toInt.toNat := shN_of h11 (by unfold cI; split <;> omega)
        have i48 : z43.toInt.toNat ≤ shN (cI (fv Po a1_ 0).toInt (fv Po a1_ 1).toInt) := by omega
        have i50 : KI 291 294 Po P24 := fun x j hx => by rw [R30 x j (by omega), i_2 x j (by omega)]
        have i51 : 0 ≤ z43.toInt := by omega
        exact ih _ (by omega) _ _ P24 hT28 k31 i46 i48 i50 i51 rfl
    · have c21 : v2.toInt ≠ (-1004) := ti_eq_n c21
      refine mp_a (a_iload dX3_fewestChanges_30 rfl) (mpp 32 rfl ?_)
      refine mp_a (a_iload_n dX3_fewestChanges_32 rfl) (mpp 33 rfl ?_)
      refine mp_Tb (t := 48) (j_icmp_ge dX3_fewestChanges_33) (by decide) (fun c52 => ?_) (fun c52 => mpp 36 rfl ?_)
      · have c52 : x18.toInt ≥ v2.toInt := ti_ge c52
        obtain ⟨z53, h54⟩ := ti_ex (v3 + 1 : Int32)
        have wz53 := ti_full z53
        refine mp_a (a_iinc (v := z53) (L' := [(3, .int z53), (4, .int x18), (0, .ref 291), (1, .ref a1_), (2, .int v2)]) dX3_fewestChanges_48 (by decide) rfl h54 rfl) (mpp 51 rfl ?_)
        try have e55 : z53.toInt = v3.toInt + 1 := ti_addz h54 rfl rfl (by omega) (by omega)
        refine mp_a (a_goto (t := 6) dX3_fewestChanges_51 (by decide)) ?_
        refine MEvP.less (L := [(0, .ref 291), (1, .ref a1_), (2, .int v2), (3, .int z53)]) rfl rfl ⟨rfl, rfl, rfl, rfl, trivial⟩ ?_
        have w57_a : ∀ j : Nat, fv P a1_ j = fv Po a1_ j := fun j => i_2 a1_ j (by omega)
        have w57_b : ∀ j : Nat, fv P (a1_ + 1) j = fv Po (a1_ + 1) j := fun j => i_2 (a1_ + 1) j (by omega)
        have w57_c : ∀ j : Nat, fv P (a1_ + 2) j = fv Po (a1_ + 2) j := fun j => i_2 (a1_ + 2) j (by omega)
        have w57_0 := g19
        simp only [w57_a, w57_b, w57_c] at w57_0
        have i56 : FEr (fun v : Int32 => chF (fun j : Nat => fv Po (a1_ + 2) j) v (nC (fv Po a1_ 0).toInt (fv Po a1_ 1).toInt)) (FWf cM eM (fv Po a1_ 0).toInt (fv Po a1_ 1).toInt (fun j : Nat => fv Po (a1_ + 1) j)) z53.toInt.toNat v2.toInt := FEr.no i_0 (by omega) rfl (by omega) w57_0.2.2 (Or.inl (by omega)) rfl
        have w59_0 : (fv P a1_ 0).toInt = (fv Po a1_ 0).toInt := congrArg Int32.toInt (i_2 a1_ 0 (by omega))
        have w59_1 : (fv P a1_ 1).toInt = (fv Po a1_ 1).toInt := congrArg Int32.toInt (i_2 a1_ 1 (by omega))
        have w59_s : shN (cI (fv Po a1_ 0).toInt (fv Po a1_ 1).toInt) = z10.toInt.toNat := shN_of h11 (by unfold cI; split <;> omega)
        have i58 : z53.toInt.toNat ≤ shN (cI (fv Po a1_ 0).toInt (fv Po a1_ 1).toInt) := by omega
        have i60 : KI 291 294 Po P := fun x j hx => by rw [i_2 x j (by omega)]
        have i61 : 0 ≤ z53.toInt := by omega
        exact ih _ (by omega) _ _ P hT hK i56 i58 i60 i61 rfl
      · have c52 : x18.toInt < v2.toInt := ti_ge_n c52
        refine mp_a (a_aload_n dX3_fewestChanges_36 rfl) (mpp 37 rfl ?_)
        refine mp_a (a_aload_n dX3_fewestChanges_37 rfl) (mpp 38 rfl ?_)
        refine mp_a (a_iload_n dX3_fewestChanges_38 rfl) (mpp 39 rfl ?_)
        have p62 : a1_ ≤ 288 ∨ 298 ≤ a1_ := by omega
        refine mt_callv (i := 90) (q' := q_79) (As := [.ref a1_, .int v3]) (rest := []) hT dX3_fewestChanges_39 rfl qm_79 (by decide) rfl rl_291 (by decide) rfl (Nat.le_of_ble_eq_true rfl) rfl ⟨rfl, rfl⟩ ⟨Nat.le_of_ble_eq_true rfl, Nat.le_of_ble_eq_true rfl⟩ (EvP.mono (by decide) (c_CR_foldsWith_Reducer_NPiece hT (KW.xr hK hX) p62 ha1)) (fun r63 P64 g65 => mpp 42 rfl ?_)
        obtain ⟨⟨x66, rfl, g67⟩, hT68, k69, R70⟩ := g65
        have k71 : KW [640, 641, 704, 768] Po P64 := KW.trans hK k69 rfl
        have wx66 := ti_full x66
        replace g67 : 0 ≤ x66.toInt ∧ x66.toInt ≤ 1 ∧ ((x66.toInt = 1 ∧ FWf cM eM (fv P a1_ 0).toInt (fv P a1_ 1).toInt (fun j : Nat => fv P (a1_ + 1) j) v3) ∨ (x66.toInt = 0 ∧ ¬ FWf cM eM (fv P a1_ 0).toInt (fv P a1_ 1).toInt (fun j : Nat => fv P (a1_ + 1) j) v3)) := g67
        show MEvP _ none q_81 42 [(4, .int x18), (0, .ref 291), (1, .ref a1_), (2, .int v2), (3, .int v3)] [.int x66] _ _ _ _
        refine mp_Tb (t := 48) (j_if_eq dX3_fewestChanges_42) (by decide) (fun c73 => ?_) (fun c73 => mpp 45 rfl ?_)
        · have c73 : x66.toInt = 0 := ti_eq c73
          obtain ⟨z74, h75⟩ := ti_ex (v3 + 1 : Int32)
          have wz74 := ti_full z74
          refine mp_a (a_iinc (v := z74) (L' := [(3, .int z74), (4, .int x18), (0, .ref 291), (1, .ref a1_), (2, .int v2)]) dX3_fewestChanges_48 (by decide) rfl h75 rfl) (mpp 51 rfl ?_)
          try have e76 : z74.toInt = v3.toInt + 1 := ti_addz h75 rfl rfl (by omega) (by omega)
          refine mp_a (a_goto (t := 6) dX3_fewestChanges_51 (by decide)) ?_
          refine MEvP.less (L := [(0, .ref 291), (1, .ref a1_), (2, .int v2), (3, .int z74)]) rfl rfl ⟨rfl, rfl, rfl, rfl, trivial⟩ ?_
          have w78_a : ∀ j : Nat, fv P a1_ j = fv Po a1_ j := fun j => i_2 a1_ j (by omega)
          have w78_b : ∀ j : Nat, fv P (a1_ + 1) j = fv Po (a1_ + 1) j := fun j => i_2 (a1_ + 1) j (by omega)
          have w78_c : ∀ j : Nat, fv P (a1_ + 2) j = fv Po (a1_ + 2) j := fun j => i_2 (a1_ + 2) j (by omega)
          have w78_0 := g19
          simp only [w78_a, w78_b, w78_c] at w78_0
          have w78_1 := g67
          simp only [w78_a, w78_b, w78_c] at w78_1
          have i77 : FEr (fun v : Int32 => chF (fun j : Nat => fv Po (a1_ + 2) j) v (nC (fv Po a1_ 0).toInt (fv Po a1_ 1).toInt)) (FWf cM eM (fv Po a1_ 0).toInt (fv Po a1_ 1).toInt (fun j : Nat => fv Po (a1_ + 1) j)) z74.toInt.toNat v2.toInt := FEr.no i_0 (by omega) rfl (by omega) w78_0.2.2 (Or.inr (w78_1.2.2.resolve_left (by omega)).2) rfl
          have w80_0 : (fv P a1_ 0).toInt = (fv Po a1_ 0).toInt := congrArg Int32.toInt (i_2 a1_ 0 (by omega))
          have w80_1 : (fv P a1_ 1).toInt = (fv Po a1_ 1).toInt := congrArg Int32.toInt (i_2 a1_ 1 (by omega))
          have w80_s : shN (cI (fv Po a1_ 0).toInt (fv Po a1_ 1).toInt) = z10.toInt.toNat := shN_of h11 (by unfold cI; split <;> omega)
          have i79 : z74.toInt.toNat ≤ shN (cI (fv Po a1_ 0).toInt (fv Po a1_ 1).toInt) := by omega
          have i81 : KI 291 294 Po P64 := fun x j hx => by rw [R70 x j (by omega), i_2 x j (by omega)]
          have i82 : 0 ≤ z74.toInt := by omega
          exact ih _ (by omega) _ _ P64 hT68 k71 i77 i79 i81 i82 rfl
        · have c73 : x66.toInt ≠ 0 := ti_eq_n c73
          refine mp_a (a_iload dX3_fewestChanges_45 rfl) (mpp 47 rfl ?_)
          refine mp_a (a_istore_n (L' := [(2, .int x18), (4, .int x18), (0, .ref 291), (1, .ref a1_), (3, .int v3)]) dX3_fewestChanges_47 (by decide) rfl) (mpp 48 rfl ?_)
          obtain ⟨z83, h84⟩ := ti_ex (v3 + 1 : Int32)
          have wz83 := ti_full z83
          refine mp_a (a_iinc (v := z83) (L' := [(3, .int z83), (2, .int x18), (4, .int x18), (0, .ref 291), (1, .ref a1_)]) dX3_fewestChanges_48 (by decide) rfl h84 rfl) (mpp 51 rfl ?_)
          try have e85 : z83.toInt = v3.toInt + 1 := ti_addz h84 rfl rfl (by omega) (by omega)
          refine mp_a (a_goto (t := 6) dX3_fewestChanges_51 (by decide)) ?_
          refine MEvP.less (L := [(0, .ref 291), (1, .ref a1_), (2, .int x18), (3, .int z83)]) rfl rfl ⟨rfl, rfl, rfl, rfl, trivial⟩ ?_
          have w87_a : ∀ j : Nat, fv P a1_ j = fv Po a1_ j := fun j => i_2 a1_ j (by omega)
          have w87_b : ∀ j : Nat, fv P (a1_ + 1) j = fv Po (a1_ + 1) j := fun j => i_2 (a1_ + 1) j (by omega)
          have w87_c : ∀ j : Nat, fv P (a1_ + 2) j = fv Po (a1_ + 2) j := fun j => i_2 (a1_ + 2) j (by omega)
          have w87_0 := g19
          simp only [w87_a, w87_b, w87_c] at w87_0
          have w87_1 := g67
          simp only [w87_a, w87_b, w87_c] at w87_1
          have i86 : FEr (fun v : Int32 => chF (fun j : Nat => fv Po (a1_ + 2) j) v (nC (fv Po a1_ 0).toInt (fv Po a1_ 1).toInt)) (FWf cM eM (fv Po a1_ 0).toInt (fv Po a1_ 1).toInt (fun j : Nat => fv Po (a1_ + 1) j)) z83.toInt.toNat x18.toInt := FEr.yes i_0 (by omega) rfl (by omega) w87_0.2.2 (by omega) (w87_1.2.2.resolve_right (by omega)).2 rfl
          have w89_0 : (fv P a1_ 0).toInt = (fv Po a1_ 0).toInt := congrArg Int32.toInt (i_2 a1_ 0 (by omega))
          have w89_1 : (fv P a1_ 1).toInt = (fv Po a1_ 1).toInt := congrArg Int32.toInt (i_2 a1_ 1 (by omega))
          have w89_s : shN (cI (fv Po a1_ 0).toInt (fv Po a1_ 1).toInt) = z10.toInt.toNat := shN_of h11 (by unfold cI; split <;> omega)
          have i88 : z83.toInt.toNat ≤ shN (cI (fv Po a1_ 0).toInt (fv Po a1_ 1).toInt) := by omega
          have i90 : KI 291 294 Po P64 := fun x j hx => by rw [R70 x j (by omega), i_2 x j (by omega)]
          have i91 : 0 ≤ z83.toInt := by omega
          exact ih _ (by omega) _ _ P64 hT68 k71 i86 i88 i90 i91 rfl

set_option maxHeartbeats 4000000 in
theorem c_CR_fewestChanges_Reducer_NPiece {Po : mP} {a1_ : Nat} (hT : Typ Po) (hX : XR Po)  (hp0 : a1_ ≤ 288 ∨ 298 ≤ a1_) (ha1 : rl a1_ = 33) : EvP 5 81 [.ref 291, .ref a1_] Po (fun r P' => (∃ x : Int32, r = some (.int x) ∧ (FEr (fun v : Int32 => chF (fun j : Nat => fv Po (a1_ + 2) j) v (nC (fv Po a1_ 0).toInt (fv Po a1_ 1).toInt)) (FWf cM eM (fv Po a1_ 0).toInt (fv Po a1_ 1).toInt (fun j : Nat => fv Po (a1_ + 1) j)) (shN (cI (fv Po a1_ 0).toInt (fv Po a1_ 1).toInt)) x.toInt)) ∧ Typ P' ∧ KW [640, 641, 704, 768] Po P' ∧ True) := by
  refine EvP.of qm_81 (Nat.le_of_ble_eq_true rfl) rfl ?_
  show MEvP _ none q_81 0 [(0, .ref 291), (1, .ref a1_)] [] _ 0 0 _
  have w1 := np_ar ha1
  have g2 := ti_full (fv Po a1_ 0)
  have g3 : (0 : Int) ≤ (fv Po a1_ 1).toInt ∧ (fv Po a1_ 1).toInt ≤ 8 := Typ.rng hT ha1 (by decide) (by decide) rfl
  refine mp_a (a_sipush (v := -1004) dX3_fewestChanges_0 rfl) (mpp 3 rfl ?_)
  refine mp_a (a_istore_n (L' := [(2, .int (-1004)), (0, .ref 291), (1, .ref a1_)]) dX3_fewestChanges_3 (by decide) rfl) (mpp 4 rfl ?_)
  refine mp_a (a_iconst (v := 0) dX3_fewestChanges_4 rfl) (mpp 5 rfl ?_)
  refine mp_a (a_istore_n (L' := [(3, .int 0), (2, .int (-1004)), (0, .ref 291), (1, .ref a1_)]) dX3_fewestChanges_5 (by decide) rfl) (mpp 6 rfl ?_)
  refine MEvP.less (L := [(0, .ref 291), (1, .ref a1_), (2, .int (-1004)), (3, .int 0)]) rfl rfl ⟨rfl, rfl, rfl, rfl, trivial⟩ ?_
  have i4 : FEr (fun v : Int32 => chF (fun j : Nat => fv Po (a1_ + 2) j) v (nC (fv Po a1_ 0).toInt (fv Po a1_ 1).toInt)) (FWf cM eM (fv Po a1_ 0).toInt (fv Po a1_ 1).toInt (fun j : Nat => fv Po (a1_ + 1) j)) (0 : Int).toNat (-1004 : Int) := rfl
  have i5 : (0 : Int).toNat ≤ shN (cI (fv Po a1_ 0).toInt (fv Po a1_ 1).toInt) := Nat.zero_le _
  have i6 : KI 291 294 Po Po := KI.refl
  have i7 : 0 ≤ (0 : Int) := by omega
  exact c_CR_fewestChanges_Reducer_NPiece_l6 hT hX  hp0 ha1 _ _ _ Po hT KW.refl i4 i5 i6 i7 rfl

set_option maxHeartbeats 4000000 in
theorem c_F_fewest {Po : mP} {t1 : Int32} (hT : Typ Po) (hX : XR Po)   : EvP 6 80 [.ref 0, .int t1] Po (fun r P' => (∃ x : Int32, r = some (.int x) ∧ (fewestC Po x.toInt t1.toInt)) ∧ Typ P' ∧ KW [640, 641, 704, 768] Po P' ∧ True) := by
  refine EvP.of qm_80 (Nat.le_of_ble_eq_true rfl) rfl ?_
  show MEvP _ none q_80 0 [(0, .ref 0), (1, .int t1)] [] _ 0 0 _
  have w_t1 := ti_full t1
  refine mp_a (a_aload_n dX6_fewest_0 rfl) (mpp 1 rfl ?_)
  refine mt_getU (i := 10) (k := 0) (A := 1) hT dX6_fewest_1 rfl rl_0 (by decide) rfl (by decide) rfl un_31 (mpp 4 rfl ?_)
  refine mp_a (a_iload_n dX6_fewest_4 rfl) (mpp 5 rfl ?_)
  refine mt_callv (i := 94) (q' := q_9) (As := [.int t1]) (rest := []) hT dX6_fewest_5 rfl qm_9 (by decide) rfl rl_1 (by decide) rfl (Nat.le_of_ble_eq_true rfl) rfl ⟨rfl, rfl⟩ ⟨Nat.le_of_ble_eq_true rfl, Nat.le_of_ble_eq_true rfl⟩ (EvP.mono (by decide) (c_CS_pieceAt_NState hT hX )) (fun r1 P2 g3 => mpp 8 rfl ?_)
  obtain ⟨g3, e4⟩ := g3
  have e4 := e4.symm
  subst e4
  rcases g3 with ⟨rfl, q6n⟩ | ⟨b5, rfl, q6, q6r⟩
  · show MEvP _ none q_80 8 [(0, .ref 0), (1, .int t1)] [.null] _ _ _ _
    replace q6n : t1.toInt < 0 ∨ (fv Po 1 1).toInt ≤ t1.toInt ∨ 8 ≤ t1.toInt := q6n
    have g7 : (0 : Int) ≤ (fv Po 1 1).toInt ∧ (fv Po 1 1).toInt ≤ 8 := Typ.rng hT rl_1 (by decide) (by decide) rfl
    refine mp_a (a_astore_nN (L' := [(2, .null), (0, .ref 0), (1, .int t1)]) dX6_fewest_8 (by decide) rfl) (mpp 9 rfl ?_)
    refine mp_a (a_aload_nN dX6_fewest_9 rfl) (mpp 10 rfl ?_)
    refine mp_t (s_ifnonnullN dX6_fewest_10) (mpp 13 rfl ?_)
    refine mp_a (a_sipush (v := -1001) dX6_fewest_13 rfl) (mpp 16 rfl ?_)
    refine mp_a (a_goto (t := 27) dX6_fewest_16 (by decide)) ?_
    have u8 : fewestC Po (-1001 : Int) t1.toInt := (show ((-1001 : Int) = -1001 ∧ (t1.toInt < 0 ∨ (fv Po 1 1).toInt ≤ t1.toInt ∨ 8 ≤ t1.toInt)) ∨ ((0 ≤ t1.toInt ∧ t1.toInt + 1 ≤ (fv Po 1 1).toInt ∧ t1.toInt ≤ 7) ∧ FEr (fun v : Int32 => chF (fun j : Nat => fv Po ((rv Po 2 t1.toInt.toNat) + 2) j) v (nC (fv Po (rv Po 2 t1.toInt.toNat) 0).toInt (fv Po (rv Po 2 t1.toInt.toNat) 1).toInt)) (FWf cM eM (fv Po (rv Po 2 t1.toInt.toNat) 0).toInt (fv Po (rv Po 2 t1.toInt.toNat) 1).toInt (fun j : Nat => fv Po ((rv Po 2 t1.toInt.toNat) + 1) j)) (shN (cI (fv Po (rv Po 2 t1.toInt.toNat) 0).toInt (fv Po (rv Po 2 t1.toInt.toNat) 1).toInt)) (-1001 : Int)) from by exact Or.inl (⟨by omega, by omega⟩))
    exact mp_iret ⟨⟨_, rfl, u8⟩, hT, KW.refl, trivial⟩ dX6_fewest_27 (Or.inl rfl)
  · show MEvP _ none q_80 8 [(0, .ref 0), (1, .int t1)] [.ref b5] _ _ _ _
    replace q6r : 0 ≤ t1.toInt ∧ t1.toInt ≤ 7 ∧ t1.toInt + 1 ≤ (fv Po 1 1).toInt ∧ rv Po 2 t1.toInt.toNat = b5 := q6r
    have g9 : (0 : Int) ≤ (fv Po 1 1).toInt ∧ (fv Po 1 1).toInt ≤ 8 := Typ.rng hT rl_1 (by decide) (by decide) rfl
    have w10 := np_ar q6
    refine mp_a (a_astore_n (L' := [(2, .ref b5), (0, .ref 0), (1, .int t1)]) dX6_fewest_8 (by decide) rfl) (mpp 9 rfl ?_)
    refine mp_a (a_aload_n dX6_fewest_9 rfl) (mpp 10 rfl ?_)
    refine mp_t (s_ifnonnullR (t := 19) dX6_fewest_10 (by decide)) ?_
    refine mp_a (a_aload_n dX6_fewest_19 rfl) (mpp 20 rfl ?_)
    refine mt_getU (i := 39) (k := 5) (A := 291) hT dX6_fewest_20 rfl rl_0 (by decide) rfl (by decide) rfl un_10 (mpp 23 rfl ?_)
    refine mp_a (a_aload_n dX6_fewest_23 rfl) (mpp 24 rfl ?_)
    have p11 : b5 ≤ 288 ∨ 298 ≤ b5 := by omega
    refine mt_callv (i := 200) (q' := q_81) (As := [.ref b5]) (rest := []) hT dX6_fewest_24 rfl qm_81 (by decide) rfl rl_291 (by decide) rfl (Nat.le_of_ble_eq_true rfl) rfl ⟨rfl, rfl⟩ ⟨Nat.le_of_ble_eq_true rfl, Nat.le_of_ble_eq_true rfl⟩ (EvP.mono (by decide) (c_CR_fewestChanges_Reducer_NPiece hT hX p11 q6)) (fun r12 P13 g14 => mpp 27 rfl ?_)
    obtain ⟨⟨x15, rfl, g16⟩, hT17, k18, R19⟩ := g14
    have k20 : KW [640, 641, 704, 768] Po P13 := KW.trans KW.refl k18 rfl
    have wx15 := ti_full x15
    replace g16 : FEr (fun v : Int32 => chF (fun j : Nat => fv Po (b5 + 2) j) v (nC (fv Po b5 0).toInt (fv Po b5 1).toInt)) (FWf cM eM (fv Po b5 0).toInt (fv Po b5 1).toInt (fun j : Nat => fv Po (b5 + 1) j)) (shN (cI (fv Po b5 0).toInt (fv Po b5 1).toInt)) x15.toInt := g16
    have g22 := ti_full (fv Po b5 0)
    have g23 : (0 : Int) ≤ (fv Po b5 1).toInt ∧ (fv Po b5 1).toInt ≤ 8 := Typ.rng hT q6 (by decide) (by decide) rfl
    show MEvP _ none q_80 27 [(2, .ref b5), (0, .ref 0), (1, .int t1)] [.int x15] _ _ _ _
    have u24 : fewestC Po x15.toInt t1.toInt := (show (x15.toInt = -1001 ∧ (t1.toInt < 0 ∨ (fv Po 1 1).toInt ≤ t1.toInt ∨ 8 ≤ t1.toInt)) ∨ ((0 ≤ t1.toInt ∧ t1.toInt + 1 ≤ (fv Po 1 1).toInt ∧ t1.toInt ≤ 7) ∧ FEr (fun v : Int32 => chF (fun j : Nat => fv Po ((rv Po 2 t1.toInt.toNat) + 2) j) v (nC (fv Po (rv Po 2 t1.toInt.toNat) 0).toInt (fv Po (rv Po 2 t1.toInt.toNat) 1).toInt)) (FWf cM eM (fv Po (rv Po 2 t1.toInt.toNat) 0).toInt (fv Po (rv Po 2 t1.toInt.toNat) 1).toInt (fun j : Nat => fv Po ((rv Po 2 t1.toInt.toNat) + 1) j)) (shN (cI (fv Po (rv Po 2 t1.toInt.toNat) 0).toInt (fv Po (rv Po 2 t1.toInt.toNat) 1).toInt)) x15.toInt) from by rw [q6r.2.2.2]; exact Or.inr (⟨by omega, g16⟩))
    exact mp_iret ⟨⟨_, rfl, u24⟩, hT17, k20, trivial⟩ dX6_fewest_27 (Or.inl rfl)

set_option maxHeartbeats 4000000 in
theorem c_F_place {Po : mP} {t1 : Int32} {t2 : Int32} (hT : Typ Po) (hX : XR Po)   : EvP 3 82 [.ref 0, .int t1, .int t2] Po (fun r P' => (∃ x : Int32, r = some (.int x) ∧ (placeC Po x.toInt t1.toInt t2.toInt)) ∧ P' = Po) := by
  refine EvP.of qm_82 (Nat.le_of_ble_eq_true rfl) rfl ?_
  show MEvP _ none q_82 0 [(0, .ref 0), (1, .int t1), (2, .int t2)] [] _ 0 0 _
  have w_t1 := ti_full t1
  have w_t2 := ti_full t2
  refine mp_a (a_aload_n dX6_place_0 rfl) (mpp 1 rfl ?_)
  refine mt_getU (i := 10) (k := 0) (A := 1) hT dX6_place_1 rfl rl_0 (by decide) rfl (by decide) rfl un_31 (mpp 4 rfl ?_)
  refine mp_a (a_iload_n dX6_place_4 rfl) (mpp 5 rfl ?_)
  refine mt_callv (i := 94) (q' := q_9) (As := [.int t1]) (rest := []) hT dX6_place_5 rfl qm_9 (by decide) rfl rl_1 (by decide) rfl (Nat.le_of_ble_eq_true rfl) rfl ⟨rfl, rfl⟩ ⟨Nat.le_of_ble_eq_true rfl, Nat.le_of_ble_eq_true rfl⟩ (EvP.mono (by decide) (c_CS_pieceAt_NState hT hX )) (fun r1 P2 g3 => mpp 8 rfl ?_)
  obtain ⟨g3, e4⟩ := g3
  have e4 := e4.symm
  subst e4
  rcases g3 with ⟨rfl, q6n⟩ | ⟨b5, rfl, q6, q6r⟩
  · show MEvP _ none q_82 8 [(0, .ref 0), (1, .int t1), (2, .int t2)] [.null] _ _ _ _
    replace q6n : t1.toInt < 0 ∨ (fv Po 1 1).toInt ≤ t1.toInt ∨ 8 ≤ t1.toInt := q6n
    have g7 : (0 : Int) ≤ (fv Po 1 1).toInt ∧ (fv Po 1 1).toInt ≤ 8 := Typ.rng hT rl_1 (by decide) (by decide) rfl
    refine mp_a (a_astore_nN (L' := [(3, .null), (0, .ref 0), (1, .int t1), (2, .int t2)]) dX6_place_8 (by decide) rfl) (mpp 9 rfl ?_)
    refine mp_a (a_aload_nN dX6_place_9 rfl) (mpp 10 rfl ?_)
    refine mp_t (s_ifnonnullN dX6_place_10) (mpp 13 rfl ?_)
    refine mp_a (a_sipush (v := -1001) dX6_place_13 rfl) (mpp 16 rfl ?_)
    have u8 : placeC Po (-1001 : Int) t1.toInt t2.toInt := (show ((-1001 : Int) = -1001 ∧ (t1.toInt < 0 ∨ (fv Po 1 1).toInt ≤ t1.toInt ∨ 8 ≤ t1.toInt)) ∨ ((0 ≤ t1.toInt ∧ t1.toInt + 1 ≤ (fv Po 1 1).toInt ∧ t1.toInt ≤ 7) ∧ ¬ (fv Po (rv Po 2 t1.toInt.toNat) 0).toInt = 0 ∧ (-1001 : Int) = -1002) ∨ ((0 ≤ t1.toInt ∧ t1.toInt + 1 ≤ (fv Po 1 1).toInt ∧ t1.toInt ≤ 7) ∧ (fv Po (rv Po 2 t1.toInt.toNat) 0).toInt = 0 ∧ (t2.toInt < 0 ∨ (fv Po (rv Po 2 t1.toInt.toNat) 1).toInt < t2.toInt) ∧ (-1001 : Int) = -1001) ∨ ((0 ≤ t1.toInt ∧ t1.toInt + 1 ≤ (fv Po 1 1).toInt ∧ t1.toInt ≤ 7) ∧ (fv Po (rv Po 2 t1.toInt.toNat) 0).toInt = 0 ∧ (0 ≤ t2.toInt ∧ t2.toInt ≤ (fv Po (rv Po 2 t1.toInt.toNat) 1).toInt) ∧ (-1001 : Int) = (plF (fun j : Nat => fv Po ((rv Po 2 t1.toInt.toNat) + 1) j) t2.toInt.toNat).toInt) from by exact Or.inl (⟨by omega, by omega⟩))
    exact mp_iret ⟨⟨_, rfl, u8⟩, rfl⟩ dX6_place_16 (Or.inl rfl)
  · show MEvP _ none q_82 8 [(0, .ref 0), (1, .int t1), (2, .int t2)] [.ref b5] _ _ _ _
    replace q6r : 0 ≤ t1.toInt ∧ t1.toInt ≤ 7 ∧ t1.toInt + 1 ≤ (fv Po 1 1).toInt ∧ rv Po 2 t1.toInt.toNat = b5 := q6r
    have g9 : (0 : Int) ≤ (fv Po 1 1).toInt ∧ (fv Po 1 1).toInt ≤ 8 := Typ.rng hT rl_1 (by decide) (by decide) rfl
    have w10 := np_ar q6
    refine mp_a (a_astore_n (L' := [(3, .ref b5), (0, .ref 0), (1, .int t1), (2, .int t2)]) dX6_place_8 (by decide) rfl) (mpp 9 rfl ?_)
    refine mp_a (a_aload_n dX6_place_9 rfl) (mpp 10 rfl ?_)
    refine mp_t (s_ifnonnullR (t := 17) dX6_place_10 (by decide)) ?_
    refine mp_a (a_aload_n dX6_place_17 rfl) (mpp 18 rfl ?_)
    have g11 := ti_full (fv Po b5 0)
    refine mt_getI (i := 130) (k := 0) hT dX6_place_18 rfl q6 (by decide) rfl (by decide) rfl (fun g12 g13 => mpp 21 rfl ?_)
    refine mp_Tb (t := 28) (j_if_eq dX6_place_21) (by decide) (fun c14 => ?_) (fun c14 => mpp 24 rfl ?_)
    · have c14 : (fv Po b5 0).toInt = 0 := ti_eq c14
      refine mp_a (a_iload_n dX6_place_28 rfl) (mpp 29 rfl ?_)
      refine mp_Tb (t := 40) (j_if_lt dX6_place_29) (by decide) (fun c15 => ?_) (fun c15 => mpp 32 rfl ?_)
      · have c15 : t2.toInt < 0 := ti_lt c15
        refine mp_a (a_sipush (v := -1001) dX6_place_40 rfl) (mpp 43 rfl ?_)
        have u16 : placeC Po (-1001 : Int) t1.toInt t2.toInt := (show ((-1001 : Int) = -1001 ∧ (t1.toInt < 0 ∨ (fv Po 1 1).toInt ≤ t1.toInt ∨ 8 ≤ t1.toInt)) ∨ ((0 ≤ t1.toInt ∧ t1.toInt + 1 ≤ (fv Po 1 1).toInt ∧ t1.toInt ≤ 7) ∧ ¬ (fv Po (rv Po 2 t1.toInt.toNat) 0).toInt = 0 ∧ (-1001 : Int) = -1002) ∨ ((0 ≤ t1.toInt ∧ t1.toInt + 1 ≤ (fv Po 1 1).toInt ∧ t1.toInt ≤ 7) ∧ (fv Po (rv Po 2 t1.toInt.toNat) 0).toInt = 0 ∧ (t2.toInt < 0 ∨ (fv Po (rv Po 2 t1.toInt.toNat) 1).toInt < t2.toInt) ∧ (-1001 : Int) = -1001) ∨ ((0 ≤ t1.toInt ∧ t1.toInt + 1 ≤ (fv Po 1 1).toInt ∧ t1.toInt ≤ 7) ∧ (fv Po (rv Po 2 t1.toInt.toNat) 0).toInt = 0 ∧ (0 ≤ t2.toInt ∧ t2.toInt ≤ (fv Po (rv Po 2 t1.toInt.toNat) 1).toInt) ∧ (-1001 : Int) = (plF (fun j : Nat => fv Po ((rv Po 2 t1.toInt.toNat) + 1) j) t2.toInt.toNat).toInt) from by rw [q6r.2.2.2]; exact Or.inr (Or.inr (Or.inl (⟨by omega, by omega, by omega, by omega⟩))))
        exact mp_iret ⟨⟨_, rfl, u16⟩, rfl⟩ dX6_place_43 (Or.inl rfl)
      · have c15 : t2.toInt ≥ 0 := ti_lt_n c15
        refine mp_a (a_iload_n dX6_place_32 rfl) (mpp 33 rfl ?_)
        refine mp_a (a_aload_n dX6_place_33 rfl) (mpp 34 rfl ?_)
        have g17 : (0 : Int) ≤ (fv Po b5 1).toInt ∧ (fv Po b5 1).toInt ≤ 8 := Typ.rng hT q6 (by decide) (by decide) rfl
        refine mt_getI (i := 143) (k := 1) hT dX6_place_34 rfl q6 (by decide) rfl (by decide) rfl (fun g18 g19 => mpp 37 rfl ?_)
        refine mp_Tb (t := 44) (j_icmp_le dX6_place_37) (by decide) (fun c20 => ?_) (fun c20 => mpp 40 rfl ?_)
        · have c20 : t2.toInt ≤ (fv Po b5 1).toInt := ti_le c20
          refine mp_a (a_aload_n dX6_place_44 rfl) (mpp 45 rfl ?_)
          refine mp_a (a_iload_n dX6_place_45 rfl) (mpp 46 rfl ?_)
          refine mt_callv (i := 203) (q' := q_13) (As := [.int t2]) (rest := []) hT dX6_place_46 rfl qm_13 (by decide) rfl q6 (by decide) rfl (Nat.le_of_ble_eq_true rfl) rfl ⟨rfl, rfl⟩ ⟨Nat.le_of_ble_eq_true rfl, Nat.le_of_ble_eq_true rfl⟩ (EvP.mono (by decide) (c_CP_placeOf_NPiece hT hX q6)) (fun r21 P22 g23 => mpp 49 rfl ?_)
          obtain ⟨⟨x24, rfl, g25⟩, e26⟩ := g23
          have e26 := e26.symm
          subst e26
          have wx24 := ti_full x24
          replace g25 : x24.toInt = (plF (fun j : Nat => fv Po (b5 + 1) j) (min t2.toInt (fv Po b5 1).toInt).toNat).toInt := g25
          show MEvP _ none q_82 49 [(3, .ref b5), (0, .ref 0), (1, .int t1), (2, .int t2)] [.int x24] _ _ _ _
          have u27 : placeC Po x24.toInt t1.toInt t2.toInt := (show (x24.toInt = -1001 ∧ (t1.toInt < 0 ∨ (fv Po 1 1).toInt ≤ t1.toInt ∨ 8 ≤ t1.toInt)) ∨ ((0 ≤ t1.toInt ∧ t1.toInt + 1 ≤ (fv Po 1 1).toInt ∧ t1.toInt ≤ 7) ∧ ¬ (fv Po (rv Po 2 t1.toInt.toNat) 0).toInt = 0 ∧ x24.toInt = -1002) ∨ ((0 ≤ t1.toInt ∧ t1.toInt + 1 ≤ (fv Po 1 1).toInt ∧ t1.toInt ≤ 7) ∧ (fv Po (rv Po 2 t1.toInt.toNat) 0).toInt = 0 ∧ (t2.toInt < 0 ∨ (fv Po (rv Po 2 t1.toInt.toNat) 1).toInt < t2.toInt) ∧ x24.toInt = -1001) ∨ ((0 ≤ t1.toInt ∧ t1.toInt + 1 ≤ (fv Po 1 1).toInt ∧ t1.toInt ≤ 7) ∧ (fv Po (rv Po 2 t1.toInt.toNat) 0).toInt = 0 ∧ (0 ≤ t2.toInt ∧ t2.toInt ≤ (fv Po (rv Po 2 t1.toInt.toNat) 1).toInt) ∧ x24.toInt = (plF (fun j : Nat => fv Po ((rv Po 2 t1.toInt.toNat) + 1) j) t2.toInt.toNat).toInt) from by rw [q6r.2.2.2]; exact Or.inr (Or.inr (Or.inr (⟨by omega, by omega, by omega, g25.trans (congrArg (fun n : Int => (plF _ n.toNat).toInt) (by omega))⟩))))
          exact mp_iret ⟨⟨_, rfl, u27⟩, rfl⟩ dX6_place_49 (Or.inl rfl)
        · have c20 : t2.toInt > (fv Po b5 1).toInt := ti_le_n c20
          refine mp_a (a_sipush (v := -1001) dX6_place_40 rfl) (mpp 43 rfl ?_)
          have u28 : placeC Po (-1001 : Int) t1.toInt t2.toInt := (show ((-1001 : Int) = -1001 ∧ (t1.toInt < 0 ∨ (fv Po 1 1).toInt ≤ t1.toInt ∨ 8 ≤ t1.toInt)) ∨ ((0 ≤ t1.toInt ∧ t1.toInt + 1 ≤ (fv Po 1 1).toInt ∧ t1.toInt ≤ 7) ∧ ¬ (fv Po (rv Po 2 t1.toInt.toNat) 0).toInt = 0 ∧ (-1001 : Int) = -1002) ∨ ((0 ≤ t1.toInt ∧ t1.toInt + 1 ≤ (fv Po 1 1).toInt ∧ t1.toInt ≤ 7) ∧ (fv Po (rv Po 2 t1.toInt.toNat) 0).toInt = 0 ∧ (t2.toInt < 0 ∨ (fv Po (rv Po 2 t1.toInt.toNat) 1).toInt < t2.toInt) ∧ (-1001 : Int) = -1001) ∨ ((0 ≤ t1.toInt ∧ t1.toInt + 1 ≤ (fv Po 1 1).toInt ∧ t1.toInt ≤ 7) ∧ (fv Po (rv Po 2 t1.toInt.toNat) 0).toInt = 0 ∧ (0 ≤ t2.toInt ∧ t2.toInt ≤ (fv Po (rv Po 2 t1.toInt.toNat) 1).toInt) ∧ (-1001 : Int) = (plF (fun j : Nat => fv Po ((rv Po 2 t1.toInt.toNat) + 1) j) t2.toInt.toNat).toInt) from by rw [q6r.2.2.2]; exact Or.inr (Or.inr (Or.inl (⟨by omega, by omega, by omega, by omega⟩))))
          exact mp_iret ⟨⟨_, rfl, u28⟩, rfl⟩ dX6_place_43 (Or.inl rfl)
    · have c14 : (fv Po b5 0).toInt ≠ 0 := ti_eq_n c14
      refine mp_a (a_sipush (v := -1002) dX6_place_24 rfl) (mpp 27 rfl ?_)
      have u29 : placeC Po (-1002 : Int) t1.toInt t2.toInt := (show ((-1002 : Int) = -1001 ∧ (t1.toInt < 0 ∨ (fv Po 1 1).toInt ≤ t1.toInt ∨ 8 ≤ t1.toInt)) ∨ ((0 ≤ t1.toInt ∧ t1.toInt + 1 ≤ (fv Po 1 1).toInt ∧ t1.toInt ≤ 7) ∧ ¬ (fv Po (rv Po 2 t1.toInt.toNat) 0).toInt = 0 ∧ (-1002 : Int) = -1002) ∨ ((0 ≤ t1.toInt ∧ t1.toInt + 1 ≤ (fv Po 1 1).toInt ∧ t1.toInt ≤ 7) ∧ (fv Po (rv Po 2 t1.toInt.toNat) 0).toInt = 0 ∧ (t2.toInt < 0 ∨ (fv Po (rv Po 2 t1.toInt.toNat) 1).toInt < t2.toInt) ∧ (-1002 : Int) = -1001) ∨ ((0 ≤ t1.toInt ∧ t1.toInt + 1 ≤ (fv Po 1 1).toInt ∧ t1.toInt ≤ 7) ∧ (fv Po (rv Po 2 t1.toInt.toNat) 0).toInt = 0 ∧ (0 ≤ t2.toInt ∧ t2.toInt ≤ (fv Po (rv Po 2 t1.toInt.toNat) 1).toInt) ∧ (-1002 : Int) = (plF (fun j : Nat => fv Po ((rv Po 2 t1.toInt.toNat) + 1) j) t2.toInt.toNat).toInt) from by rw [q6r.2.2.2]; exact Or.inr (Or.inl (⟨by omega, by omega, by omega⟩)))
      exact mp_iret ⟨⟨_, rfl, u29⟩, rfl⟩ dX6_place_27 (Or.inl rfl)

set_option maxHeartbeats 4000000 in
theorem c_F_layer {Po : mP} {t1 : Int32} {t2 : Int32} (hT : Typ Po) (hX : XR Po)   : EvP 6 83 [.ref 0, .int t1, .int t2] Po (fun r P' => (∃ x : Int32, r = some (.int x) ∧ (layerC Po x.toInt t1.toInt t2.toInt)) ∧ Typ P' ∧ KW [832, 896, 960, 1024] Po P' ∧ True) := by
  refine EvP.of qm_83 (Nat.le_of_ble_eq_true rfl) rfl ?_
  show MEvP _ none q_83 0 [(0, .ref 0), (1, .int t1), (2, .int t2)] [] _ 0 0 _
  have w_t1 := ti_full t1
  have w_t2 := ti_full t2
  refine mp_a (a_aload_n dX6_layer_0 rfl) (mpp 1 rfl ?_)
  refine mt_getU (i := 10) (k := 0) (A := 1) hT dX6_layer_1 rfl rl_0 (by decide) rfl (by decide) rfl un_31 (mpp 4 rfl ?_)
  refine mp_a (a_iload_n dX6_layer_4 rfl) (mpp 5 rfl ?_)
  refine mt_callv (i := 94) (q' := q_9) (As := [.int t1]) (rest := []) hT dX6_layer_5 rfl qm_9 (by decide) rfl rl_1 (by decide) rfl (Nat.le_of_ble_eq_true rfl) rfl ⟨rfl, rfl⟩ ⟨Nat.le_of_ble_eq_true rfl, Nat.le_of_ble_eq_true rfl⟩ (EvP.mono (by decide) (c_CS_pieceAt_NState hT hX )) (fun r1 P2 g3 => mpp 8 rfl ?_)
  obtain ⟨g3, e4⟩ := g3
  have e4 := e4.symm
  subst e4
  rcases g3 with ⟨rfl, q6n⟩ | ⟨b5, rfl, q6, q6r⟩
  · show MEvP _ none q_83 8 [(0, .ref 0), (1, .int t1), (2, .int t2)] [.null] _ _ _ _
    replace q6n : t1.toInt < 0 ∨ (fv Po 1 1).toInt ≤ t1.toInt ∨ 8 ≤ t1.toInt := q6n
    have g7 : (0 : Int) ≤ (fv Po 1 1).toInt ∧ (fv Po 1 1).toInt ≤ 8 := Typ.rng hT rl_1 (by decide) (by decide) rfl
    refine mp_a (a_astore_nN (L' := [(3, .null), (0, .ref 0), (1, .int t1), (2, .int t2)]) dX6_layer_8 (by decide) rfl) (mpp 9 rfl ?_)
    refine mp_a (a_aload_nN dX6_layer_9 rfl) (mpp 10 rfl ?_)
    refine mp_t (s_ifnonnullN dX6_layer_10) (mpp 13 rfl ?_)
    refine mp_a (a_sipush (v := -1001) dX6_layer_13 rfl) (mpp 16 rfl ?_)
    have u8 : layerC Po (-1001 : Int) t1.toInt t2.toInt := (show ((-1001 : Int) = -1001 ∧ (t1.toInt < 0 ∨ (fv Po 1 1).toInt ≤ t1.toInt ∨ 8 ≤ t1.toInt)) ∨ ((0 ≤ t1.toInt ∧ t1.toInt + 1 ≤ (fv Po 1 1).toInt ∧ t1.toInt ≤ 7) ∧ (fv Po (rv Po 2 t1.toInt.toNat) 0).toInt = 0 ∧ (t2.toInt < 0 ∨ (fv Po (rv Po 2 t1.toInt.toNat) 1).toInt ≤ t2.toInt) ∧ (-1001 : Int) = -1001) ∨ ((0 ≤ t1.toInt ∧ t1.toInt + 1 ≤ (fv Po 1 1).toInt ∧ t1.toInt ≤ 7) ∧ (¬ (fv Po (rv Po 2 t1.toInt.toNat) 0).toInt = 0 ∨ (0 ≤ t2.toInt ∧ t2.toInt < (fv Po (rv Po 2 t1.toInt.toNat) 1).toInt)) ∧ ((¬ (fv Po (rv Po 2 t1.toInt.toNat) 0).toInt = 0 ∧ (-1001 : Int) = -1002) ∨ ((fv Po (rv Po 2 t1.toInt.toNat) 0).toInt = 0 ∧ 1 ≤ cntF (fun j : Nat => fv Po ((rv Po 2 t1.toInt.toNat) + 2) j) 0 (nC (fv Po (rv Po 2 t1.toInt.toNat) 0).toInt (fv Po (rv Po 2 t1.toInt.toNat) 1).toInt) ∧ (-1001 : Int) = -1004))) ∨ ((0 ≤ t1.toInt ∧ t1.toInt + 1 ≤ (fv Po 1 1).toInt ∧ t1.toInt ≤ 7) ∧ (fv Po (rv Po 2 t1.toInt.toNat) 0).toInt = 0 ∧ (0 ≤ t2.toInt ∧ t2.toInt < (fv Po (rv Po 2 t1.toInt.toNat) 1).toInt) ∧ cntF (fun j : Nat => fv Po ((rv Po 2 t1.toInt.toNat) + 2) j) 0 (nC (fv Po (rv Po 2 t1.toInt.toNat) 0).toInt (fv Po (rv Po 2 t1.toInt.toNat) 1).toInt) = 0 ∧ (sT (nP Po (rv Po 2 t1.toInt.toNat)) (cP Po (rv Po 2 t1.toInt.toNat)) (psP Po (rv Po 2 t1.toInt.toNat))) = 0 ∧ (-1001 : Int) = -1004) ∨ ((0 ≤ t1.toInt ∧ t1.toInt + 1 ≤ (fv Po 1 1).toInt ∧ t1.toInt ≤ 7) ∧ (fv Po (rv Po 2 t1.toInt.toNat) 0).toInt = 0 ∧ (0 ≤ t2.toInt ∧ t2.toInt < (fv Po (rv Po 2 t1.toInt.toNat) 1).toInt) ∧ cntF (fun j : Nat => fv Po ((rv Po 2 t1.toInt.toNat) + 2) j) 0 (nC (fv Po (rv Po 2 t1.toInt.toNat) 0).toInt (fv Po (rv Po 2 t1.toInt.toNat) 1).toInt) = 0 ∧ 1 ≤ (sT (nP Po (rv Po 2 t1.toInt.toNat)) (cP Po (rv Po 2 t1.toInt.toNat)) (psP Po (rv Po 2 t1.toInt.toNat))) ∧ (∃ f : Nat → Int, (sF (nP Po (rv Po 2 t1.toInt.toNat)) (cP Po (rv Po 2 t1.toInt.toNat)) (psP Po (rv Po 2 t1.toInt.toNat))) = some f ∧ (t2.toInt.toNat < nP Po (rv Po 2 t1.toInt.toNat) → (-1001 : Int) = f t2.toInt.toNat))) from by exact Or.inl (⟨by omega, by omega⟩))
    exact mp_iret ⟨⟨_, rfl, u8⟩, hT, KW.refl, trivial⟩ dX6_layer_16 (Or.inl rfl)
  · show MEvP _ none q_83 8 [(0, .ref 0), (1, .int t1), (2, .int t2)] [.ref b5] _ _ _ _
    replace q6r : 0 ≤ t1.toInt ∧ t1.toInt ≤ 7 ∧ t1.toInt + 1 ≤ (fv Po 1 1).toInt ∧ rv Po 2 t1.toInt.toNat = b5 := q6r
    have g9 : (0 : Int) ≤ (fv Po 1 1).toInt ∧ (fv Po 1 1).toInt ≤ 8 := Typ.rng hT rl_1 (by decide) (by decide) rfl
    have w10 := np_ar q6
    refine mp_a (a_astore_n (L' := [(3, .ref b5), (0, .ref 0), (1, .int t1), (2, .int t2)]) dX6_layer_8 (by decide) rfl) (mpp 9 rfl ?_)
    refine mp_a (a_aload_n dX6_layer_9 rfl) (mpp 10 rfl ?_)
    refine mp_t (s_ifnonnullR (t := 17) dX6_layer_10 (by decide)) ?_
    refine mp_a (a_aload_n dX6_layer_17 rfl) (mpp 18 rfl ?_)
    have g11 := ti_full (fv Po b5 0)
    refine mt_getI (i := 130) (k := 0) hT dX6_layer_18 rfl q6 (by decide) rfl (by decide) rfl (fun g12 g13 => mpp 21 rfl ?_)
    refine mp_Tb (t := 40) (j_if_ne dX6_layer_21) (by decide) (fun c14 => ?_) (fun c14 => mpp 24 rfl ?_)
    · have c14 : (fv Po b5 0).toInt ≠ 0 := ti_ne c14
      refine mp_a (a_aload_n dX6_layer_40 rfl) (mpp 41 rfl ?_)
      refine mp_calls (i := 181) (q' := q_63) (As := [.ref b5]) (rest := []) dX6_layer_41 rfl qm_63 (by decide) rfl (Nat.le_of_ble_eq_true rfl) rfl ⟨rfl, rfl⟩ ⟨Nat.le_of_ble_eq_true rfl, Nat.le_of_ble_eq_true rfl⟩ (EvP.mono (by decide) (c_F_errorOfDecidedStrip_NPiece hT hX q6)) (fun r15 P16 g17 => mpp 44 rfl ?_)
      obtain ⟨⟨x18, rfl, g19⟩, e20⟩ := g17
      have e20 := e20.symm
      subst e20
      have wx18 := ti_full x18
      replace g19 : (x18.toInt = -1002 ∧ ¬ (fv Po b5 0).toInt = 0) ∨ (x18.toInt = -1004 ∧ (fv Po b5 0).toInt = 0 ∧ 1 ≤ cntF (fun j : Nat => fv Po (b5 + 2) j) 0 (nC (fv Po b5 0).toInt (fv Po b5 1).toInt)) ∨ (x18.toInt = 0 ∧ (fv Po b5 0).toInt = 0 ∧ cntF (fun j : Nat => fv Po (b5 + 2) j) 0 (nC (fv Po b5 0).toInt (fv Po b5 1).toInt) = 0) := g19
      have g21 : (0 : Int) ≤ (fv Po b5 1).toInt ∧ (fv Po b5 1).toInt ≤ 8 := Typ.rng hT q6 (by decide) (by decide) rfl
      show MEvP _ none q_83 44 [(3, .ref b5), (0, .ref 0), (1, .int t1), (2, .int t2)] [.int x18] _ _ _ _
      refine mp_a (a_istore (L' := [(4, .int x18), (3, .ref b5), (0, .ref 0), (1, .int t1), (2, .int t2)]) dX6_layer_44 (by decide) rfl) (mpp 46 rfl ?_)
      refine mp_a (a_iload dX6_layer_46 rfl) (mpp 48 rfl ?_)
      refine mp_Tb (t := 54) (j_if_eq dX6_layer_48) (by decide) (fun c22 => ?_) (fun c22 => mpp 51 rfl ?_)
      · have c22 : x18.toInt = 0 := ti_eq c22
        refine mp_a (a_aload_n dX6_layer_54 rfl) (mpp 55 rfl ?_)
        refine mt_getU (i := 46) (k := 6) (A := 294) hT dX6_layer_55 rfl rl_0 (by decide) rfl (by decide) rfl un_13 (mpp 58 rfl ?_)
        refine mp_a (a_aload_n dX6_layer_58 rfl) (mpp 59 rfl ?_)
        refine mp_a (a_iconst (v := 1) dX6_layer_59 rfl) (mpp 60 rfl ?_)
        have p23 : b5 ≤ 288 ∨ 298 ≤ b5 := by omega
        have p24 : 1 ≤ (1 : Int) := by omega
        have p25 : (1 : Int) = 1 ∨ 783820 ≤ (1 : Int) := by omega
        refine mt_callv (i := 184) (q' := q_64) (As := [.ref b5, .int 1]) (rest := []) hT dX6_layer_60 rfl qm_64 (by decide) rfl rl_294 (by decide) rfl (Nat.le_of_ble_eq_true rfl) rfl ⟨rfl, rfl⟩ ⟨Nat.le_of_ble_eq_true rfl, Nat.le_of_ble_eq_true rfl⟩ (EvP.mono (by decide) (c_CL_search_Layers_NPiece hT hX p23 p24 p25 q6)) (fun r26 P27 g28 => mpp 63 rfl ?_)
        obtain ⟨⟨x29, rfl, g30⟩, hT31, k32, R33⟩ := g28
        have k34 : KW [832, 896, 960, 1024] Po P27 := KW.trans KW.refl k32 rfl
        have wx29 := ti_full x29
        replace g30 : SRC Po P27 b5 (1 : Int) x29.toInt := g30
        show MEvP _ none q_83 63 [(4, .int x18), (3, .ref b5), (0, .ref 0), (1, .int t1), (2, .int t2)] [.int x29] _ _ _ _
        refine mp_Tb (t := 72) (j_if_ne dX6_layer_63) (by decide) (fun c36 => ?_) (fun c36 => mpp 66 rfl ?_)
        · have c36 : x29.toInt ≠ 0 := ti_ne c36
          refine mp_a (a_aload_n dX6_layer_72 rfl) (mpp 73 rfl ?_)
          refine mt_getU (i := 46) (k := 6) (A := 294) hT31 dX6_layer_73 rfl rl_0 (by decide) rfl (by decide) rfl un_13 (mpp 76 rfl ?_)
          refine mt_getU (i := 206) (k := 1) (A := 295) hT31 dX6_layer_76 rfl rl_294 (by decide) rfl (by decide) rfl un_14 (mpp 79 rfl ?_)
          refine mp_a (a_iload_n dX6_layer_79 rfl) (mpp 80 rfl ?_)
          refine mp_calls (i := 112) (q' := q_12) (As := [.ref 295, .int t2]) (rest := []) dX6_layer_80 rfl qm_12 (by decide) rfl (Nat.le_of_ble_eq_true rfl) rfl ⟨rfl, rfl⟩ ⟨Nat.le_of_ble_eq_true rfl, Nat.le_of_ble_eq_true rfl⟩ (EvP.mono (by decide) (c_F_at_order hT31 (KW.xr k34 hX) )) (fun r37 P38 g39 => mpp 83 rfl ?_)
          obtain ⟨⟨x40, rfl, g41⟩, e42⟩ := g39
          have e42 := e42.symm
          subst e42
          have wx40 := ti_full x40
          replace g41 : (0 ≤ t2.toInt ∧ t2.toInt ≤ 7 ∧ x40.toInt = (fv P27 295 t2.toInt.toNat).toInt) ∨ ((t2.toInt < 0 ∨ 8 ≤ t2.toInt) ∧ x40.toInt = 0) := g41
          try replace g41 : x40.toInt = (fv P27 295 t2.toInt.toNat).toInt := (g41.resolve_right (by omega)).2.2
          show MEvP _ none q_83 83 [(4, .int x18), (3, .ref b5), (0, .ref 0), (1, .int t1), (2, .int t2)] [.int x40] _ _ _ _
          have w44_ : SRC Po P27 _ 1 x29.toInt := g30
          obtain ⟨h1w44_, h2w44_, h3w44_⟩ := w44_.resolve_left (fun q => by obtain ⟨q1, q2, q3⟩ := q; omega)
          obtain ⟨fw44_, h4w44_, h5w44_⟩ := h3w44_ rfl
          have u43 : layerC Po x40.toInt t1.toInt t2.toInt := (show (x40.toInt = -1001 ∧ (t1.toInt < 0 ∨ (fv Po 1 1).toInt ≤ t1.toInt ∨ 8 ≤ t1.toInt)) ∨ ((0 ≤ t1.toInt ∧ t1.toInt + 1 ≤ (fv Po 1 1).toInt ∧ t1.toInt ≤ 7) ∧ (fv Po (rv Po 2 t1.toInt.toNat) 0).toInt = 0 ∧ (t2.toInt < 0 ∨ (fv Po (rv Po 2 t1.toInt.toNat) 1).toInt ≤ t2.toInt) ∧ x40.toInt = -1001) ∨ ((0 ≤ t1.toInt ∧ t1.toInt + 1 ≤ (fv Po 1 1).toInt ∧ t1.toInt ≤ 7) ∧ (¬ (fv Po (rv Po 2 t1.toInt.toNat) 0).toInt = 0 ∨ (0 ≤ t2.toInt ∧ t2.toInt < (fv Po (rv Po 2 t1.toInt.toNat) 1).toInt)) ∧ ((¬ (fv Po (rv Po 2 t1.toInt.toNat) 0).toInt = 0 ∧ x40.toInt = -1002) ∨ ((fv Po (rv Po 2 t1.toInt.toNat) 0).toInt = 0 ∧ 1 ≤ cntF (fun j : Nat => fv Po ((rv Po 2 t1.toInt.toNat) + 2) j) 0 (nC (fv Po (rv Po 2 t1.toInt.toNat) 0).toInt (fv Po (rv Po 2 t1.toInt.toNat) 1).toInt) ∧ x40.toInt = -1004))) ∨ ((0 ≤ t1.toInt ∧ t1.toInt + 1 ≤ (fv Po 1 1).toInt ∧ t1.toInt ≤ 7) ∧ (fv Po (rv Po 2 t1.toInt.toNat) 0).toInt = 0 ∧ (0 ≤ t2.toInt ∧ t2.toInt < (fv Po (rv Po 2 t1.toInt.toNat) 1).toInt) ∧ cntF (fun j : Nat => fv Po ((rv Po 2 t1.toInt.toNat) + 2) j) 0 (nC (fv Po (rv Po 2 t1.toInt.toNat) 0).toInt (fv Po (rv Po 2 t1.toInt.toNat) 1).toInt) = 0 ∧ (sT (nP Po (rv Po 2 t1.toInt.toNat)) (cP Po (rv Po 2 t1.toInt.toNat)) (psP Po (rv Po 2 t1.toInt.toNat))) = 0 ∧ x40.toInt = -1004) ∨ ((0 ≤ t1.toInt ∧ t1.toInt + 1 ≤ (fv Po 1 1).toInt ∧ t1.toInt ≤ 7) ∧ (fv Po (rv Po 2 t1.toInt.toNat) 0).toInt = 0 ∧ (0 ≤ t2.toInt ∧ t2.toInt < (fv Po (rv Po 2 t1.toInt.toNat) 1).toInt) ∧ cntF (fun j : Nat => fv Po ((rv Po 2 t1.toInt.toNat) + 2) j) 0 (nC (fv Po (rv Po 2 t1.toInt.toNat) 0).toInt (fv Po (rv Po 2 t1.toInt.toNat) 1).toInt) = 0 ∧ 1 ≤ (sT (nP Po (rv Po 2 t1.toInt.toNat)) (cP Po (rv Po 2 t1.toInt.toNat)) (psP Po (rv Po 2 t1.toInt.toNat))) ∧ (∃ f : Nat → Int, (sF (nP Po (rv Po 2 t1.toInt.toNat)) (cP Po (rv Po 2 t1.toInt.toNat)) (psP Po (rv Po 2 t1.toInt.toNat))) = some f ∧ (t2.toInt.toNat < nP Po (rv Po 2 t1.toInt.toNat) → x40.toInt = f t2.toInt.toNat))) from by rw [q6r.2.2.2]; exact Or.inr (Or.inr (Or.inr (Or.inr (⟨by omega, by omega, by omega, by omega, by have q := g30; unfold SRC at q; rcases q with ⟨h1, h2, h3⟩ | ⟨h1, h2, h3⟩ <;> omega, ⟨fw44_, h4w44_, fun hj => (show x40.toInt = (fv P27 295 t2.toInt.toNat).toInt from by have hj : t2.toInt.toNat < (min (fv Po b5 1).toInt 7).toNat := hj; omega).trans (h5w44_ _ hj)⟩⟩)))))
          exact mp_iret ⟨⟨_, rfl, u43⟩, hT31, k34, trivial⟩ dX6_layer_83 (Or.inl rfl)
        · have c36 : x29.toInt = 0 := ti_ne_n c36
          refine mp_a (a_sipush (v := -1004) dX6_layer_66 rfl) (mpp 69 rfl ?_)
          refine mp_a (a_goto (t := 83) dX6_layer_69 (by decide)) ?_
          have w46_ := g30
          unfold SRC at w46_
          have u45 : layerC Po (-1004 : Int) t1.toInt t2.toInt := (show ((-1004 : Int) = -1001 ∧ (t1.toInt < 0 ∨ (fv Po 1 1).toInt ≤ t1.toInt ∨ 8 ≤ t1.toInt)) ∨ ((0 ≤ t1.toInt ∧ t1.toInt + 1 ≤ (fv Po 1 1).toInt ∧ t1.toInt ≤ 7) ∧ (fv Po (rv Po 2 t1.toInt.toNat) 0).toInt = 0 ∧ (t2.toInt < 0 ∨ (fv Po (rv Po 2 t1.toInt.toNat) 1).toInt ≤ t2.toInt) ∧ (-1004 : Int) = -1001) ∨ ((0 ≤ t1.toInt ∧ t1.toInt + 1 ≤ (fv Po 1 1).toInt ∧ t1.toInt ≤ 7) ∧ (¬ (fv Po (rv Po 2 t1.toInt.toNat) 0).toInt = 0 ∨ (0 ≤ t2.toInt ∧ t2.toInt < (fv Po (rv Po 2 t1.toInt.toNat) 1).toInt)) ∧ ((¬ (fv Po (rv Po 2 t1.toInt.toNat) 0).toInt = 0 ∧ (-1004 : Int) = -1002) ∨ ((fv Po (rv Po 2 t1.toInt.toNat) 0).toInt = 0 ∧ 1 ≤ cntF (fun j : Nat => fv Po ((rv Po 2 t1.toInt.toNat) + 2) j) 0 (nC (fv Po (rv Po 2 t1.toInt.toNat) 0).toInt (fv Po (rv Po 2 t1.toInt.toNat) 1).toInt) ∧ (-1004 : Int) = -1004))) ∨ ((0 ≤ t1.toInt ∧ t1.toInt + 1 ≤ (fv Po 1 1).toInt ∧ t1.toInt ≤ 7) ∧ (fv Po (rv Po 2 t1.toInt.toNat) 0).toInt = 0 ∧ (0 ≤ t2.toInt ∧ t2.toInt < (fv Po (rv Po 2 t1.toInt.toNat) 1).toInt) ∧ cntF (fun j : Nat => fv Po ((rv Po 2 t1.toInt.toNat) + 2) j) 0 (nC (fv Po (rv Po 2 t1.toInt.toNat) 0).toInt (fv Po (rv Po 2 t1.toInt.toNat) 1).toInt) = 0 ∧ (sT (nP Po (rv Po 2 t1.toInt.toNat)) (cP Po (rv Po 2 t1.toInt.toNat)) (psP Po (rv Po 2 t1.toInt.toNat))) = 0 ∧ (-1004 : Int) = -1004) ∨ ((0 ≤ t1.toInt ∧ t1.toInt + 1 ≤ (fv Po 1 1).toInt ∧ t1.toInt ≤ 7) ∧ (fv Po (rv Po 2 t1.toInt.toNat) 0).toInt = 0 ∧ (0 ≤ t2.toInt ∧ t2.toInt < (fv Po (rv Po 2 t1.toInt.toNat) 1).toInt) ∧ cntF (fun j : Nat => fv Po ((rv Po 2 t1.toInt.toNat) + 2) j) 0 (nC (fv Po (rv Po 2 t1.toInt.toNat) 0).toInt (fv Po (rv Po 2 t1.toInt.toNat) 1).toInt) = 0 ∧ 1 ≤ (sT (nP Po (rv Po 2 t1.toInt.toNat)) (cP Po (rv Po 2 t1.toInt.toNat)) (psP Po (rv Po 2 t1.toInt.toNat))) ∧ (∃ f : Nat → Int, (sF (nP Po (rv Po 2 t1.toInt.toNat)) (cP Po (rv Po 2 t1.toInt.toNat)) (psP Po (rv Po 2 t1.toInt.toNat))) = some f ∧ (t2.toInt.toNat < nP Po (rv Po 2 t1.toInt.toNat) → (-1004 : Int) = f t2.toInt.toNat))) from by rw [q6r.2.2.2]; exact Or.inr (Or.inr (Or.inr (Or.inl (⟨by omega, by omega, by omega, by omega, by rcases w46_ with ⟨h1, h2, h3⟩ | ⟨h1, h2, h3⟩ <;> omega, by omega⟩)))))
          exact mp_iret ⟨⟨_, rfl, u45⟩, hT31, k34, trivial⟩ dX6_layer_83 (Or.inl rfl)
      · have c22 : x18.toInt ≠ 0 := ti_eq_n c22
        refine mp_a (a_iload dX6_layer_51 rfl) (mpp 53 rfl ?_)
        have u47 : layerC Po x18.toInt t1.toInt t2.toInt := (show (x18.toInt = -1001 ∧ (t1.toInt < 0 ∨ (fv Po 1 1).toInt ≤ t1.toInt ∨ 8 ≤ t1.toInt)) ∨ ((0 ≤ t1.toInt ∧ t1.toInt + 1 ≤ (fv Po 1 1).toInt ∧ t1.toInt ≤ 7) ∧ (fv Po (rv Po 2 t1.toInt.toNat) 0).toInt = 0 ∧ (t2.toInt < 0 ∨ (fv Po (rv Po 2 t1.toInt.toNat) 1).toInt ≤ t2.toInt) ∧ x18.toInt = -1001) ∨ ((0 ≤ t1.toInt ∧ t1.toInt + 1 ≤ (fv Po 1 1).toInt ∧ t1.toInt ≤ 7) ∧ (¬ (fv Po (rv Po 2 t1.toInt.toNat) 0).toInt = 0 ∨ (0 ≤ t2.toInt ∧ t2.toInt < (fv Po (rv Po 2 t1.toInt.toNat) 1).toInt)) ∧ ((¬ (fv Po (rv Po 2 t1.toInt.toNat) 0).toInt = 0 ∧ x18.toInt = -1002) ∨ ((fv Po (rv Po 2 t1.toInt.toNat) 0).toInt = 0 ∧ 1 ≤ cntF (fun j : Nat => fv Po ((rv Po 2 t1.toInt.toNat) + 2) j) 0 (nC (fv Po (rv Po 2 t1.toInt.toNat) 0).toInt (fv Po (rv Po 2 t1.toInt.toNat) 1).toInt) ∧ x18.toInt = -1004))) ∨ ((0 ≤ t1.toInt ∧ t1.toInt + 1 ≤ (fv Po 1 1).toInt ∧ t1.toInt ≤ 7) ∧ (fv Po (rv Po 2 t1.toInt.toNat) 0).toInt = 0 ∧ (0 ≤ t2.toInt ∧ t2.toInt < (fv Po (rv Po 2 t1.toInt.toNat) 1).toInt) ∧ cntF (fun j : Nat => fv Po ((rv Po 2 t1.toInt.toNat) + 2) j) 0 (nC (fv Po (rv Po 2 t1.toInt.toNat) 0).toInt (fv Po (rv Po 2 t1.toInt.toNat) 1).toInt) = 0 ∧ (sT (nP Po (rv Po 2 t1.toInt.toNat)) (cP Po (rv Po 2 t1.toInt.toNat)) (psP Po (rv Po 2 t1.toInt.toNat))) = 0 ∧ x18.toInt = -1004) ∨ ((0 ≤ t1.toInt ∧ t1.toInt + 1 ≤ (fv Po 1 1).toInt ∧ t1.toInt ≤ 7) ∧ (fv Po (rv Po 2 t1.toInt.toNat) 0).toInt = 0 ∧ (0 ≤ t2.toInt ∧ t2.toInt < (fv Po (rv Po 2 t1.toInt.toNat) 1).toInt) ∧ cntF (fun j : Nat => fv Po ((rv Po 2 t1.toInt.toNat) + 2) j) 0 (nC (fv Po (rv Po 2 t1.toInt.toNat) 0).toInt (fv Po (rv Po 2 t1.toInt.toNat) 1).toInt) = 0 ∧ 1 ≤ (sT (nP Po (rv Po 2 t1.toInt.toNat)) (cP Po (rv Po 2 t1.toInt.toNat)) (psP Po (rv Po 2 t1.toInt.toNat))) ∧ (∃ f : Nat → Int, (sF (nP Po (rv Po 2 t1.toInt.toNat)) (cP Po (rv Po 2 t1.toInt.toNat)) (psP Po (rv Po 2 t1.toInt.toNat))) = some f ∧ (t2.toInt.toNat < nP Po (rv Po 2 t1.toInt.toNat) → x18.toInt = f t2.toInt.toNat))) from by rw [q6r.2.2.2]; exact Or.inr (Or.inr (Or.inl (⟨by omega, by omega, by omega⟩))))
        exact mp_iret ⟨⟨_, rfl, u47⟩, hT, KW.refl, trivial⟩ dX6_layer_53 (Or.inl rfl)
    · have c14 : (fv Po b5 0).toInt = 0 := ti_ne_n c14
      refine mp_a (a_iload_n dX6_layer_24 rfl) (mpp 25 rfl ?_)
      refine mp_Tb (t := 36) (j_if_lt dX6_layer_25) (by decide) (fun c48 => ?_) (fun c48 => mpp 28 rfl ?_)
      · have c48 : t2.toInt < 0 := ti_lt c48
        refine mp_a (a_sipush (v := -1001) dX6_layer_36 rfl) (mpp 39 rfl ?_)
        have u49 : layerC Po (-1001 : Int) t1.toInt t2.toInt := (show ((-1001 : Int) = -1001 ∧ (t1.toInt < 0 ∨ (fv Po 1 1).toInt ≤ t1.toInt ∨ 8 ≤ t1.toInt)) ∨ ((0 ≤ t1.toInt ∧ t1.toInt + 1 ≤ (fv Po 1 1).toInt ∧ t1.toInt ≤ 7) ∧ (fv Po (rv Po 2 t1.toInt.toNat) 0).toInt = 0 ∧ (t2.toInt < 0 ∨ (fv Po (rv Po 2 t1.toInt.toNat) 1).toInt ≤ t2.toInt) ∧ (-1001 : Int) = -1001) ∨ ((0 ≤ t1.toInt ∧ t1.toInt + 1 ≤ (fv Po 1 1).toInt ∧ t1.toInt ≤ 7) ∧ (¬ (fv Po (rv Po 2 t1.toInt.toNat) 0).toInt = 0 ∨ (0 ≤ t2.toInt ∧ t2.toInt < (fv Po (rv Po 2 t1.toInt.toNat) 1).toInt)) ∧ ((¬ (fv Po (rv Po 2 t1.toInt.toNat) 0).toInt = 0 ∧ (-1001 : Int) = -1002) ∨ ((fv Po (rv Po 2 t1.toInt.toNat) 0).toInt = 0 ∧ 1 ≤ cntF (fun j : Nat => fv Po ((rv Po 2 t1.toInt.toNat) + 2) j) 0 (nC (fv Po (rv Po 2 t1.toInt.toNat) 0).toInt (fv Po (rv Po 2 t1.toInt.toNat) 1).toInt) ∧ (-1001 : Int) = -1004))) ∨ ((0 ≤ t1.toInt ∧ t1.toInt + 1 ≤ (fv Po 1 1).toInt ∧ t1.toInt ≤ 7) ∧ (fv Po (rv Po 2 t1.toInt.toNat) 0).toInt = 0 ∧ (0 ≤ t2.toInt ∧ t2.toInt < (fv Po (rv Po 2 t1.toInt.toNat) 1).toInt) ∧ cntF (fun j : Nat => fv Po ((rv Po 2 t1.toInt.toNat) + 2) j) 0 (nC (fv Po (rv Po 2 t1.toInt.toNat) 0).toInt (fv Po (rv Po 2 t1.toInt.toNat) 1).toInt) = 0 ∧ (sT (nP Po (rv Po 2 t1.toInt.toNat)) (cP Po (rv Po 2 t1.toInt.toNat)) (psP Po (rv Po 2 t1.toInt.toNat))) = 0 ∧ (-1001 : Int) = -1004) ∨ ((0 ≤ t1.toInt ∧ t1.toInt + 1 ≤ (fv Po 1 1).toInt ∧ t1.toInt ≤ 7) ∧ (fv Po (rv Po 2 t1.toInt.toNat) 0).toInt = 0 ∧ (0 ≤ t2.toInt ∧ t2.toInt < (fv Po (rv Po 2 t1.toInt.toNat) 1).toInt) ∧ cntF (fun j : Nat => fv Po ((rv Po 2 t1.toInt.toNat) + 2) j) 0 (nC (fv Po (rv Po 2 t1.toInt.toNat) 0).toInt (fv Po (rv Po 2 t1.toInt.toNat) 1).toInt) = 0 ∧ 1 ≤ (sT (nP Po (rv Po 2 t1.toInt.toNat)) (cP Po (rv Po 2 t1.toInt.toNat)) (psP Po (rv Po 2 t1.toInt.toNat))) ∧ (∃ f : Nat → Int, (sF (nP Po (rv Po 2 t1.toInt.toNat)) (cP Po (rv Po 2 t1.toInt.toNat)) (psP Po (rv Po 2 t1.toInt.toNat))) = some f ∧ (t2.toInt.toNat < nP Po (rv Po 2 t1.toInt.toNat) → (-1001 : Int) = f t2.toInt.toNat))) from by rw [q6r.2.2.2]; exact Or.inr (Or.inl (⟨by omega, by omega, by omega, by omega⟩)))
        exact mp_iret ⟨⟨_, rfl, u49⟩, hT, KW.refl, trivial⟩ dX6_layer_39 (Or.inl rfl)
      · have c48 : t2.toInt ≥ 0 := ti_lt_n c48
        refine mp_a (a_iload_n dX6_layer_28 rfl) (mpp 29 rfl ?_)
        refine mp_a (a_aload_n dX6_layer_29 rfl) (mpp 30 rfl ?_)
        have g50 : (0 : Int) ≤ (fv Po b5 1).toInt ∧ (fv Po b5 1).toInt ≤ 8 := Typ.rng hT q6 (by decide) (by decide) rfl
        refine mt_getI (i := 143) (k := 1) hT dX6_layer_30 rfl q6 (by decide) rfl (by decide) rfl (fun g51 g52 => mpp 33 rfl ?_)
        refine mp_Tb (t := 40) (j_icmp_lt dX6_layer_33) (by decide) (fun c53 => ?_) (fun c53 => mpp 36 rfl ?_)
        · have c53 : t2.toInt < (fv Po b5 1).toInt := ti_lt c53
          refine mp_a (a_aload_n dX6_layer_40 rfl) (mpp 41 rfl ?_)
          refine mp_calls (i := 181) (q' := q_63) (As := [.ref b5]) (rest := []) dX6_layer_41 rfl qm_63 (by decide) rfl (Nat.le_of_ble_eq_true rfl) rfl ⟨rfl, rfl⟩ ⟨Nat.le_of_ble_eq_true rfl, Nat.le_of_ble_eq_true rfl⟩ (EvP.mono (by decide) (c_F_errorOfDecidedStrip_NPiece hT hX q6)) (fun r54 P55 g56 => mpp 44 rfl ?_)
          obtain ⟨⟨x57, rfl, g58⟩, e59⟩ := g56
          have e59 := e59.symm
          subst e59
          have wx57 := ti_full x57
          replace g58 : (x57.toInt = -1002 ∧ ¬ (fv Po b5 0).toInt = 0) ∨ (x57.toInt = -1004 ∧ (fv Po b5 0).toInt = 0 ∧ 1 ≤ cntF (fun j : Nat => fv Po (b5 + 2) j) 0 (nC (fv Po b5 0).toInt (fv Po b5 1).toInt)) ∨ (x57.toInt = 0 ∧ (fv Po b5 0).toInt = 0 ∧ cntF (fun j : Nat => fv Po (b5 + 2) j) 0 (nC (fv Po b5 0).toInt (fv Po b5 1).toInt) = 0) := g58
          show MEvP _ none q_83 44 [(3, .ref b5), (0, .ref 0), (1, .int t1), (2, .int t2)] [.int x57] _ _ _ _
          refine mp_a (a_istore (L' := [(4, .int x57), (3, .ref b5), (0, .ref 0), (1, .int t1), (2, .int t2)]) dX6_layer_44 (by decide) rfl) (mpp 46 rfl ?_)
          refine mp_a (a_iload dX6_layer_46 rfl) (mpp 48 rfl ?_)
          refine mp_Tb (t := 54) (j_if_eq dX6_layer_48) (by decide) (fun c60 => ?_) (fun c60 => mpp 51 rfl ?_)
          · have c60 : x57.toInt = 0 := ti_eq c60
            refine mp_a (a_aload_n dX6_layer_54 rfl) (mpp 55 rfl ?_)
            refine mt_getU (i := 46) (k := 6) (A := 294) hT dX6_layer_55 rfl rl_0 (by decide) rfl (by decide) rfl un_13 (mpp 58 rfl ?_)
            refine mp_a (a_aload_n dX6_layer_58 rfl) (mpp 59 rfl ?_)
            refine mp_a (a_iconst (v := 1) dX6_layer_59 rfl) (mpp 60 rfl ?_)
            have p61 : b5 ≤ 288 ∨ 298 ≤ b5 := by omega
            have p62 : 1 ≤ (1 : Int) := by omega
            have p63 : (1 : Int) = 1 ∨ 783820 ≤ (1 : Int) := by omega
            refine mt_callv (i := 184) (q' := q_64) (As := [.ref b5, .int 1]) (rest := []) hT dX6_layer_60 rfl qm_64 (by decide) rfl rl_294 (by decide) rfl (Nat.le_of_ble_eq_true rfl) rfl ⟨rfl, rfl⟩ ⟨Nat.le_of_ble_eq_true rfl, Nat.le_of_ble_eq_true rfl⟩ (EvP.mono (by decide) (c_CL_search_Layers_NPiece hT hX p61 p62 p63 q6)) (fun r64 P65 g66 => mpp 63 rfl ?_)
            obtain ⟨⟨x67, rfl, g68⟩, hT69, k70, R71⟩ := g66
            have k72 : KW [832, 896, 960, 1024] Po P65 := KW.trans KW.refl k70 rfl
            have wx67 := ti_full x67
            replace g68 : SRC Po P65 b5 (1 : Int) x67.toInt := g68
            show MEvP _ none q_83 63 [(4, .int x57), (3, .ref b5), (0, .ref 0), (1, .int t1), (2, .int t2)] [.int x67] _ _ _ _
            refine mp_Tb (t := 72) (j_if_ne dX6_layer_63) (by decide) (fun c74 => ?_) (fun c74 => mpp 66 rfl ?_)
            · have c74 : x67.toInt ≠ 0 := ti_ne c74
              refine mp_a (a_aload_n dX6_layer_72 rfl) (mpp 73 rfl ?_)
              refine mt_getU (i := 46) (k := 6) (A := 294) hT69 dX6_layer_73 rfl rl_0 (by decide) rfl (by decide) rfl un_13 (mpp 76 rfl ?_)
              refine mt_getU (i := 206) (k := 1) (A := 295) hT69 dX6_layer_76 rfl rl_294 (by decide) rfl (by decide) rfl un_14 (mpp 79 rfl ?_)
              refine mp_a (a_iload_n dX6_layer_79 rfl) (mpp 80 rfl ?_)
              refine mp_calls (i := 112) (q' := q_12) (As := [.ref 295, .int t2]) (rest := []) dX6_layer_80 rfl qm_12 (by decide) rfl (Nat.le_of_ble_eq_true rfl) rfl ⟨rfl, rfl⟩ ⟨Nat.le_of_ble_eq_true rfl, Nat.le_of_ble_eq_true rfl⟩ (EvP.mono (by decide) (c_F_at_order hT69 (KW.xr k72 hX) )) (fun r75 P76 g77 => mpp 83 rfl ?_)
              obtain ⟨⟨x78, rfl, g79⟩, e80⟩ := g77
              have e80 := e80.symm
              subst e80
              have wx78 := ti_full x78
              replace g79 : (0 ≤ t2.toInt ∧ t2.toInt ≤ 7 ∧ x78.toInt = (fv P65 295 t2.toInt.toNat).toInt) ∨ ((t2.toInt < 0 ∨ 8 ≤ t2.toInt) ∧ x78.toInt = 0) := g79
              try replace g79 : x78.toInt = (fv P65 295 t2.toInt.toNat).toInt := (g79.resolve_right (by omega)).2.2
              show MEvP _ none q_83 83 [(4, .int x57), (3, .ref b5), (0, .ref 0), (1, .int t1), (2, .int t2)] [.int x78] _ _ _ _
              have w82_ : SRC Po P65 _ 1 x67.toInt := g68
              obtain ⟨h1w82_, h2w82_, h3w82_⟩ := w82_.resolve_left (fun q => by obtain ⟨q1, q2, q3⟩ := q; omega)
              obtain ⟨fw82_, h4w82_, h5w82_⟩ := h3w82_ rfl
              have u81 : layerC Po x78.toInt t1.toInt t2.toInt := (show (x78.toInt = -1001 ∧ (t1.toInt < 0 ∨ (fv Po 1 1).toInt ≤ t1.toInt ∨ 8 ≤ t1.toInt)) ∨ ((0 ≤ t1.toInt ∧ t1.toInt + 1 ≤ (fv Po 1 1).toInt ∧ t1.toInt ≤ 7) ∧ (fv Po (rv Po 2 t1.toInt.toNat) 0).toInt = 0 ∧ (t2.toInt < 0 ∨ (fv Po (rv Po 2 t1.toInt.toNat) 1).toInt ≤ t2.toInt) ∧ x78.toInt = -1001) ∨ ((0 ≤ t1.toInt ∧ t1.toInt + 1 ≤ (fv Po 1 1).toInt ∧ t1.toInt ≤ 7) ∧ (¬ (fv Po (rv Po 2 t1.toInt.toNat) 0).toInt = 0 ∨ (0 ≤ t2.toInt ∧ t2.toInt < (fv Po (rv Po 2 t1.toInt.toNat) 1).toInt)) ∧ ((¬ (fv Po (rv Po 2 t1.toInt.toNat) 0).toInt = 0 ∧ x78.toInt = -1002) ∨ ((fv Po (rv Po 2 t1.toInt.toNat) 0).toInt = 0 ∧ 1 ≤ cntF (fun j : Nat => fv Po ((rv Po 2 t1.toInt.toNat) + 2) j) 0 (nC (fv Po (rv Po 2 t1.toInt.toNat) 0).toInt (fv Po (rv Po 2 t1.toInt.toNat) 1).toInt) ∧ x78.toInt = -1004))) ∨ ((0 ≤ t1.toInt ∧ t1.toInt + 1 ≤ (fv Po 1 1).toInt ∧ t1.toInt ≤ 7) ∧ (fv Po (rv Po 2 t1.toInt.toNat) 0).toInt = 0 ∧ (0 ≤ t2.toInt ∧ t2.toInt < (fv Po (rv Po 2 t1.toInt.toNat) 1).toInt) ∧ cntF (fun j : Nat => fv Po ((rv Po 2 t1.toInt.toNat) + 2) j) 0 (nC (fv Po (rv Po 2 t1.toInt.toNat) 0).toInt (fv Po (rv Po 2 t1.toInt.toNat) 1).toInt) = 0 ∧ (sT (nP Po (rv Po 2 t1.toInt.toNat)) (cP Po (rv Po 2 t1.toInt.toNat)) (psP Po (rv Po 2 t1.toInt.toNat))) = 0 ∧ x78.toInt = -1004) ∨ ((0 ≤ t1.toInt ∧ t1.toInt + 1 ≤ (fv Po 1 1).toInt ∧ t1.toInt ≤ 7) ∧ (fv Po (rv Po 2 t1.toInt.toNat) 0).toInt = 0 ∧ (0 ≤ t2.toInt ∧ t2.toInt < (fv Po (rv Po 2 t1.toInt.toNat) 1).toInt) ∧ cntF (fun j : Nat => fv Po ((rv Po 2 t1.toInt.toNat) + 2) j) 0 (nC (fv Po (rv Po 2 t1.toInt.toNat) 0).toInt (fv Po (rv Po 2 t1.toInt.toNat) 1).toInt) = 0 ∧ 1 ≤ (sT (nP Po (rv Po 2 t1.toInt.toNat)) (cP Po (rv Po 2 t1.toInt.toNat)) (psP Po (rv Po 2 t1.toInt.toNat))) ∧ (∃ f : Nat → Int, (sF (nP Po (rv Po 2 t1.toInt.toNat)) (cP Po (rv Po 2 t1.toInt.toNat)) (psP Po (rv Po 2 t1.toInt.toNat))) = some f ∧ (t2.toInt.toNat < nP Po (rv Po 2 t1.toInt.toNat) → x78.toInt = f t2.toInt.toNat))) from by rw [q6r.2.2.2]; exact Or.inr (Or.inr (Or.inr (Or.inr (⟨by omega, by omega, by omega, by omega, by have q := g68; unfold SRC at q; rcases q with ⟨h1, h2, h3⟩ | ⟨h1, h2, h3⟩ <;> omega, ⟨fw82_, h4w82_, fun hj => (show x78.toInt = (fv P65 295 t2.toInt.toNat).toInt from by have hj : t2.toInt.toNat < (min (fv Po b5 1).toInt 7).toNat := hj; omega).trans (h5w82_ _ hj)⟩⟩)))))
              exact mp_iret ⟨⟨_, rfl, u81⟩, hT69, k72, trivial⟩ dX6_layer_83 (Or.inl rfl)
            · have c74 : x67.toInt = 0 := ti_ne_n c74
              refine mp_a (a_sipush (v := -1004) dX6_layer_66 rfl) (mpp 69 rfl ?_)
              refine mp_a (a_goto (t := 83) dX6_layer_69 (by decide)) ?_
              have w84_ := g68
              unfold SRC at w84_
              have u83 : layerC Po (-1004 : Int) t1.toInt t2.toInt := (show ((-1004 : Int) = -1001 ∧ (t1.toInt < 0 ∨ (fv Po 1 1).toInt ≤ t1.toInt ∨ 8 ≤ t1.toInt)) ∨ ((0 ≤ t1.toInt ∧ t1.toInt + 1 ≤ (fv Po 1 1).toInt ∧ t1.toInt ≤ 7) ∧ (fv Po (rv Po 2 t1.toInt.toNat) 0).toInt = 0 ∧ (t2.toInt < 0 ∨ (fv Po (rv Po 2 t1.toInt.toNat) 1).toInt ≤ t2.toInt) ∧ (-1004 : Int) = -1001) ∨ ((0 ≤ t1.toInt ∧ t1.toInt + 1 ≤ (fv Po 1 1).toInt ∧ t1.toInt ≤ 7) ∧ (¬ (fv Po (rv Po 2 t1.toInt.toNat) 0).toInt = 0 ∨ (0 ≤ t2.toInt ∧ t2.toInt < (fv Po (rv Po 2 t1.toInt.toNat) 1).toInt)) ∧ ((¬ (fv Po (rv Po 2 t1.toInt.toNat) 0).toInt = 0 ∧ (-1004 : Int) = -1002) ∨ ((fv Po (rv Po 2 t1.toInt.toNat) 0).toInt = 0 ∧ 1 ≤ cntF (fun j : Nat => fv Po ((rv Po 2 t1.toInt.toNat) + 2) j) 0 (nC (fv Po (rv Po 2 t1.toInt.toNat) 0).toInt (fv Po (rv Po 2 t1.toInt.toNat) 1).toInt) ∧ (-1004 : Int) = -1004))) ∨ ((0 ≤ t1.toInt ∧ t1.toInt + 1 ≤ (fv Po 1 1).toInt ∧ t1.toInt ≤ 7) ∧ (fv Po (rv Po 2 t1.toInt.toNat) 0).toInt = 0 ∧ (0 ≤ t2.toInt ∧ t2.toInt < (fv Po (rv Po 2 t1.toInt.toNat) 1).toInt) ∧ cntF (fun j : Nat => fv Po ((rv Po 2 t1.toInt.toNat) + 2) j) 0 (nC (fv Po (rv Po 2 t1.toInt.toNat) 0).toInt (fv Po (rv Po 2 t1.toInt.toNat) 1).toInt) = 0 ∧ (sT (nP Po (rv Po 2 t1.toInt.toNat)) (cP Po (rv Po 2 t1.toInt.toNat)) (psP Po (rv Po 2 t1.toInt.toNat))) = 0 ∧ (-1004 : Int) = -1004) ∨ ((0 ≤ t1.toInt ∧ t1.toInt + 1 ≤ (fv Po 1 1).toInt ∧ t1.toInt ≤ 7) ∧ (fv Po (rv Po 2 t1.toInt.toNat) 0).toInt = 0 ∧ (0 ≤ t2.toInt ∧ t2.toInt < (fv Po (rv Po 2 t1.toInt.toNat) 1).toInt) ∧ cntF (fun j : Nat => fv Po ((rv Po 2 t1.toInt.toNat) + 2) j) 0 (nC (fv Po (rv Po 2 t1.toInt.toNat) 0).toInt (fv Po (rv Po 2 t1.toInt.toNat) 1).toInt) = 0 ∧ 1 ≤ (sT (nP Po (rv Po 2 t1.toInt.toNat)) (cP Po (rv Po 2 t1.toInt.toNat)) (psP Po (rv Po 2 t1.toInt.toNat))) ∧ (∃ f : Nat → Int, (sF (nP Po (rv Po 2 t1.toInt.toNat)) (cP Po (rv Po 2 t1.toInt.toNat)) (psP Po (rv Po 2 t1.toInt.toNat))) = some f ∧ (t2.toInt.toNat < nP Po (rv Po 2 t1.toInt.toNat) → (-1004 : Int) = f t2.toInt.toNat))) from by rw [q6r.2.2.2]; exact Or.inr (Or.inr (Or.inr (Or.inl (⟨by omega, by omega, by omega, by omega, by rcases w84_ with ⟨h1, h2, h3⟩ | ⟨h1, h2, h3⟩ <;> omega, by omega⟩)))))
              exact mp_iret ⟨⟨_, rfl, u83⟩, hT69, k72, trivial⟩ dX6_layer_83 (Or.inl rfl)
          · have c60 : x57.toInt ≠ 0 := ti_eq_n c60
            refine mp_a (a_iload dX6_layer_51 rfl) (mpp 53 rfl ?_)
            have u85 : layerC Po x57.toInt t1.toInt t2.toInt := (show (x57.toInt = -1001 ∧ (t1.toInt < 0 ∨ (fv Po 1 1).toInt ≤ t1.toInt ∨ 8 ≤ t1.toInt)) ∨ ((0 ≤ t1.toInt ∧ t1.toInt + 1 ≤ (fv Po 1 1).toInt ∧ t1.toInt ≤ 7) ∧ (fv Po (rv Po 2 t1.toInt.toNat) 0).toInt = 0 ∧ (t2.toInt < 0 ∨ (fv Po (rv Po 2 t1.toInt.toNat) 1).toInt ≤ t2.toInt) ∧ x57.toInt = -1001) ∨ ((0 ≤ t1.toInt ∧ t1.toInt + 1 ≤ (fv Po 1 1).toInt ∧ t1.toInt ≤ 7) ∧ (¬ (fv Po (rv Po 2 t1.toInt.toNat) 0).toInt = 0 ∨ (0 ≤ t2.toInt ∧ t2.toInt < (fv Po (rv Po 2 t1.toInt.toNat) 1).toInt)) ∧ ((¬ (fv Po (rv Po 2 t1.toInt.toNat) 0).toInt = 0 ∧ x57.toInt = -1002) ∨ ((fv Po (rv Po 2 t1.toInt.toNat) 0).toInt = 0 ∧ 1 ≤ cntF (fun j : Nat => fv Po ((rv Po 2 t1.toInt.toNat) + 2) j) 0 (nC (fv Po (rv Po 2 t1.toInt.toNat) 0).toInt (fv Po (rv Po 2 t1.toInt.toNat) 1).toInt) ∧ x57.toInt = -1004))) ∨ ((0 ≤ t1.toInt ∧ t1.toInt + 1 ≤ (fv Po 1 1).toInt ∧ t1.toInt ≤ 7) ∧ (fv Po (rv Po 2 t1.toInt.toNat) 0).toInt = 0 ∧ (0 ≤ t2.toInt ∧ t2.toInt < (fv Po (rv Po 2 t1.toInt.toNat) 1).toInt) ∧ cntF (fun j : Nat => fv Po ((rv Po 2 t1.toInt.toNat) + 2) j) 0 (nC (fv Po (rv Po 2 t1.toInt.toNat) 0).toInt (fv Po (rv Po 2 t1.toInt.toNat) 1).toInt) = 0 ∧ (sT (nP Po (rv Po 2 t1.toInt.toNat)) (cP Po (rv Po 2 t1.toInt.toNat)) (psP Po (rv Po 2 t1.toInt.toNat))) = 0 ∧ x57.toInt = -1004) ∨ ((0 ≤ t1.toInt ∧ t1.toInt + 1 ≤ (fv Po 1 1).toInt ∧ t1.toInt ≤ 7) ∧ (fv Po (rv Po 2 t1.toInt.toNat) 0).toInt = 0 ∧ (0 ≤ t2.toInt ∧ t2.toInt < (fv Po (rv Po 2 t1.toInt.toNat) 1).toInt) ∧ cntF (fun j : Nat => fv Po ((rv Po 2 t1.toInt.toNat) + 2) j) 0 (nC (fv Po (rv Po 2 t1.toInt.toNat) 0).toInt (fv Po (rv Po 2 t1.toInt.toNat) 1).toInt) = 0 ∧ 1 ≤ (sT (nP Po (rv Po 2 t1.toInt.toNat)) (cP Po (rv Po 2 t1.toInt.toNat)) (psP Po (rv Po 2 t1.toInt.toNat))) ∧ (∃ f : Nat → Int, (sF (nP Po (rv Po 2 t1.toInt.toNat)) (cP Po (rv Po 2 t1.toInt.toNat)) (psP Po (rv Po 2 t1.toInt.toNat))) = some f ∧ (t2.toInt.toNat < nP Po (rv Po 2 t1.toInt.toNat) → x57.toInt = f t2.toInt.toNat))) from by rw [q6r.2.2.2]; exact Or.inr (Or.inr (Or.inl (⟨by omega, by omega, by omega⟩))))
            exact mp_iret ⟨⟨_, rfl, u85⟩, hT, KW.refl, trivial⟩ dX6_layer_53 (Or.inl rfl)
        · have c53 : t2.toInt ≥ (fv Po b5 1).toInt := ti_lt_n c53
          refine mp_a (a_sipush (v := -1001) dX6_layer_36 rfl) (mpp 39 rfl ?_)
          have u86 : layerC Po (-1001 : Int) t1.toInt t2.toInt := (show ((-1001 : Int) = -1001 ∧ (t1.toInt < 0 ∨ (fv Po 1 1).toInt ≤ t1.toInt ∨ 8 ≤ t1.toInt)) ∨ ((0 ≤ t1.toInt ∧ t1.toInt + 1 ≤ (fv Po 1 1).toInt ∧ t1.toInt ≤ 7) ∧ (fv Po (rv Po 2 t1.toInt.toNat) 0).toInt = 0 ∧ (t2.toInt < 0 ∨ (fv Po (rv Po 2 t1.toInt.toNat) 1).toInt ≤ t2.toInt) ∧ (-1001 : Int) = -1001) ∨ ((0 ≤ t1.toInt ∧ t1.toInt + 1 ≤ (fv Po 1 1).toInt ∧ t1.toInt ≤ 7) ∧ (¬ (fv Po (rv Po 2 t1.toInt.toNat) 0).toInt = 0 ∨ (0 ≤ t2.toInt ∧ t2.toInt < (fv Po (rv Po 2 t1.toInt.toNat) 1).toInt)) ∧ ((¬ (fv Po (rv Po 2 t1.toInt.toNat) 0).toInt = 0 ∧ (-1001 : Int) = -1002) ∨ ((fv Po (rv Po 2 t1.toInt.toNat) 0).toInt = 0 ∧ 1 ≤ cntF (fun j : Nat => fv Po ((rv Po 2 t1.toInt.toNat) + 2) j) 0 (nC (fv Po (rv Po 2 t1.toInt.toNat) 0).toInt (fv Po (rv Po 2 t1.toInt.toNat) 1).toInt) ∧ (-1001 : Int) = -1004))) ∨ ((0 ≤ t1.toInt ∧ t1.toInt + 1 ≤ (fv Po 1 1).toInt ∧ t1.toInt ≤ 7) ∧ (fv Po (rv Po 2 t1.toInt.toNat) 0).toInt = 0 ∧ (0 ≤ t2.toInt ∧ t2.toInt < (fv Po (rv Po 2 t1.toInt.toNat) 1).toInt) ∧ cntF (fun j : Nat => fv Po ((rv Po 2 t1.toInt.toNat) + 2) j) 0 (nC (fv Po (rv Po 2 t1.toInt.toNat) 0).toInt (fv Po (rv Po 2 t1.toInt.toNat) 1).toInt) = 0 ∧ (sT (nP Po (rv Po 2 t1.toInt.toNat)) (cP Po (rv Po 2 t1.toInt.toNat)) (psP Po (rv Po 2 t1.toInt.toNat))) = 0 ∧ (-1001 : Int) = -1004) ∨ ((0 ≤ t1.toInt ∧ t1.toInt + 1 ≤ (fv Po 1 1).toInt ∧ t1.toInt ≤ 7) ∧ (fv Po (rv Po 2 t1.toInt.toNat) 0).toInt = 0 ∧ (0 ≤ t2.toInt ∧ t2.toInt < (fv Po (rv Po 2 t1.toInt.toNat) 1).toInt) ∧ cntF (fun j : Nat => fv Po ((rv Po 2 t1.toInt.toNat) + 2) j) 0 (nC (fv Po (rv Po 2 t1.toInt.toNat) 0).toInt (fv Po (rv Po 2 t1.toInt.toNat) 1).toInt) = 0 ∧ 1 ≤ (sT (nP Po (rv Po 2 t1.toInt.toNat)) (cP Po (rv Po 2 t1.toInt.toNat)) (psP Po (rv Po 2 t1.toInt.toNat))) ∧ (∃ f : Nat → Int, (sF (nP Po (rv Po 2 t1.toInt.toNat)) (cP Po (rv Po 2 t1.toInt.toNat)) (psP Po (rv Po 2 t1.toInt.toNat))) = some f ∧ (t2.toInt.toNat < nP Po (rv Po 2 t1.toInt.toNat) → (-1001 : Int) = f t2.toInt.toNat))) from by rw [q6r.2.2.2]; exact Or.inr (Or.inl (⟨by omega, by omega, by omega, by omega⟩)))
          exact mp_iret ⟨⟨_, rfl, u86⟩, hT, KW.refl, trivial⟩ dX6_layer_39 (Or.inl rfl)

set_option maxHeartbeats 4000000 in
theorem c_F_orders {Po : mP} {t1 : Int32} (hT : Typ Po) (hX : XR Po)   : EvP 6 84 [.ref 0, .int t1] Po (fun r P' => (∃ x : Int32, r = some (.int x) ∧ (ordersC Po x.toInt t1.toInt)) ∧ Typ P' ∧ KW [832, 896, 960, 1024] Po P' ∧ True) := by
  refine EvP.of qm_84 (Nat.le_of_ble_eq_true rfl) rfl ?_
  show MEvP _ none q_84 0 [(0, .ref 0), (1, .int t1)] [] _ 0 0 _
  have w_t1 := ti_full t1
  refine mp_a (a_aload_n dX6_orders_0 rfl) (mpp 1 rfl ?_)
  refine mt_getU (i := 10) (k := 0) (A := 1) hT dX6_orders_1 rfl rl_0 (by decide) rfl (by decide) rfl un_31 (mpp 4 rfl ?_)
  refine mp_a (a_iload_n dX6_orders_4 rfl) (mpp 5 rfl ?_)
  refine mt_callv (i := 94) (q' := q_9) (As := [.int t1]) (rest := []) hT dX6_orders_5 rfl qm_9 (by decide) rfl rl_1 (by decide) rfl (Nat.le_of_ble_eq_true rfl) rfl ⟨rfl, rfl⟩ ⟨Nat.le_of_ble_eq_true rfl, Nat.le_of_ble_eq_true rfl⟩ (EvP.mono (by decide) (c_CS_pieceAt_NState hT hX )) (fun r1 P2 g3 => mpp 8 rfl ?_)
  obtain ⟨g3, e4⟩ := g3
  have e4 := e4.symm
  subst e4
  rcases g3 with ⟨rfl, q6n⟩ | ⟨b5, rfl, q6, q6r⟩
  · show MEvP _ none q_84 8 [(0, .ref 0), (1, .int t1)] [.null] _ _ _ _
    replace q6n : t1.toInt < 0 ∨ (fv Po 1 1).toInt ≤ t1.toInt ∨ 8 ≤ t1.toInt := q6n
    have g7 : (0 : Int) ≤ (fv Po 1 1).toInt ∧ (fv Po 1 1).toInt ≤ 8 := Typ.rng hT rl_1 (by decide) (by decide) rfl
    refine mp_a (a_astore_nN (L' := [(2, .null), (0, .ref 0), (1, .int t1)]) dX6_orders_8 (by decide) rfl) (mpp 9 rfl ?_)
    refine mp_a (a_aload_nN dX6_orders_9 rfl) (mpp 10 rfl ?_)
    refine mp_calls (i := 181) (q' := q_63) (As := [.null]) (rest := []) dX6_orders_10 rfl qm_63 (by decide) rfl (Nat.le_of_ble_eq_true rfl) rfl ⟨rfl, rfl⟩ ⟨Nat.le_of_ble_eq_true rfl, Nat.le_of_ble_eq_true rfl⟩ (EvP.mono (by decide) (c_F_errorOfDecidedStrip_null hT hX )) (fun r8 P9 g10 => mpp 13 rfl ?_)
    obtain ⟨⟨x11, rfl, g12⟩, e13⟩ := g10
    have e13 := e13.symm
    subst e13
    have wx11 := ti_full x11
    replace g12 : x11.toInt = -1001 := g12
    show MEvP _ none q_84 13 [(2, .null), (0, .ref 0), (1, .int t1)] [.int x11] _ _ _ _
    refine mp_a (a_istore_n (L' := [(3, .int x11), (2, .null), (0, .ref 0), (1, .int t1)]) dX6_orders_13 (by decide) rfl) (mpp 14 rfl ?_)
    refine mp_a (a_iload_n dX6_orders_14 rfl) (mpp 15 rfl ?_)
    refine mp_Tb (t := 22) (j_if_ne dX6_orders_15) (by decide) (fun c14 => ?_) (fun c14 => mpp 18 rfl ?_)
    · have c14 : x11.toInt ≠ 0 := ti_ne c14
      refine mp_a (a_iload_n dX6_orders_22 rfl) (mpp 23 rfl ?_)
      have u15 : ordersC Po x11.toInt t1.toInt := (show (x11.toInt = -1001 ∧ (t1.toInt < 0 ∨ (fv Po 1 1).toInt ≤ t1.toInt ∨ 8 ≤ t1.toInt)) ∨ ((0 ≤ t1.toInt ∧ t1.toInt + 1 ≤ (fv Po 1 1).toInt ∧ t1.toInt ≤ 7) ∧ ((¬ (fv Po (rv Po 2 t1.toInt.toNat) 0).toInt = 0 ∧ x11.toInt = -1002) ∨ ((fv Po (rv Po 2 t1.toInt.toNat) 0).toInt = 0 ∧ 1 ≤ cntF (fun j : Nat => fv Po ((rv Po 2 t1.toInt.toNat) + 2) j) 0 (nC (fv Po (rv Po 2 t1.toInt.toNat) 0).toInt (fv Po (rv Po 2 t1.toInt.toNat) 1).toInt) ∧ x11.toInt = -1004))) ∨ ((0 ≤ t1.toInt ∧ t1.toInt + 1 ≤ (fv Po 1 1).toInt ∧ t1.toInt ≤ 7) ∧ (fv Po (rv Po 2 t1.toInt.toNat) 0).toInt = 0 ∧ cntF (fun j : Nat => fv Po ((rv Po 2 t1.toInt.toNat) + 2) j) 0 (nC (fv Po (rv Po 2 t1.toInt.toNat) 0).toInt (fv Po (rv Po 2 t1.toInt.toNat) 1).toInt) = 0 ∧ x11.toInt = (sT (nP Po (rv Po 2 t1.toInt.toNat)) (cP Po (rv Po 2 t1.toInt.toNat)) (psP Po (rv Po 2 t1.toInt.toNat)))) from by exact Or.inl (⟨by omega, by omega⟩))
      exact mp_iret ⟨⟨_, rfl, u15⟩, hT, KW.refl, trivial⟩ dX6_orders_23 (Or.inl rfl)
    · have c14 : x11.toInt = 0 := ti_ne_n c14
      refine mp_a (a_aload_nN dX6_orders_18 rfl) (mpp 19 rfl ?_)
      refine mp_t (s_ifnonnullN dX6_orders_19) (mpp 22 rfl ?_)
      refine mp_a (a_iload_n dX6_orders_22 rfl) (mpp 23 rfl ?_)
      have u16 : ordersC Po x11.toInt t1.toInt := (show (x11.toInt = -1001 ∧ (t1.toInt < 0 ∨ (fv Po 1 1).toInt ≤ t1.toInt ∨ 8 ≤ t1.toInt)) ∨ ((0 ≤ t1.toInt ∧ t1.toInt + 1 ≤ (fv Po 1 1).toInt ∧ t1.toInt ≤ 7) ∧ ((¬ (fv Po (rv Po 2 t1.toInt.toNat) 0).toInt = 0 ∧ x11.toInt = -1002) ∨ ((fv Po (rv Po 2 t1.toInt.toNat) 0).toInt = 0 ∧ 1 ≤ cntF (fun j : Nat => fv Po ((rv Po 2 t1.toInt.toNat) + 2) j) 0 (nC (fv Po (rv Po 2 t1.toInt.toNat) 0).toInt (fv Po (rv Po 2 t1.toInt.toNat) 1).toInt) ∧ x11.toInt = -1004))) ∨ ((0 ≤ t1.toInt ∧ t1.toInt + 1 ≤ (fv Po 1 1).toInt ∧ t1.toInt ≤ 7) ∧ (fv Po (rv Po 2 t1.toInt.toNat) 0).toInt = 0 ∧ cntF (fun j : Nat => fv Po ((rv Po 2 t1.toInt.toNat) + 2) j) 0 (nC (fv Po (rv Po 2 t1.toInt.toNat) 0).toInt (fv Po (rv Po 2 t1.toInt.toNat) 1).toInt) = 0 ∧ x11.toInt = (sT (nP Po (rv Po 2 t1.toInt.toNat)) (cP Po (rv Po 2 t1.toInt.toNat)) (psP Po (rv Po 2 t1.toInt.toNat)))) from by exact Or.inl (⟨by omega, by omega⟩))
      exact mp_iret ⟨⟨_, rfl, u16⟩, hT, KW.refl, trivial⟩ dX6_orders_23 (Or.inl rfl)
  · show MEvP _ none q_84 8 [(0, .ref 0), (1, .int t1)] [.ref b5] _ _ _ _
    replace q6r : 0 ≤ t1.toInt ∧ t1.toInt ≤ 7 ∧ t1.toInt + 1 ≤ (fv Po 1 1).toInt ∧ rv Po 2 t1.toInt.toNat = b5 := q6r
    have g17 : (0 : Int) ≤ (fv Po 1 1).toInt ∧ (fv Po 1 1).toInt ≤ 8 := Typ.rng hT rl_1 (by decide) (by decide) rfl
    have w18 := np_ar q6
    refine mp_a (a_astore_n (L' := [(2, .ref b5), (0, .ref 0), (1, .int t1)]) dX6_orders_8 (by decide) rfl) (mpp 9 rfl ?_)
    refine mp_a (a_aload_n dX6_orders_9 rfl) (mpp 10 rfl ?_)
    refine mp_calls (i := 181) (q' := q_63) (As := [.ref b5]) (rest := []) dX6_orders_10 rfl qm_63 (by decide) rfl (Nat.le_of_ble_eq_true rfl) rfl ⟨rfl, rfl⟩ ⟨Nat.le_of_ble_eq_true rfl, Nat.le_of_ble_eq_true rfl⟩ (EvP.mono (by decide) (c_F_errorOfDecidedStrip_NPiece hT hX q6)) (fun r19 P20 g21 => mpp 13 rfl ?_)
    obtain ⟨⟨x22, rfl, g23⟩, e24⟩ := g21
    have e24 := e24.symm
    subst e24
    have wx22 := ti_full x22
    replace g23 : (x22.toInt = -1002 ∧ ¬ (fv Po b5 0).toInt = 0) ∨ (x22.toInt = -1004 ∧ (fv Po b5 0).toInt = 0 ∧ 1 ≤ cntF (fun j : Nat => fv Po (b5 + 2) j) 0 (nC (fv Po b5 0).toInt (fv Po b5 1).toInt)) ∨ (x22.toInt = 0 ∧ (fv Po b5 0).toInt = 0 ∧ cntF (fun j : Nat => fv Po (b5 + 2) j) 0 (nC (fv Po b5 0).toInt (fv Po b5 1).toInt) = 0) := g23
    have g25 := ti_full (fv Po b5 0)
    have g26 : (0 : Int) ≤ (fv Po b5 1).toInt ∧ (fv Po b5 1).toInt ≤ 8 := Typ.rng hT q6 (by decide) (by decide) rfl
    show MEvP _ none q_84 13 [(2, .ref b5), (0, .ref 0), (1, .int t1)] [.int x22] _ _ _ _
    refine mp_a (a_istore_n (L' := [(3, .int x22), (2, .ref b5), (0, .ref 0), (1, .int t1)]) dX6_orders_13 (by decide) rfl) (mpp 14 rfl ?_)
    refine mp_a (a_iload_n dX6_orders_14 rfl) (mpp 15 rfl ?_)
    refine mp_Tb (t := 22) (j_if_ne dX6_orders_15) (by decide) (fun c27 => ?_) (fun c27 => mpp 18 rfl ?_)
    · have c27 : x22.toInt ≠ 0 := ti_ne c27
      refine mp_a (a_iload_n dX6_orders_22 rfl) (mpp 23 rfl ?_)
      have u28 : ordersC Po x22.toInt t1.toInt := (show (x22.toInt = -1001 ∧ (t1.toInt < 0 ∨ (fv Po 1 1).toInt ≤ t1.toInt ∨ 8 ≤ t1.toInt)) ∨ ((0 ≤ t1.toInt ∧ t1.toInt + 1 ≤ (fv Po 1 1).toInt ∧ t1.toInt ≤ 7) ∧ ((¬ (fv Po (rv Po 2 t1.toInt.toNat) 0).toInt = 0 ∧ x22.toInt = -1002) ∨ ((fv Po (rv Po 2 t1.toInt.toNat) 0).toInt = 0 ∧ 1 ≤ cntF (fun j : Nat => fv Po ((rv Po 2 t1.toInt.toNat) + 2) j) 0 (nC (fv Po (rv Po 2 t1.toInt.toNat) 0).toInt (fv Po (rv Po 2 t1.toInt.toNat) 1).toInt) ∧ x22.toInt = -1004))) ∨ ((0 ≤ t1.toInt ∧ t1.toInt + 1 ≤ (fv Po 1 1).toInt ∧ t1.toInt ≤ 7) ∧ (fv Po (rv Po 2 t1.toInt.toNat) 0).toInt = 0 ∧ cntF (fun j : Nat => fv Po ((rv Po 2 t1.toInt.toNat) + 2) j) 0 (nC (fv Po (rv Po 2 t1.toInt.toNat) 0).toInt (fv Po (rv Po 2 t1.toInt.toNat) 1).toInt) = 0 ∧ x22.toInt = (sT (nP Po (rv Po 2 t1.toInt.toNat)) (cP Po (rv Po 2 t1.toInt.toNat)) (psP Po (rv Po 2 t1.toInt.toNat)))) from by rw [q6r.2.2.2]; exact Or.inr (Or.inl (⟨by omega, by omega⟩)))
      exact mp_iret ⟨⟨_, rfl, u28⟩, hT, KW.refl, trivial⟩ dX6_orders_23 (Or.inl rfl)
    · have c27 : x22.toInt = 0 := ti_ne_n c27
      refine mp_a (a_aload_n dX6_orders_18 rfl) (mpp 19 rfl ?_)
      refine mp_t (s_ifnonnullR (t := 24) dX6_orders_19 (by decide)) ?_
      refine mp_a (a_aload_n dX6_orders_24 rfl) (mpp 25 rfl ?_)
      refine mt_getU (i := 46) (k := 6) (A := 294) hT dX6_orders_25 rfl rl_0 (by decide) rfl (by decide) rfl un_13 (mpp 28 rfl ?_)
      refine mp_a (a_aload_n dX6_orders_28 rfl) (mpp 29 rfl ?_)
      refine mp_ldc (v := 1000000) dX6_orders_29 rfl (mpp 31 rfl ?_)
      have p29 : b5 ≤ 288 ∨ 298 ≤ b5 := by omega
      have p30 : 1 ≤ (1000000 : Int) := by omega
      have p31 : (1000000 : Int) = 1 ∨ 783820 ≤ (1000000 : Int) := by omega
      refine mt_callv (i := 184) (q' := q_64) (As := [.ref b5, .int 1000000]) (rest := []) hT dX6_orders_31 rfl qm_64 (by decide) rfl rl_294 (by decide) rfl (Nat.le_of_ble_eq_true rfl) rfl ⟨rfl, rfl⟩ ⟨Nat.le_of_ble_eq_true rfl, Nat.le_of_ble_eq_true rfl⟩ (EvP.mono (by decide) (c_CL_search_Layers_NPiece hT hX p29 p30 p31 q6)) (fun r32 P33 g34 => mpp 34 rfl ?_)
      obtain ⟨⟨x35, rfl, g36⟩, hT37, k38, R39⟩ := g34
      have k40 : KW [832, 896, 960, 1024] Po P33 := KW.trans KW.refl k38 rfl
      have wx35 := ti_full x35
      replace g36 : SRC Po P33 b5 (1000000 : Int) x35.toInt := g36
      show MEvP _ none q_84 34 [(3, .int x22), (2, .ref b5), (0, .ref 0), (1, .int t1)] [.int x35] _ _ _ _
      have w43_ := g36
      unfold SRC at w43_
      have w43_t := sT_le (n := nP Po b5) (cr := cP Po b5) (ps := psP Po b5) (by omega)
      have u42 : ordersC Po x35.toInt t1.toInt := (show (x35.toInt = -1001 ∧ (t1.toInt < 0 ∨ (fv Po 1 1).toInt ≤ t1.toInt ∨ 8 ≤ t1.toInt)) ∨ ((0 ≤ t1.toInt ∧ t1.toInt + 1 ≤ (fv Po 1 1).toInt ∧ t1.toInt ≤ 7) ∧ ((¬ (fv Po (rv Po 2 t1.toInt.toNat) 0).toInt = 0 ∧ x35.toInt = -1002) ∨ ((fv Po (rv Po 2 t1.toInt.toNat) 0).toInt = 0 ∧ 1 ≤ cntF (fun j : Nat => fv Po ((rv Po 2 t1.toInt.toNat) + 2) j) 0 (nC (fv Po (rv Po 2 t1.toInt.toNat) 0).toInt (fv Po (rv Po 2 t1.toInt.toNat) 1).toInt) ∧ x35.toInt = -1004))) ∨ ((0 ≤ t1.toInt ∧ t1.toInt + 1 ≤ (fv Po 1 1).toInt ∧ t1.toInt ≤ 7) ∧ (fv Po (rv Po 2 t1.toInt.toNat) 0).toInt = 0 ∧ cntF (fun j : Nat => fv Po ((rv Po 2 t1.toInt.toNat) + 2) j) 0 (nC (fv Po (rv Po 2 t1.toInt.toNat) 0).toInt (fv Po (rv Po 2 t1.toInt.toNat) 1).toInt) = 0 ∧ x35.toInt = (sT (nP Po (rv Po 2 t1.toInt.toNat)) (cP Po (rv Po 2 t1.toInt.toNat)) (psP Po (rv Po 2 t1.toInt.toNat)))) from by rw [q6r.2.2.2]; exact Or.inr (Or.inr (⟨by omega, by omega, by omega, by rcases w43_ with ⟨h1, h2, h3⟩ | ⟨h1, h2, h3⟩ <;> omega⟩)))
      exact mp_iret ⟨⟨_, rfl, u42⟩, hT37, k40, trivial⟩ dX6_orders_34 (Or.inl rfl)

set_option maxHeartbeats 4000000 in
theorem c_CP_leftEndOf_NPiece {Po : mP} {a0_ : Nat} {t1 : Int32} (hT : Typ Po) (hX : XR Po)  (hp0 : 0 ≤ t1.toInt) (hp1 : t1.toInt + 1 ≤ (fv Po a0_ 1).toInt) (ha0 : rl a0_ = 33) : EvP 3 87 [.ref a0_, .int t1] Po (fun r P' => (∃ x : Int32, r = some (.int x) ∧ (x.toInt = lfF (fun j : Nat => fv Po (a0_ + 1) j) t1.toInt.toNat)) ∧ P' = Po) := by
  refine EvP.of qm_87 (Nat.le_of_ble_eq_true rfl) rfl ?_
  show MEvP _ none q_87 0 [(0, .ref a0_), (1, .int t1)] [] _ 0 0 _
  have w1 := np_ar ha0
  have w_t1 := ti_full t1
  have g2 : (0 : Int) ≤ (fv Po a0_ 1).toInt ∧ (fv Po a0_ 1).toInt ≤ 8 := Typ.rng hT ha0 (by decide) (by decide) rfl
  refine mp_a (a_aload_n dX2_leftEndOf_0 rfl) (mpp 1 rfl ?_)
  refine mp_a (a_iload_n dX2_leftEndOf_1 rfl) (mpp 2 rfl ?_)
  refine mt_callv (i := 56) (q' := q_13) (As := [.int t1]) (rest := []) hT dX2_leftEndOf_2 rfl qm_13 (by decide) rfl ha0 (by decide) rfl (Nat.le_of_ble_eq_true rfl) rfl ⟨rfl, rfl⟩ ⟨Nat.le_of_ble_eq_true rfl, Nat.le_of_ble_eq_true rfl⟩ (EvP.mono (by decide) (c_CP_placeOf_NPiece hT hX ha0)) (fun r3 P4 g5 => mpp 5 rfl ?_)
  obtain ⟨⟨x6, rfl, g7⟩, e8⟩ := g5
  have e8 := e8.symm
  subst e8
  have wx6 := ti_full x6
  replace g7 : x6.toInt = (plF (fun j : Nat => fv Po (a0_ + 1) j) (min t1.toInt (fv Po a0_ 1).toInt).toNat).toInt := g7
  show MEvP _ none q_87 5 [(0, .ref a0_), (1, .int t1)] [.int x6] _ _ _ _
  refine mp_a (a_aload_n dX2_leftEndOf_5 rfl) (mpp 6 rfl ?_)
  refine mp_a (a_iload_n dX2_leftEndOf_6 rfl) (mpp 7 rfl ?_)
  refine mp_a (a_iconst (v := 1) dX2_leftEndOf_7 rfl) (mpp 8 rfl ?_)
  obtain ⟨z9, h10⟩ := ti_ex (t1 + 1 : Int32)
  have wz9 := ti_full z9
  refine mp_t (s_iadd (v := z9) dX2_leftEndOf_8 h10) (mpp 9 rfl ?_)
  try have e11 : z9.toInt = t1.toInt + 1 := ti_addz h10 rfl rfl (by omega) (by omega)
  refine mt_callv (i := 56) (q' := q_13) (As := [.int z9]) (rest := [.int x6]) hT dX2_leftEndOf_9 rfl qm_13 (by decide) rfl ha0 (by decide) rfl (Nat.le_of_ble_eq_true rfl) rfl ⟨rfl, rfl⟩ ⟨Nat.le_of_ble_eq_true rfl, Nat.le_of_ble_eq_true rfl⟩ (EvP.mono (by decide) (c_CP_placeOf_NPiece hT hX ha0)) (fun r12 P13 g14 => mpp 12 rfl ?_)
  obtain ⟨⟨x15, rfl, g16⟩, e17⟩ := g14
  have e17 := e17.symm
  subst e17
  have wx15 := ti_full x15
  replace g16 : x15.toInt = (plF (fun j : Nat => fv Po (a0_ + 1) j) (min z9.toInt (fv Po a0_ 1).toInt).toNat).toInt := g16
  show MEvP _ none q_87 12 [(0, .ref a0_), (1, .int t1)] [.int x15, .int x6] _ _ _ _
  obtain ⟨z18, h19⟩ := ti_ex (if (8 : Nat) = 7 then (if x6 < x15 then x15 else x6) else (if x15 < x6 then x15 else x6) : Int32)
  have e20 : z18.toInt = min x6.toInt x15.toInt := ti_mm8 h19
  refine mp_math (i := 59) (k := 0) (v := z18) dX2_leftEndOf_12 rfl (by decide) (Nat.le_of_ble_eq_true rfl) h19 ⟨Nat.le_of_ble_eq_true rfl, Nat.le_of_ble_eq_true rfl⟩ (mpp 15 rfl ?_)
  have w22_0 : x6.toInt = (plF (fun j : Nat => fv Po (a0_ + 1) j) t1.toInt.toNat).toInt := g7.trans (congrArg (fun n : Nat => (plF (fun j : Nat => fv Po (a0_ + 1) j) n).toInt) (by omega))
  have w22_1 : x15.toInt = (plF (fun j : Nat => fv Po (a0_ + 1) j) (t1.toInt.toNat + 1)).toInt := g16.trans (congrArg (fun n : Nat => (plF (fun j : Nat => fv Po (a0_ + 1) j) n).toInt) (by omega))
  have u21 : z18.toInt = lfF (fun j : Nat => fv Po (a0_ + 1) j) t1.toInt.toNat := by unfold lfF; rw [← w22_0, ← w22_1]; omega
  exact mp_iret ⟨⟨_, rfl, u21⟩, rfl⟩ dX2_leftEndOf_15 (Or.inl rfl)

set_option maxHeartbeats 4000000 in
theorem c_CP_rightEndOf_NPiece {Po : mP} {a0_ : Nat} {t1 : Int32} (hT : Typ Po) (hX : XR Po)  (hp0 : 0 ≤ t1.toInt) (hp1 : t1.toInt + 1 ≤ (fv Po a0_ 1).toInt) (ha0 : rl a0_ = 33) : EvP 3 89 [.ref a0_, .int t1] Po (fun r P' => (∃ x : Int32, r = some (.int x) ∧ (x.toInt = rgF (fun j : Nat => fv Po (a0_ + 1) j) t1.toInt.toNat)) ∧ P' = Po) := by
  refine EvP.of qm_89 (Nat.le_of_ble_eq_true rfl) rfl ?_
  show MEvP _ none q_89 0 [(0, .ref a0_), (1, .int t1)] [] _ 0 0 _
  have w1 := np_ar ha0
  have w_t1 := ti_full t1
  have g2 : (0 : Int) ≤ (fv Po a0_ 1).toInt ∧ (fv Po a0_ 1).toInt ≤ 8 := Typ.rng hT ha0 (by decide) (by decide) rfl
  refine mp_a (a_aload_n dX2_rightEndOf_0 rfl) (mpp 1 rfl ?_)
  refine mp_a (a_iload_n dX2_rightEndOf_1 rfl) (mpp 2 rfl ?_)
  refine mt_callv (i := 56) (q' := q_13) (As := [.int t1]) (rest := []) hT dX2_rightEndOf_2 rfl qm_13 (by decide) rfl ha0 (by decide) rfl (Nat.le_of_ble_eq_true rfl) rfl ⟨rfl, rfl⟩ ⟨Nat.le_of_ble_eq_true rfl, Nat.le_of_ble_eq_true rfl⟩ (EvP.mono (by decide) (c_CP_placeOf_NPiece hT hX ha0)) (fun r3 P4 g5 => mpp 5 rfl ?_)
  obtain ⟨⟨x6, rfl, g7⟩, e8⟩ := g5
  have e8 := e8.symm
  subst e8
  have wx6 := ti_full x6
  replace g7 : x6.toInt = (plF (fun j : Nat => fv Po (a0_ + 1) j) (min t1.toInt (fv Po a0_ 1).toInt).toNat).toInt := g7
  show MEvP _ none q_89 5 [(0, .ref a0_), (1, .int t1)] [.int x6] _ _ _ _
  refine mp_a (a_aload_n dX2_rightEndOf_5 rfl) (mpp 6 rfl ?_)
  refine mp_a (a_iload_n dX2_rightEndOf_6 rfl) (mpp 7 rfl ?_)
  refine mp_a (a_iconst (v := 1) dX2_rightEndOf_7 rfl) (mpp 8 rfl ?_)
  obtain ⟨z9, h10⟩ := ti_ex (t1 + 1 : Int32)
  have wz9 := ti_full z9
  refine mp_t (s_iadd (v := z9) dX2_rightEndOf_8 h10) (mpp 9 rfl ?_)
  try have e11 : z9.toInt = t1.toInt + 1 := ti_addz h10 rfl rfl (by omega) (by omega)
  refine mt_callv (i := 56) (q' := q_13) (As := [.int z9]) (rest := [.int x6]) hT dX2_rightEndOf_9 rfl qm_13 (by decide) rfl ha0 (by decide) rfl (Nat.le_of_ble_eq_true rfl) rfl ⟨rfl, rfl⟩ ⟨Nat.le_of_ble_eq_true rfl, Nat.le_of_ble_eq_true rfl⟩ (EvP.mono (by decide) (c_CP_placeOf_NPiece hT hX ha0)) (fun r12 P13 g14 => mpp 12 rfl ?_)
  obtain ⟨⟨x15, rfl, g16⟩, e17⟩ := g14
  have e17 := e17.symm
  subst e17
  have wx15 := ti_full x15
  replace g16 : x15.toInt = (plF (fun j : Nat => fv Po (a0_ + 1) j) (min z9.toInt (fv Po a0_ 1).toInt).toNat).toInt := g16
  show MEvP _ none q_89 12 [(0, .ref a0_), (1, .int t1)] [.int x15, .int x6] _ _ _ _
  obtain ⟨z18, h19⟩ := ti_ex (if (7 : Nat) = 7 then (if x6 < x15 then x15 else x6) else (if x15 < x6 then x15 else x6) : Int32)
  have e20 : z18.toInt = max x6.toInt x15.toInt := ti_mm7 h19
  refine mp_math (i := 65) (k := 0) (v := z18) dX2_rightEndOf_12 rfl (by decide) (Nat.le_of_ble_eq_true rfl) h19 ⟨Nat.le_of_ble_eq_true rfl, Nat.le_of_ble_eq_true rfl⟩ (mpp 15 rfl ?_)
  have w22_0 : x6.toInt = (plF (fun j : Nat => fv Po (a0_ + 1) j) t1.toInt.toNat).toInt := g7.trans (congrArg (fun n : Nat => (plF (fun j : Nat => fv Po (a0_ + 1) j) n).toInt) (by omega))
  have w22_1 : x15.toInt = (plF (fun j : Nat => fv Po (a0_ + 1) j) (t1.toInt.toNat + 1)).toInt := g16.trans (congrArg (fun n : Nat => (plF (fun j : Nat => fv Po (a0_ + 1) j) n).toInt) (by omega))
  have u21 : z18.toInt = rgF (fun j : Nat => fv Po (a0_ + 1) j) t1.toInt.toNat := by unfold rgF; rw [← w22_0, ← w22_1]; omega
  exact mp_iret ⟨⟨_, rfl, u21⟩, rfl⟩ dX2_rightEndOf_15 (Or.inl rfl)

