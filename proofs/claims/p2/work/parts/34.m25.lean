/-! methods on typed pools, 25 (written by a program) -/
set_option maxHeartbeats 4000000 in
theorem c_M_addsTold {Po : mP} {t1 : Int32} {t2 : Int32} {t3 : Int32} (hT : Typ Po) (hR : Rel Po)  : EvP 6 126 [.ref 301, .int t1, .int t2, .int t3] Po (fun r P' => (∃ x : Int32, r = some (.int x) ∧ (addsToldM (sr Po) (sr P') x.toInt t1.toInt t2.toInt t3.toInt)) ∧ Typ P' ∧ KW [1093, 1094, 1152, 1408, 1472] Po P' ∧ Rel P') := by
  refine EvP.of qm_126 (Nat.le_of_ble_eq_true rfl) rfl ?_
  show MEvP _ none q_126 0 [(0, .ref 301), (1, .int t1), (2, .int t2), (3, .int t3)] [] _ 0 0 _
  have w_t1 := ti_full t1
  have w_t2 := ti_full t2
  have w_t3 := ti_full t3
  refine mp_a (a_iload_n dX7_addsTold_0 rfl) (mpp 1 rfl ?_)
  refine mp_a (a_iconst (v := 0) dX7_addsTold_1 rfl) (mpp 2 rfl ?_)
  refine mp_a (a_iconst (v := 1) dX7_addsTold_2 rfl) (mpp 3 rfl ?_)
  refine mp_calls (i := 61) (q' := q_127) (As := [.int t1, .int 0, .int 1]) (rest := []) dX7_addsTold_3 rfl qm_127 (by decide) rfl (Nat.le_of_ble_eq_true rfl) rfl ⟨rfl, rfl⟩ ⟨Nat.le_of_ble_eq_true rfl, Nat.le_of_ble_eq_true rfl⟩ (EvP.mono (by decide) (c_M_isIn hT )) (fun r1 P2 g3 => mpp 6 rfl ?_)
  obtain ⟨⟨x4, rfl, g5⟩, e6⟩ := g3
  have e6 := e6.symm
  subst e6
  have wx4 := ti_full x4
  replace g5 : 0 ≤ x4.toInt ∧ x4.toInt ≤ 1 ∧ ((x4.toInt = 1 ∧ (0 : Int) ≤ t1.toInt ∧ t1.toInt ≤ (1 : Int)) ∨ (x4.toInt = 0 ∧ (t1.toInt < (0 : Int) ∨ (1 : Int) < t1.toInt))) := g5
  show MEvP _ none q_126 6 [(0, .ref 301), (1, .int t1), (2, .int t2), (3, .int t3)] [.int x4] _ _ _ _
  refine mp_Tb (t := 17) (j_if_eq dX7_addsTold_6) (by decide) (fun c7 => ?_) (fun c7 => mpp 9 rfl ?_)
  · have c7 : x4.toInt = 0 := ti_eq c7
    refine mp_a (a_iconst (v := 0) dX7_addsTold_17 rfl) (mpp 18 rfl ?_)
    refine mp_a (a_istore (L' := [(4, .int 0), (0, .ref 301), (1, .int t1), (2, .int t2), (3, .int t3)]) dX7_addsTold_18 (by decide) rfl) (mpp 20 rfl ?_)
    refine mp_a (a_iload dX7_addsTold_20 rfl) (mpp 22 rfl ?_)
    refine mp_Tt (t := 56) (j_if_eq dX7_addsTold_22) (by decide) (by decide) ?_
    refine mp_a (a_sipush (v := -1002) dX7_addsTold_56 rfl) (mpp 59 rfl ?_)
    have u8 : addsToldM (sr Po) (sr Po) (-1002 : Int) t1.toInt t2.toInt t3.toInt := Or.inl ⟨rfl, fun c h => by rcases h.1.2 with o0 | o0 <;> omega, fun j => (show fv Po 302 j = fv Po 302 j from rfl)⟩
    exact mp_iret ⟨⟨_, rfl, u8⟩, hT, KW.refl, hR⟩ dX7_addsTold_59 (Or.inl rfl)
  · have c7 : x4.toInt ≠ 0 := ti_eq_n c7
    refine mp_a (a_aload_n dX7_addsTold_9 rfl) (mpp 10 rfl ?_)
    refine mp_a (a_iload_n dX7_addsTold_10 rfl) (mpp 11 rfl ?_)
    refine mt_callv (i := 104) (q' := q_128) (As := [.int t2]) (rest := []) hT dX7_addsTold_11 rfl qm_128 (by decide) rfl rl_301 (by decide) rfl (Nat.le_of_ble_eq_true rfl) rfl ⟨rfl, rfl⟩ ⟨Nat.le_of_ble_eq_true rfl, Nat.le_of_ble_eq_true rfl⟩ (EvP.mono (by decide) (c_M_laysSizes hT )) (fun r10 P11 g12 => mpp 14 rfl ?_)
    obtain ⟨⟨x13, rfl, g14⟩, hT15, k16, R17⟩ := g12
    have k18 : KW [1093, 1094, 1152, 1408, 1472] Po P11 := KW.trans KW.refl k16 rfl
    have R20 := Rel.kw hR k16 rfl
    have wx13 := ti_full x13
    replace g14 : (x13.toInt = 0 ∧ ∀ c : Nat, ¬ okD t2.toInt c) ∨ (okD t2.toInt x13.toInt.toNat ∧ 1 ≤ x13.toInt ∧ x13.toInt ≤ 8 ∧ ∀ j : Nat, j < x13.toInt.toNat → fv P11 306 j = dgI t2.toInt x13.toInt.toNat j) := g14
    show MEvP _ none q_126 14 [(0, .ref 301), (1, .int t1), (2, .int t2), (3, .int t3)] [.int x13] _ _ _ _
    refine mp_a (a_goto (t := 18) dX7_addsTold_14 (by decide)) ?_
    refine mp_a (a_istore (L' := [(4, .int x13), (0, .ref 301), (1, .int t1), (2, .int t2), (3, .int t3)]) dX7_addsTold_18 (by decide) rfl) (mpp 20 rfl ?_)
    refine mp_a (a_iload dX7_addsTold_20 rfl) (mpp 22 rfl ?_)
    refine mp_Tb (t := 56) (j_if_eq dX7_addsTold_22) (by decide) (fun c21 => ?_) (fun c21 => mpp 25 rfl ?_)
    · have c21 : x13.toInt = 0 := ti_eq c21
      refine mp_a (a_sipush (v := -1002) dX7_addsTold_56 rfl) (mpp 59 rfl ?_)
      have u22 : addsToldM (sr Po) (sr P11) (-1002 : Int) t1.toInt t2.toInt t3.toInt := Or.inl ⟨rfl, fun c h => ((g14).resolve_right (by omega)).2 c h.1.1, fun j => (show fv P11 302 j = fv Po 302 j from by rw [KW.at k16 j rl_302 rfl])⟩
      exact mp_iret ⟨⟨_, rfl, u22⟩, hT15, k18, R20⟩ dX7_addsTold_59 (Or.inl rfl)
    · have c21 : x13.toInt ≠ 0 := ti_eq_n c21
      refine mp_a (a_aload_n dX7_addsTold_25 rfl) (mpp 26 rfl ?_)
      refine mp_a (a_iload_n dX7_addsTold_26 rfl) (mpp 27 rfl ?_)
      refine mp_a (a_iload dX7_addsTold_27 rfl) (mpp 29 rfl ?_)
      have p24 : x13.toInt ≤ 8 := by omega
      refine mt_callv (i := 107) (q' := q_130) (As := [.int t1, .int x13]) (rest := []) hT15 dX7_addsTold_29 rfl qm_130 (by decide) rfl rl_301 (by decide) rfl (Nat.le_of_ble_eq_true rfl) rfl ⟨rfl, rfl⟩ ⟨Nat.le_of_ble_eq_true rfl, Nat.le_of_ble_eq_true rfl⟩ (EvP.mono (by decide) (c_M_areSizes hT15 p24 )) (fun r25 P26 g27 => mpp 32 rfl ?_)
      obtain ⟨⟨x28, rfl, g29⟩, e30⟩ := g27
      have e30 := e30.symm
      subst e30
      have wx28 := ti_full x28
      replace g29 : 0 ≤ x28.toInt ∧ x28.toInt ≤ 1 ∧ ((x28.toInt = 1 ∧ ((t1.toInt = 0 ∧ 2 ≤ x13.toInt ∧ x13.toInt ≤ 7) ∨ (¬ t1.toInt = 0 ∧ (x13.toInt = 4 ∨ x13.toInt = 6 ∨ x13.toInt = 8) ∧ (smF (fun j : Nat => fv P11 306 j) x13.toInt.toNat).toInt = 24))) ∨ (x28.toInt = 0 ∧ ¬ ((t1.toInt = 0 ∧ 2 ≤ x13.toInt ∧ x13.toInt ≤ 7) ∨ (¬ t1.toInt = 0 ∧ (x13.toInt = 4 ∨ x13.toInt = 6 ∨ x13.toInt = 8) ∧ (smF (fun j : Nat => fv P11 306 j) x13.toInt.toNat).toInt = 24)))) := g29
      show MEvP _ none q_126 32 [(4, .int x13), (0, .ref 301), (1, .int t1), (2, .int t2), (3, .int t3)] [.int x28] _ _ _ _
      refine mp_Tb (t := 56) (j_if_eq dX7_addsTold_32) (by decide) (fun c31 => ?_) (fun c31 => mpp 35 rfl ?_)
      · have c31 : x28.toInt = 0 := ti_eq c31
        refine mp_a (a_sipush (v := -1002) dX7_addsTold_56 rfl) (mpp 59 rfl ?_)
        have w33_ : ∀ c : Nat, ¬ (okSz t1.toInt t2.toInt c ∧ okCr t3.toInt (nC t1.toInt c)) := by
          intro c h
          have o3 := ((g14).resolve_left (by omega))
          have o4 := h.1.1.1.uniq o3.1.1
          subst o4
          have q : smF (fun j : Nat => fv P11 306 j) x13.toInt.toNat = smF (dgI t2.toInt x13.toInt.toNat) x13.toInt.toNat := smF_congr o3.2.2.2
          have q2 := congrArg Int32.toInt q
          have o5 := h.1.2
          omega
        have u32 : addsToldM (sr Po) (sr P11) (-1002 : Int) t1.toInt t2.toInt t3.toInt := Or.inl ⟨rfl, w33_, fun j => (show fv P11 302 j = fv Po 302 j from by rw [KW.at k16 j rl_302 rfl])⟩
        exact mp_iret ⟨⟨_, rfl, u32⟩, hT15, k18, R20⟩ dX7_addsTold_59 (Or.inl rfl)
      · have c31 : x28.toInt ≠ 0 := ti_eq_n c31
        refine mp_a (a_aload_n dX7_addsTold_35 rfl) (mpp 36 rfl ?_)
        refine mp_a (a_iload_n dX7_addsTold_36 rfl) (mpp 37 rfl ?_)
        refine mp_a (a_iload_n dX7_addsTold_37 rfl) (mpp 38 rfl ?_)
        refine mp_Tb (t := 48) (j_if_ne dX7_addsTold_38) (by decide) (fun c34 => ?_) (fun c34 => mpp 41 rfl ?_)
        · have c34 : t1.toInt ≠ 0 := ti_ne c34
          refine mp_a (a_iload dX7_addsTold_48 rfl) (mpp 50 rfl ?_)
          have p35 : 0 ≤ x13.toInt := by omega
          have p36 : x13.toInt ≤ 8 := by omega
          refine mt_callv (i := 111) (q' := q_132) (As := [.int t3, .int x13]) (rest := []) hT15 dX7_addsTold_50 rfl qm_132 (by decide) rfl rl_301 (by decide) rfl (Nat.le_of_ble_eq_true rfl) rfl ⟨rfl, rfl⟩ ⟨Nat.le_of_ble_eq_true rfl, Nat.le_of_ble_eq_true rfl⟩ (EvP.mono (by decide) (c_M_laysCreases hT15 p35 p36 )) (fun r37 P38 g39 => mpp 53 rfl ?_)
          obtain ⟨⟨x40, rfl, g41⟩, hT42, k43, R44⟩ := g39
          have k45 : KW [1093, 1094, 1152, 1408, 1472] Po P38 := KW.trans k18 k43 rfl
          have R47 := Rel.kw R20 k43 rfl
          have wx40 := ti_full x40
          replace g41 : 0 ≤ x40.toInt ∧ x40.toInt ≤ 1 ∧ ((x40.toInt = 1 ∧ okCr t3.toInt x13.toInt.toNat ∧ ∀ j : Nat, j < x13.toInt.toNat → fv P38 307 j = dgI t3.toInt x13.toInt.toNat j) ∨ (x40.toInt = 0 ∧ ¬ okCr t3.toInt x13.toInt.toNat)) := g41
          show MEvP _ none q_126 53 [(4, .int x13), (0, .ref 301), (1, .int t1), (2, .int t2), (3, .int t3)] [.int x40] _ _ _ _
          refine mp_Tb (t := 60) (j_if_ne dX7_addsTold_53) (by decide) (fun c48 => ?_) (fun c48 => mpp 56 rfl ?_)
          · have c48 : x40.toInt ≠ 0 := ti_ne c48
            refine mp_a (a_aload_n dX7_addsTold_60 rfl) (mpp 61 rfl ?_)
            refine mp_a (a_iload_n dX7_addsTold_61 rfl) (mpp 62 rfl ?_)
            refine mp_a (a_iload dX7_addsTold_62 rfl) (mpp 64 rfl ?_)
            have p49 : 0 ≤ t1.toInt := by omega
            have p50 : t1.toInt ≤ 1 := by omega
            have p51 : 2 ≤ x13.toInt := by omega
            have p52 : x13.toInt ≤ 8 := by omega
            have p53 : t1.toInt ≠ 0 ∨ x13.toInt ≤ 7 := by omega
            refine mt_callv (i := 114) (q' := q_133) (As := [.int t1, .int x13]) (rest := []) hT42 dX7_addsTold_64 rfl qm_133 (by decide) rfl rl_301 (by decide) rfl (Nat.le_of_ble_eq_true rfl) rfl ⟨rfl, rfl⟩ ⟨Nat.le_of_ble_eq_true rfl, Nat.le_of_ble_eq_true rfl⟩ (EvP.mono (by decide) (c_M_adds hT42 R47 p49 p50 p51 p52 p53 )) (fun r54 P55 g56 => mpp 67 rfl ?_)
            obtain ⟨⟨x57, rfl, g58⟩, hT59, k60, R61⟩ := g56
            have k62 : KW [1093, 1094, 1152, 1408, 1472] Po P55 := KW.trans k45 k60 rfl
            have wx57 := ti_full x57
            replace g58 : addsM (sr P38) (sr P55) (fun j : Nat => fv P38 306 j) (fun j : Nat => fv P38 307 j) x57.toInt t1.toInt x13.toInt := g58
            show MEvP _ none q_126 67 [(4, .int x13), (0, .ref 301), (1, .int t1), (2, .int t2), (3, .int t3)] [.int x57] _ _ _ _
            have w65_e : sr P38 = sr Po := funext (fun j => by show fv P38 302 j = fv Po 302 j; rw [KW.at k43 j rl_302 rfl, KW.at k16 j rl_302 rfl])
            have w65_s := g14.resolve_left (by omega)
            have w65_c := (g41.2.2.resolve_right (by omega)).2
            have w65_n : nC t1.toInt (x13.toInt.toNat : Nat) = x13.toInt.toNat := by unfold nC; split <;> omega
            rw [← w65_n] at w65_c
            have w65_q : smF (fun j : Nat => fv P11 306 j) x13.toInt.toNat = smF (dgI t2.toInt x13.toInt.toNat) x13.toInt.toNat := smF_congr w65_s.2.2.2
            have w65_r := congrArg Int32.toInt w65_q
            have w65_k : okSz t1.toInt t2.toInt x13.toInt.toNat := ⟨w65_s.1, by omega⟩
            have w65_6 : ∀ j : Nat, j < x13.toInt.toNat → fv P38 306 j = dgI t2.toInt x13.toInt.toNat j := fun j hj => (KW.at k43 j rl_306 rfl).trans (w65_s.2.2.2 j hj)
            rw [w65_e] at g58
            have w65_ : addsToldM (sr Po) (sr P55) x57.toInt t1.toInt t2.toInt t3.toInt := by
              rcases g58 with ⟨o1, o2, o3⟩ | ⟨o1, o2, o3, o4, o5, o6, o7, o8, o9⟩
              · exact Or.inr (Or.inl ⟨o1, ⟨_, w65_k, w65_c.1⟩, o2, o3⟩)
              · exact Or.inr (Or.inr ⟨o1, o2, o3, ⟨_, w65_k, w65_c.1, o4, by omega, o6, fun k hk => (o7 k (by have := w65_s.2.2.1; omega) (by omega)).trans (w65_6 k hk), fun k hk => (o8 k (by have := w65_s.2.2.1; have := nC_le (kd := t1.toInt) (c := x13.toInt.toNat); omega) (by have e : nC t1.toInt x13.toInt = nC t1.toInt (x13.toInt.toNat : Nat) := congrArg (nC t1.toInt) (by omega); rw [e]; exact hk)).trans (w65_c.2 k hk)⟩, o9⟩)
            have u64 : addsToldM (sr Po) (sr P55) x57.toInt t1.toInt t2.toInt t3.toInt := w65_
            exact mp_iret ⟨⟨_, rfl, u64⟩, hT59, k62, R61⟩ dX7_addsTold_67 (Or.inl rfl)
          · have c48 : x40.toInt = 0 := ti_ne_n c48
            refine mp_a (a_sipush (v := -1002) dX7_addsTold_56 rfl) (mpp 59 rfl ?_)
            have w67_ : ∀ c : Nat, ¬ (okSz t1.toInt t2.toInt c ∧ okCr t3.toInt (nC t1.toInt c)) := by
              intro c h
              have o3 := ((g14).resolve_left (by omega))
              have o4 := h.1.1.1.uniq o3.1.1
              subst o4
              have o5 : nC t1.toInt (x13.toInt.toNat : Nat) = x13.toInt.toNat := by unfold nC; split <;> omega
              have o6 := h.2
              rw [o5] at o6
              exact (g41.2.2.resolve_left (by omega)).2 o6
            have u66 : addsToldM (sr Po) (sr P38) (-1002 : Int) t1.toInt t2.toInt t3.toInt := Or.inl ⟨rfl, w67_, fun j => (show fv P38 302 j = fv Po 302 j from by rw [KW.at k43 j rl_302 rfl, KW.at k16 j rl_302 rfl])⟩
            exact mp_iret ⟨⟨_, rfl, u66⟩, hT42, k45, R47⟩ dX7_addsTold_59 (Or.inl rfl)
        · have c34 : t1.toInt = 0 := ti_ne_n c34
          refine mp_a (a_iload dX7_addsTold_41 rfl) (mpp 43 rfl ?_)
          refine mp_a (a_iconst (v := 1) dX7_addsTold_43 rfl) (mpp 44 rfl ?_)
          obtain ⟨z68, h69⟩ := ti_ex (x13 - 1 : Int32)
          have wz68 := ti_full z68
          refine mp_t (s_isub (v := z68) dX7_addsTold_44 h69) (mpp 45 rfl ?_)
          try have e70 : z68.toInt = x13.toInt - 1 := ti_subz h69 rfl rfl (by omega) (by omega)
          refine mp_a (a_goto (t := 50) dX7_addsTold_45 (by decide)) ?_
          have p71 : 0 ≤ z68.toInt := by omega
          have p72 : z68.toInt ≤ 8 := by omega
          refine mt_callv (i := 111) (q' := q_132) (As := [.int t3, .int z68]) (rest := []) hT15 dX7_addsTold_50 rfl qm_132 (by decide) rfl rl_301 (by decide) rfl (Nat.le_of_ble_eq_true rfl) rfl ⟨rfl, rfl⟩ ⟨Nat.le_of_ble_eq_true rfl, Nat.le_of_ble_eq_true rfl⟩ (EvP.mono (by decide) (c_M_laysCreases hT15 p71 p72 )) (fun r73 P74 g75 => mpp 53 rfl ?_)
          obtain ⟨⟨x76, rfl, g77⟩, hT78, k79, R80⟩ := g75
          have k81 : KW [1093, 1094, 1152, 1408, 1472] Po P74 := KW.trans k18 k79 rfl
          have R83 := Rel.kw R20 k79 rfl
          have wx76 := ti_full x76
          replace g77 : 0 ≤ x76.toInt ∧ x76.toInt ≤ 1 ∧ ((x76.toInt = 1 ∧ okCr t3.toInt z68.toInt.toNat ∧ ∀ j : Nat, j < z68.toInt.toNat → fv P74 307 j = dgI t3.toInt z68.toInt.toNat j) ∨ (x76.toInt = 0 ∧ ¬ okCr t3.toInt z68.toInt.toNat)) := g77
          show MEvP _ none q_126 53 [(4, .int x13), (0, .ref 301), (1, .int t1), (2, .int t2), (3, .int t3)] [.int x76] _ _ _ _
          refine mp_Tb (t := 60) (j_if_ne dX7_addsTold_53) (by decide) (fun c84 => ?_) (fun c84 => mpp 56 rfl ?_)
          · have c84 : x76.toInt ≠ 0 := ti_ne c84
            refine mp_a (a_aload_n dX7_addsTold_60 rfl) (mpp 61 rfl ?_)
            refine mp_a (a_iload_n dX7_addsTold_61 rfl) (mpp 62 rfl ?_)
            refine mp_a (a_iload dX7_addsTold_62 rfl) (mpp 64 rfl ?_)
            have p85 : 0 ≤ t1.toInt := by omega
            have p86 : t1.toInt ≤ 1 := by omega
            have p87 : 2 ≤ x13.toInt := by omega
            have p88 : x13.toInt ≤ 8 := by omega
            have p89 : t1.toInt ≠ 0 ∨ x13.toInt ≤ 7 := by omega
            refine mt_callv (i := 114) (q' := q_133) (As := [.int t1, .int x13]) (rest := []) hT78 dX7_addsTold_64 rfl qm_133 (by decide) rfl rl_301 (by decide) rfl (Nat.le_of_ble_eq_true rfl) rfl ⟨rfl, rfl⟩ ⟨Nat.le_of_ble_eq_true rfl, Nat.le_of_ble_eq_true rfl⟩ (EvP.mono (by decide) (c_M_adds hT78 R83 p85 p86 p87 p88 p89 )) (fun r90 P91 g92 => mpp 67 rfl ?_)
            obtain ⟨⟨x93, rfl, g94⟩, hT95, k96, R97⟩ := g92
            have k98 : KW [1093, 1094, 1152, 1408, 1472] Po P91 := KW.trans k81 k96 rfl
            have wx93 := ti_full x93
            replace g94 : addsM (sr P74) (sr P91) (fun j : Nat => fv P74 306 j) (fun j : Nat => fv P74 307 j) x93.toInt t1.toInt x13.toInt := g94
            show MEvP _ none q_126 67 [(4, .int x13), (0, .ref 301), (1, .int t1), (2, .int t2), (3, .int t3)] [.int x93] _ _ _ _
            have w101_e : sr P74 = sr Po := funext (fun j => by show fv P74 302 j = fv Po 302 j; rw [KW.at k79 j rl_302 rfl, KW.at k16 j rl_302 rfl])
            have w101_s := g14.resolve_left (by omega)
            have w101_c := (g77.2.2.resolve_right (by omega)).2
            have w101_n : nC t1.toInt (x13.toInt.toNat : Nat) = z68.toInt.toNat := by unfold nC; split <;> omega
            rw [← w101_n] at w101_c
            have w101_q : smF (fun j : Nat => fv P11 306 j) x13.toInt.toNat = smF (dgI t2.toInt x13.toInt.toNat) x13.toInt.toNat := smF_congr w101_s.2.2.2
            have w101_r := congrArg Int32.toInt w101_q
            have w101_k : okSz t1.toInt t2.toInt x13.toInt.toNat := ⟨w101_s.1, by omega⟩
            have w101_6 : ∀ j : Nat, j < x13.toInt.toNat → fv P74 306 j = dgI t2.toInt x13.toInt.toNat j := fun j hj => (KW.at k79 j rl_306 rfl).trans (w101_s.2.2.2 j hj)
            rw [w101_e] at g94
            have w101_ : addsToldM (sr Po) (sr P91) x93.toInt t1.toInt t2.toInt t3.toInt := by
              rcases g94 with ⟨o1, o2, o3⟩ | ⟨o1, o2, o3, o4, o5, o6, o7, o8, o9⟩
              · exact Or.inr (Or.inl ⟨o1, ⟨_, w101_k, w101_c.1⟩, o2, o3⟩)
              · exact Or.inr (Or.inr ⟨o1, o2, o3, ⟨_, w101_k, w101_c.1, o4, by omega, o6, fun k hk => (o7 k (by have := w101_s.2.2.1; omega) (by omega)).trans (w101_6 k hk), fun k hk => (o8 k (by have := w101_s.2.2.1; have := nC_le (kd := t1.toInt) (c := x13.toInt.toNat); omega) (by have e : nC t1.toInt x13.toInt = nC t1.toInt (x13.toInt.toNat : Nat) := congrArg (nC t1.toInt) (by omega); rw [e]; exact hk)).trans (w101_c.2 k hk)⟩, o9⟩)
            have u100 : addsToldM (sr Po) (sr P91) x93.toInt t1.toInt t2.toInt t3.toInt := w101_
            exact mp_iret ⟨⟨_, rfl, u100⟩, hT95, k98, R97⟩ dX7_addsTold_67 (Or.inl rfl)
          · have c84 : x76.toInt = 0 := ti_ne_n c84
            refine mp_a (a_sipush (v := -1002) dX7_addsTold_56 rfl) (mpp 59 rfl ?_)
            have w103_ : ∀ c : Nat, ¬ (okSz t1.toInt t2.toInt c ∧ okCr t3.toInt (nC t1.toInt c)) := by
              intro c h
              have o3 := ((g14).resolve_left (by omega))
              have o4 := h.1.1.1.uniq o3.1.1
              subst o4
              have o5 : nC t1.toInt (x13.toInt.toNat : Nat) = z68.toInt.toNat := by unfold nC; split <;> omega
              have o6 := h.2
              rw [o5] at o6
              exact (g77.2.2.resolve_left (by omega)).2 o6
            have u102 : addsToldM (sr Po) (sr P74) (-1002 : Int) t1.toInt t2.toInt t3.toInt := Or.inl ⟨rfl, w103_, fun j => (show fv P74 302 j = fv Po 302 j from by rw [KW.at k79 j rl_302 rfl, KW.at k16 j rl_302 rfl])⟩
            exact mp_iret ⟨⟨_, rfl, u102⟩, hT78, k81, R83⟩ dX7_addsTold_59 (Or.inl rfl)

set_option maxHeartbeats 4000000 in
theorem c_M_add {Po : mP} {t1 : Int32} {t2 : Int32} {t3 : Int32} (hT : Typ Po) (hR : Rel Po)  : EvP 7 123 [.ref 301, .int t1, .int t2, .int t3] Po (fun r P' => (∃ x : Int32, r = some (.int x) ∧ (TOPM Po P' x.toInt ∧ addsToldM (sr Po) (sr P') x.toInt t1.toInt t2.toInt t3.toInt)) ∧ Typ P' ∧ KW [1092, 1093, 1094, 1095, 1152, 1216, 1344, 1408, 1472] Po P' ∧ Rel P') := by
  refine EvP.of qm_123 (Nat.le_of_ble_eq_true rfl) rfl ?_
  show MEvP _ none q_123 0 [(0, .ref 301), (1, .int t1), (2, .int t2), (3, .int t3)] [] _ 0 0 _
  have w_t1 := ti_full t1
  have w_t2 := ti_full t2
  have w_t3 := ti_full t3
  refine mp_a (a_aload_n dX7_add_0 rfl) (mpp 1 rfl ?_)
  refine mt_callv (i := 117) (q' := q_124) (As := []) (rest := []) hT dX7_add_1 rfl qm_124 (by decide) rfl rl_301 (by decide) rfl (Nat.le_of_ble_eq_true rfl) rfl ⟨rfl, rfl⟩ ⟨Nat.le_of_ble_eq_true rfl, Nat.le_of_ble_eq_true rfl⟩ (EvP.mono (by decide) (c_M_keeps hT hR )) (fun r1 P2 g3 => mpp 4 rfl ?_)
  obtain ⟨⟨rfl, g5⟩, hT6, k7, R8r, R8⟩ := g3
  have k9 : KW [1092, 1093, 1094, 1095, 1152, 1216, 1344, 1408, 1472] Po P2 := KW.trans KW.refl k7 rfl
  show MEvP _ none q_123 4 [(0, .ref 301), (1, .int t1), (2, .int t2), (3, .int t3)] [] _ _ _ _
  refine mp_a (a_aload_n dX7_add_4 rfl) (mpp 5 rfl ?_)
  refine mp_a (a_aload_n dX7_add_5 rfl) (mpp 6 rfl ?_)
  refine mp_a (a_iload_n dX7_add_6 rfl) (mpp 7 rfl ?_)
  refine mp_a (a_iload_n dX7_add_7 rfl) (mpp 8 rfl ?_)
  refine mp_a (a_iload_n dX7_add_8 rfl) (mpp 9 rfl ?_)
  refine mt_callv (i := 120) (q' := q_126) (As := [.int t1, .int t2, .int t3]) (rest := [.ref 301]) hT6 dX7_add_9 rfl qm_126 (by decide) rfl rl_301 (by decide) rfl (Nat.le_of_ble_eq_true rfl) rfl ⟨rfl, rfl⟩ ⟨Nat.le_of_ble_eq_true rfl, Nat.le_of_ble_eq_true rfl⟩ (EvP.mono (by decide) (c_M_addsTold hT6 R8r )) (fun r11 P12 g13 => mpp 12 rfl ?_)
  obtain ⟨⟨x14, rfl, g15⟩, hT16, k17, R18⟩ := g13
  have k19 : KW [1092, 1093, 1094, 1095, 1152, 1216, 1344, 1408, 1472] Po P12 := KW.trans k9 k17 rfl
  have wx14 := ti_full x14
  replace g15 : addsToldM (sr P2) (sr P12) x14.toInt t1.toInt t2.toInt t3.toInt := g15
  show MEvP _ none q_123 12 [(0, .ref 301), (1, .int t1), (2, .int t2), (3, .int t3)] [.int x14, .ref 301] _ _ _ _
  refine mt_callv (i := 124) (q' := q_139) (As := [.int x14]) (rest := []) hT16 dX7_add_12 rfl qm_139 (by decide) rfl rl_301 (by decide) rfl (Nat.le_of_ble_eq_true rfl) rfl ⟨rfl, rfl⟩ ⟨Nat.le_of_ble_eq_true rfl, Nat.le_of_ble_eq_true rfl⟩ (EvP.mono (by decide) (c_M_ends hT16 R18 )) (fun r21 P22 g23 => mpp 15 rfl ?_)
  obtain ⟨⟨x24, rfl, g25⟩, hT26, k27, R28r, R28⟩ := g23
  have k29 : KW [1092, 1093, 1094, 1095, 1152, 1216, 1344, 1408, 1472] Po P22 := KW.trans k19 k27 rfl
  have wx24 := ti_full x24
  replace g25 : x24.toInt = x14.toInt := g25
  show MEvP _ none q_123 15 [(0, .ref 301), (1, .int t1), (2, .int t2), (3, .int t3)] [.int x24] _ _ _ _
  have w32_a : sr P2 = sr Po := funext (fun j => R8.2 302 j (by omega))
  have w32_b : sr P12 = sr P22 := funext (fun j => (R28.2.2.1 302 j (by omega) (by omega) (by omega)).symm)
  have w32_g := g15
  rw [w32_a, w32_b] at w32_g
  have w32_x : x24.toInt = x14.toInt := by omega
  rw [← w32_x] at w32_g
  have w32_t : TOPM Po P22 x24.toInt := TOPM.mk R8.1 (fun j => KW.at k17 j rl_303 rfl) (fun j => KW.at k17 j rl_304 rfl) (fun j => KW.at k17 j rl_305 rfl) (fun j => KW.at k17 j rl_314 rfl) (KW.at k17 8 rl_301 rfl) (KW.at k17 4 rl_301 rfl) (KW.at k17 23 rl_301 rfl) (by rw [w32_x]; exact R28.1) (by rw [w32_x]; exact R28.2.1) R28.2.2.1
  have u31 : TOPM Po P22 x24.toInt ∧ addsToldM (sr Po) (sr P22) x24.toInt t1.toInt t2.toInt t3.toInt := ⟨w32_t, w32_g⟩
  exact mp_iret ⟨⟨_, rfl, u31⟩, hT26, k29, R28r⟩ dX7_add_15 (Or.inl rfl)

set_option maxHeartbeats 4000000 in
theorem c_M_isPiece {Po : mP} {t1 : Int32} (hT : Typ Po)   : EvP 2 144 [.ref 301, .int t1] Po (fun r P' => (∃ x : Int32, r = some (.int x) ∧ (0 ≤ x.toInt ∧ x.toInt ≤ 1 ∧ ((x.toInt = 1 ∧ 0 ≤ t1.toInt ∧ t1.toInt + 1 ≤ (fv Po 302 0).toInt ∧ t1.toInt ≤ 7) ∨ (x.toInt = 0 ∧ (t1.toInt < 0 ∨ (fv Po 302 0).toInt ≤ t1.toInt))))) ∧ P' = Po) := by
  refine EvP.of qm_144 (Nat.le_of_ble_eq_true rfl) rfl ?_
  show MEvP _ none q_144 0 [(0, .ref 301), (1, .int t1)] [] _ 0 0 _
  have w_t1 := ti_full t1
  have g1 : (0 : Int) ≤ (fv Po 302 0).toInt ∧ (fv Po 302 0).toInt ≤ 8 := Typ.rng hT rl_302 (by decide) (by decide) rfl
  refine mp_a (a_iload_n dX7_isPiece_0 rfl) (mpp 1 rfl ?_)
  refine mp_a (a_iconst (v := 0) dX7_isPiece_1 rfl) (mpp 2 rfl ?_)
  refine mp_a (a_aload_n dX7_isPiece_2 rfl) (mpp 3 rfl ?_)
  refine mt_getU (i := 9) (k := 0) (A := 302) hT dX7_isPiece_3 rfl rl_301 (by decide) rfl (by decide) rfl un_18 (mpp 6 rfl ?_)
  refine mp_a (a_iconst (v := 0) dX7_isPiece_6 rfl) (mpp 7 rfl ?_)
  refine mt_ialX (n := 155) hT dX7_isPiece_7 rl_302 (by decide) rfl rfl (by decide) (by decide) ssp_0 (fun g2 => mpp 8 rfl ?_)
  have we4 := ti_full (fv Po 302 0)
  refine mp_a (a_iconst (v := 1) dX7_isPiece_8 rfl) (mpp 9 rfl ?_)
  obtain ⟨z5, h6⟩ := ti_ex ((fv Po 302 0) - 1 : Int32)
  have wz5 := ti_full z5
  refine mp_t (s_isub (v := z5) dX7_isPiece_9 h6) (mpp 10 rfl ?_)
  try have e7 : z5.toInt = (fv Po 302 0).toInt - 1 := ti_subz h6 rfl rfl (by omega) (by omega)
  refine mp_calls (i := 61) (q' := q_127) (As := [.int t1, .int 0, .int z5]) (rest := []) dX7_isPiece_10 rfl qm_127 (by decide) rfl (Nat.le_of_ble_eq_true rfl) rfl ⟨rfl, rfl⟩ ⟨Nat.le_of_ble_eq_true rfl, Nat.le_of_ble_eq_true rfl⟩ (EvP.mono (by decide) (c_M_isIn hT )) (fun r8 P9 g10 => mpp 13 rfl ?_)
  obtain ⟨⟨x11, rfl, g12⟩, e13⟩ := g10
  have e13 := e13.symm
  subst e13
  have wx11 := ti_full x11
  replace g12 : 0 ≤ x11.toInt ∧ x11.toInt ≤ 1 ∧ ((x11.toInt = 1 ∧ (0 : Int) ≤ t1.toInt ∧ t1.toInt ≤ z5.toInt) ∨ (x11.toInt = 0 ∧ (t1.toInt < (0 : Int) ∨ z5.toInt < t1.toInt))) := g12
  show MEvP _ none q_144 13 [(0, .ref 301), (1, .int t1)] [.int x11] _ _ _ _
  have u14 : 0 ≤ x11.toInt ∧ x11.toInt ≤ 1 ∧ ((x11.toInt = 1 ∧ 0 ≤ t1.toInt ∧ t1.toInt + 1 ≤ (fv Po 302 0).toInt ∧ t1.toInt ≤ 7) ∨ (x11.toInt = 0 ∧ (t1.toInt < 0 ∨ (fv Po 302 0).toInt ≤ t1.toInt))) := by omega
  exact mp_iret ⟨⟨_, rfl, u14⟩, rfl⟩ dX7_isPiece_13 (Or.inr ⟨rfl, ti_01 (by omega)⟩)

set_option maxHeartbeats 4000000 in
theorem c_M_isCrease {Po : mP} {t1 : Int32} {t2 : Int32} (hT : Typ Po)   : EvP 5 143 [.ref 301, .int t1, .int t2] Po (fun r P' => (∃ x : Int32, r = some (.int x) ∧ (0 ≤ x.toInt ∧ x.toInt ≤ 1 ∧ ((x.toInt = 0 ∧ (t1.toInt < 0 ∨ (fv Po 302 0).toInt ≤ t1.toInt ∨ t2.toInt < 0 ∨ ((fv Po 302 (3 + 19 * t1.toInt.toNat)).toInt = 1 ∧ (fv Po 302 (4 + 19 * t1.toInt.toNat)).toInt ≤ t2.toInt) ∨ ((fv Po 302 (3 + 19 * t1.toInt.toNat)).toInt = 0 ∧ (fv Po 302 (4 + 19 * t1.toInt.toNat)).toInt - 1 ≤ t2.toInt))) ∨ (x.toInt = 1 ∧ 0 ≤ t1.toInt ∧ t1.toInt + 1 ≤ (fv Po 302 0).toInt ∧ t1.toInt ≤ 7 ∧ 0 ≤ t2.toInt ∧ t2.toInt ≤ 7 ∧ t2.toInt + 1 ≤ (fv Po 302 (4 + 19 * t1.toInt.toNat)).toInt ∧ (((fv Po 302 (3 + 19 * t1.toInt.toNat)).toInt = 1 ∧ t2.toInt < (fv Po 302 (4 + 19 * t1.toInt.toNat)).toInt) ∨ ((fv Po 302 (3 + 19 * t1.toInt.toNat)).toInt = 0 ∧ t2.toInt < (fv Po 302 (4 + 19 * t1.toInt.toNat)).toInt - 1)))))) ∧ P' = Po) := by
  refine EvP.of qm_143 (Nat.le_of_ble_eq_true rfl) rfl ?_
  show MEvP _ none q_143 0 [(0, .ref 301), (1, .int t1), (2, .int t2)] [] _ 0 0 _
  have w_t1 := ti_full t1
  have w_t2 := ti_full t2
  have g1 : (0 : Int) ≤ (fv Po 302 0).toInt ∧ (fv Po 302 0).toInt ≤ 8 := Typ.rng hT rl_302 (by decide) (by decide) rfl
  try have g2 : (0 : Int) ≤ (fv Po 302 (3 + 19 * t1.toInt.toNat)).toInt ∧ (fv Po 302 (3 + 19 * t1.toInt.toNat)).toInt ≤ 1 := s3_rng hT (by omega)
  try have g3 : (0 : Int) ≤ (fv Po 302 (4 + 19 * t1.toInt.toNat)).toInt ∧ (fv Po 302 (4 + 19 * t1.toInt.toNat)).toInt ≤ 8 := s4_rng hT (by omega)
  refine mp_a (a_aload_n dX7_isCrease_0 rfl) (mpp 1 rfl ?_)
  refine mp_a (a_iload_n dX7_isCrease_1 rfl) (mpp 2 rfl ?_)
  refine mt_callv (i := 85) (q' := q_144) (As := [.int t1]) (rest := []) hT dX7_isCrease_2 rfl qm_144 (by decide) rfl rl_301 (by decide) rfl (Nat.le_of_ble_eq_true rfl) rfl ⟨rfl, rfl⟩ ⟨Nat.le_of_ble_eq_true rfl, Nat.le_of_ble_eq_true rfl⟩ (EvP.mono (by decide) (c_M_isPiece hT )) (fun r4 P5 g6 => mpp 5 rfl ?_)
  obtain ⟨⟨x7, rfl, g8⟩, e9⟩ := g6
  have e9 := e9.symm
  subst e9
  have wx7 := ti_full x7
  replace g8 : 0 ≤ x7.toInt ∧ x7.toInt ≤ 1 ∧ ((x7.toInt = 1 ∧ 0 ≤ t1.toInt ∧ t1.toInt + 1 ≤ (fv Po 302 0).toInt ∧ t1.toInt ≤ 7) ∨ (x7.toInt = 0 ∧ (t1.toInt < 0 ∨ (fv Po 302 0).toInt ≤ t1.toInt))) := g8
  show MEvP _ none q_143 5 [(0, .ref 301), (1, .int t1), (2, .int t2)] [.int x7] _ _ _ _
  refine mp_Tb (t := 27) (j_if_eq dX7_isCrease_5) (by decide) (fun c10 => ?_) (fun c10 => mpp 8 rfl ?_)
  · have c10 : x7.toInt = 0 := ti_eq c10
    refine mp_a (a_iconst (v := 0) dX7_isCrease_27 rfl) (mpp 28 rfl ?_)
    have u11 : 0 ≤ (0 : Int) ∧ (0 : Int) ≤ 1 ∧ (((0 : Int) = 0 ∧ (t1.toInt < 0 ∨ (fv Po 302 0).toInt ≤ t1.toInt ∨ t2.toInt < 0 ∨ ((fv Po 302 (3 + 19 * t1.toInt.toNat)).toInt = 1 ∧ (fv Po 302 (4 + 19 * t1.toInt.toNat)).toInt ≤ t2.toInt) ∨ ((fv Po 302 (3 + 19 * t1.toInt.toNat)).toInt = 0 ∧ (fv Po 302 (4 + 19 * t1.toInt.toNat)).toInt - 1 ≤ t2.toInt))) ∨ ((0 : Int) = 1 ∧ 0 ≤ t1.toInt ∧ t1.toInt + 1 ≤ (fv Po 302 0).toInt ∧ t1.toInt ≤ 7 ∧ 0 ≤ t2.toInt ∧ t2.toInt ≤ 7 ∧ t2.toInt + 1 ≤ (fv Po 302 (4 + 19 * t1.toInt.toNat)).toInt ∧ (((fv Po 302 (3 + 19 * t1.toInt.toNat)).toInt = 1 ∧ t2.toInt < (fv Po 302 (4 + 19 * t1.toInt.toNat)).toInt) ∨ ((fv Po 302 (3 + 19 * t1.toInt.toNat)).toInt = 0 ∧ t2.toInt < (fv Po 302 (4 + 19 * t1.toInt.toNat)).toInt - 1)))) := by omega
    exact mp_iret ⟨⟨_, rfl, u11⟩, rfl⟩ dX7_isCrease_28 (Or.inr ⟨rfl, by decide⟩)
  · have c10 : x7.toInt ≠ 0 := ti_eq_n c10
    refine mp_a (a_iload_n dX7_isCrease_8 rfl) (mpp 9 rfl ?_)
    refine mp_a (a_iconst (v := 0) dX7_isCrease_9 rfl) (mpp 10 rfl ?_)
    refine mp_a (a_aload_n dX7_isCrease_10 rfl) (mpp 11 rfl ?_)
    refine mp_a (a_iload_n dX7_isCrease_11 rfl) (mpp 12 rfl ?_)
    have p12 : 0 ≤ t1.toInt := by omega
    have p13 : t1.toInt ≤ 7 := by omega
    refine mt_callv (i := 88) (q' := q_136) (As := [.int t1]) (rest := [.int 0, .int t2]) hT dX7_isCrease_12 rfl qm_136 (by decide) rfl rl_301 (by decide) rfl (Nat.le_of_ble_eq_true rfl) rfl ⟨rfl, rfl⟩ ⟨Nat.le_of_ble_eq_true rfl, Nat.le_of_ble_eq_true rfl⟩ (EvP.mono (by decide) (c_M_creases hT p12 p13 )) (fun r14 P15 g16 => mpp 15 rfl ?_)
    obtain ⟨⟨x17, rfl, g18⟩, e19⟩ := g16
    have e19 := e19.symm
    subst e19
    have wx17 := ti_full x17
    replace g18 : -1 ≤ x17.toInt ∧ x17.toInt ≤ 8 ∧ (((fv Po 302 (3 + 19 * t1.toInt.toNat)).toInt = 1 ∧ x17.toInt = (fv Po 302 (4 + 19 * t1.toInt.toNat)).toInt) ∨ ((fv Po 302 (3 + 19 * t1.toInt.toNat)).toInt = 0 ∧ x17.toInt = (fv Po 302 (4 + 19 * t1.toInt.toNat)).toInt - 1)) := g18
    show MEvP _ none q_143 15 [(0, .ref 301), (1, .int t1), (2, .int t2)] [.int x17, .int 0, .int t2] _ _ _ _
    refine mp_a (a_iconst (v := 1) dX7_isCrease_15 rfl) (mpp 16 rfl ?_)
    obtain ⟨z20, h21⟩ := ti_ex (x17 - 1 : Int32)
    have wz20 := ti_full z20
    refine mp_t (s_isub (v := z20) dX7_isCrease_16 h21) (mpp 17 rfl ?_)
    try have e22 : z20.toInt = x17.toInt - 1 := ti_subz h21 rfl rfl (by omega) (by omega)
    refine mp_calls (i := 61) (q' := q_127) (As := [.int t2, .int 0, .int z20]) (rest := []) dX7_isCrease_17 rfl qm_127 (by decide) rfl (Nat.le_of_ble_eq_true rfl) rfl ⟨rfl, rfl⟩ ⟨Nat.le_of_ble_eq_true rfl, Nat.le_of_ble_eq_true rfl⟩ (EvP.mono (by decide) (c_M_isIn hT )) (fun r23 P24 g25 => mpp 20 rfl ?_)
    obtain ⟨⟨x26, rfl, g27⟩, e28⟩ := g25
    have e28 := e28.symm
    subst e28
    have wx26 := ti_full x26
    replace g27 : 0 ≤ x26.toInt ∧ x26.toInt ≤ 1 ∧ ((x26.toInt = 1 ∧ (0 : Int) ≤ t2.toInt ∧ t2.toInt ≤ z20.toInt) ∨ (x26.toInt = 0 ∧ (t2.toInt < (0 : Int) ∨ z20.toInt < t2.toInt))) := g27
    show MEvP _ none q_143 20 [(0, .ref 301), (1, .int t1), (2, .int t2)] [.int x26] _ _ _ _
    refine mp_Tb (t := 27) (j_if_eq dX7_isCrease_20) (by decide) (fun c29 => ?_) (fun c29 => mpp 23 rfl ?_)
    · have c29 : x26.toInt = 0 := ti_eq c29
      refine mp_a (a_iconst (v := 0) dX7_isCrease_27 rfl) (mpp 28 rfl ?_)
      have u30 : 0 ≤ (0 : Int) ∧ (0 : Int) ≤ 1 ∧ (((0 : Int) = 0 ∧ (t1.toInt < 0 ∨ (fv Po 302 0).toInt ≤ t1.toInt ∨ t2.toInt < 0 ∨ ((fv Po 302 (3 + 19 * t1.toInt.toNat)).toInt = 1 ∧ (fv Po 302 (4 + 19 * t1.toInt.toNat)).toInt ≤ t2.toInt) ∨ ((fv Po 302 (3 + 19 * t1.toInt.toNat)).toInt = 0 ∧ (fv Po 302 (4 + 19 * t1.toInt.toNat)).toInt - 1 ≤ t2.toInt))) ∨ ((0 : Int) = 1 ∧ 0 ≤ t1.toInt ∧ t1.toInt + 1 ≤ (fv Po 302 0).toInt ∧ t1.toInt ≤ 7 ∧ 0 ≤ t2.toInt ∧ t2.toInt ≤ 7 ∧ t2.toInt + 1 ≤ (fv Po 302 (4 + 19 * t1.toInt.toNat)).toInt ∧ (((fv Po 302 (3 + 19 * t1.toInt.toNat)).toInt = 1 ∧ t2.toInt < (fv Po 302 (4 + 19 * t1.toInt.toNat)).toInt) ∨ ((fv Po 302 (3 + 19 * t1.toInt.toNat)).toInt = 0 ∧ t2.toInt < (fv Po 302 (4 + 19 * t1.toInt.toNat)).toInt - 1)))) := by omega
      exact mp_iret ⟨⟨_, rfl, u30⟩, rfl⟩ dX7_isCrease_28 (Or.inr ⟨rfl, by decide⟩)
    · have c29 : x26.toInt ≠ 0 := ti_eq_n c29
      refine mp_a (a_iconst (v := 1) dX7_isCrease_23 rfl) (mpp 24 rfl ?_)
      refine mp_a (a_goto (t := 28) dX7_isCrease_24 (by decide)) ?_
      have u31 : 0 ≤ (1 : Int) ∧ (1 : Int) ≤ 1 ∧ (((1 : Int) = 0 ∧ (t1.toInt < 0 ∨ (fv Po 302 0).toInt ≤ t1.toInt ∨ t2.toInt < 0 ∨ ((fv Po 302 (3 + 19 * t1.toInt.toNat)).toInt = 1 ∧ (fv Po 302 (4 + 19 * t1.toInt.toNat)).toInt ≤ t2.toInt) ∨ ((fv Po 302 (3 + 19 * t1.toInt.toNat)).toInt = 0 ∧ (fv Po 302 (4 + 19 * t1.toInt.toNat)).toInt - 1 ≤ t2.toInt))) ∨ ((1 : Int) = 1 ∧ 0 ≤ t1.toInt ∧ t1.toInt + 1 ≤ (fv Po 302 0).toInt ∧ t1.toInt ≤ 7 ∧ 0 ≤ t2.toInt ∧ t2.toInt ≤ 7 ∧ t2.toInt + 1 ≤ (fv Po 302 (4 + 19 * t1.toInt.toNat)).toInt ∧ (((fv Po 302 (3 + 19 * t1.toInt.toNat)).toInt = 1 ∧ t2.toInt < (fv Po 302 (4 + 19 * t1.toInt.toNat)).toInt) ∨ ((fv Po 302 (3 + 19 * t1.toInt.toNat)).toInt = 0 ∧ t2.toInt < (fv Po 302 (4 + 19 * t1.toInt.toNat)).toInt - 1)))) := by omega
      exact mp_iret ⟨⟨_, rfl, u31⟩, rfl⟩ dX7_isCrease_28 (Or.inr ⟨rfl, by decide⟩)

set_option maxHeartbeats 4000000 in
theorem c_M_creaseOf {Po : mP} {t1 : Int32} {t2 : Int32} (hT : Typ Po)  (hp0 : 0 ≤ t1.toInt) (hp1 : t1.toInt ≤ 7) (hp2 : 0 ≤ t2.toInt) (hp3 : t2.toInt ≤ 7)  : EvP 3 146 [.ref 301, .int t1, .int t2] Po (fun r P' => (∃ x : Int32, r = some (.int x) ∧ (x.toInt = (fv Po 302 (14 + 19 * t1.toInt.toNat + t2.toInt.toNat)).toInt)) ∧ P' = Po) := by
  refine EvP.of qm_146 (Nat.le_of_ble_eq_true rfl) rfl ?_
  show MEvP _ none q_146 0 [(0, .ref 301), (1, .int t1), (2, .int t2)] [] _ 0 0 _
  have w_t1 := ti_full t1
  have w_t2 := ti_full t2
  refine mp_a (a_aload_n dX7_creaseOf_0 rfl) (mpp 1 rfl ?_)
  refine mp_a (a_iload_n dX7_creaseOf_1 rfl) (mpp 2 rfl ?_)
  refine mp_a (a_bipush (v := 11) dX7_creaseOf_2 rfl) (mpp 4 rfl ?_)
  refine mp_a (a_iload_n dX7_creaseOf_4 rfl) (mpp 5 rfl ?_)
  obtain ⟨z1, h2⟩ := ti_ex (11 + t2 : Int32)
  have wz1 := ti_full z1
  refine mp_t (s_iadd (v := z1) dX7_creaseOf_5 h2) (mpp 6 rfl ?_)
  try have e3 : z1.toInt = 11 + t2.toInt := ti_addz h2 rfl rfl (by omega) (by omega)
  have p4 : 0 ≤ t1.toInt := by omega
  have p5 : t1.toInt ≤ 7 := by omega
  have p6 : 0 ≤ z1.toInt := by omega
  have p7 : z1.toInt ≤ 18 := by omega
  refine mt_callv (i := 78) (q' := q_137) (As := [.int t1, .int z1]) (rest := []) hT dX7_creaseOf_6 rfl qm_137 (by decide) rfl rl_301 (by decide) rfl (Nat.le_of_ble_eq_true rfl) rfl ⟨rfl, rfl⟩ ⟨Nat.le_of_ble_eq_true rfl, Nat.le_of_ble_eq_true rfl⟩ (EvP.mono (by decide) (c_M_of hT p4 p5 p6 p7 )) (fun r8 P9 g10 => mpp 9 rfl ?_)
  obtain ⟨⟨x11, rfl, g12⟩, e13⟩ := g10
  have e13 := e13.symm
  subst e13
  have wx11 := ti_full x11
  replace g12 : x11.toInt = (fv Po 302 (3 + 19 * t1.toInt.toNat + z1.toInt.toNat)).toInt := g12
  show MEvP _ none q_146 9 [(0, .ref 301), (1, .int t1), (2, .int t2)] [.int x11] _ _ _ _
  have u14 : x11.toInt = (fv Po 302 (14 + 19 * t1.toInt.toNat + t2.toInt.toNat)).toInt := g12.trans (congrArg (fun k => (fv Po 302 k).toInt) (by omega))
  exact mp_iret ⟨⟨_, rfl, u14⟩, rfl⟩ dX7_creaseOf_9 (Or.inl rfl)

set_option maxHeartbeats 4000000 in
theorem c_M_marks {Po : mP} {t1 : Int32} {t2 : Int32} {t3 : Int32} (hT : Typ Po) (hR : Rel Po)  : EvP 6 142 [.ref 301, .int t1, .int t2, .int t3] Po (fun r P' => (∃ x : Int32, r = some (.int x) ∧ (marksM (sr Po) (sr P') x.toInt t1.toInt t2.toInt t3.toInt)) ∧ Typ P' ∧ KW [1093, 1094, 1152] Po P' ∧ Rel P') := by
  refine EvP.of qm_142 (Nat.le_of_ble_eq_true rfl) rfl ?_
  show MEvP _ none q_142 0 [(0, .ref 301), (1, .int t1), (2, .int t2), (3, .int t3)] [] _ 0 0 _
  have w_t1 := ti_full t1
  have w_t2 := ti_full t2
  have w_t3 := ti_full t3
  refine mp_a (a_aload_n dX7_marks_0 rfl) (mpp 1 rfl ?_)
  refine mp_a (a_iload_n dX7_marks_1 rfl) (mpp 2 rfl ?_)
  refine mp_a (a_iload_n dX7_marks_2 rfl) (mpp 3 rfl ?_)
  refine mt_callv (i := 127) (q' := q_143) (As := [.int t1, .int t2]) (rest := []) hT dX7_marks_3 rfl qm_143 (by decide) rfl rl_301 (by decide) rfl (Nat.le_of_ble_eq_true rfl) rfl ⟨rfl, rfl⟩ ⟨Nat.le_of_ble_eq_true rfl, Nat.le_of_ble_eq_true rfl⟩ (EvP.mono (by decide) (c_M_isCrease hT )) (fun r1 P2 g3 => mpp 6 rfl ?_)
  obtain ⟨⟨x4, rfl, g5⟩, e6⟩ := g3
  have e6 := e6.symm
  subst e6
  have wx4 := ti_full x4
  replace g5 : 0 ≤ x4.toInt ∧ x4.toInt ≤ 1 ∧ ((x4.toInt = 0 ∧ (t1.toInt < 0 ∨ (fv Po 302 0).toInt ≤ t1.toInt ∨ t2.toInt < 0 ∨ ((fv Po 302 (3 + 19 * t1.toInt.toNat)).toInt = 1 ∧ (fv Po 302 (4 + 19 * t1.toInt.toNat)).toInt ≤ t2.toInt) ∨ ((fv Po 302 (3 + 19 * t1.toInt.toNat)).toInt = 0 ∧ (fv Po 302 (4 + 19 * t1.toInt.toNat)).toInt - 1 ≤ t2.toInt))) ∨ (x4.toInt = 1 ∧ 0 ≤ t1.toInt ∧ t1.toInt + 1 ≤ (fv Po 302 0).toInt ∧ t1.toInt ≤ 7 ∧ 0 ≤ t2.toInt ∧ t2.toInt ≤ 7 ∧ t2.toInt + 1 ≤ (fv Po 302 (4 + 19 * t1.toInt.toNat)).toInt ∧ (((fv Po 302 (3 + 19 * t1.toInt.toNat)).toInt = 1 ∧ t2.toInt < (fv Po 302 (4 + 19 * t1.toInt.toNat)).toInt) ∨ ((fv Po 302 (3 + 19 * t1.toInt.toNat)).toInt = 0 ∧ t2.toInt < (fv Po 302 (4 + 19 * t1.toInt.toNat)).toInt - 1)))) := g5
  have g7 : (0 : Int) ≤ (fv Po 302 0).toInt ∧ (fv Po 302 0).toInt ≤ 8 := Typ.rng hT rl_302 (by decide) (by decide) rfl
  try have g8 : (0 : Int) ≤ (fv Po 302 (3 + 19 * t1.toInt.toNat)).toInt ∧ (fv Po 302 (3 + 19 * t1.toInt.toNat)).toInt ≤ 1 := s3_rng hT (by omega)
  try have g9 : (0 : Int) ≤ (fv Po 302 (4 + 19 * t1.toInt.toNat)).toInt ∧ (fv Po 302 (4 + 19 * t1.toInt.toNat)).toInt ≤ 8 := s4_rng hT (by omega)
  show MEvP _ none q_142 6 [(0, .ref 301), (1, .int t1), (2, .int t2), (3, .int t3)] [.int x4] _ _ _ _
  refine mp_Tb (t := 13) (j_if_ne dX7_marks_6) (by decide) (fun c10 => ?_) (fun c10 => mpp 9 rfl ?_)
  · have c10 : x4.toInt ≠ 0 := ti_ne c10
    refine mp_a (a_iload_n dX7_marks_13 rfl) (mpp 14 rfl ?_)
    refine mp_a (a_iconst (v := 0) dX7_marks_14 rfl) (mpp 15 rfl ?_)
    refine mp_a (a_iconst (v := 2) dX7_marks_15 rfl) (mpp 16 rfl ?_)
    refine mp_calls (i := 61) (q' := q_127) (As := [.int t3, .int 0, .int 2]) (rest := []) dX7_marks_16 rfl qm_127 (by decide) rfl (Nat.le_of_ble_eq_true rfl) rfl ⟨rfl, rfl⟩ ⟨Nat.le_of_ble_eq_true rfl, Nat.le_of_ble_eq_true rfl⟩ (EvP.mono (by decide) (c_M_isIn hT )) (fun r11 P12 g13 => mpp 19 rfl ?_)
    obtain ⟨⟨x14, rfl, g15⟩, e16⟩ := g13
    have e16 := e16.symm
    subst e16
    have wx14 := ti_full x14
    replace g15 : 0 ≤ x14.toInt ∧ x14.toInt ≤ 1 ∧ ((x14.toInt = 1 ∧ (0 : Int) ≤ t3.toInt ∧ t3.toInt ≤ (2 : Int)) ∨ (x14.toInt = 0 ∧ (t3.toInt < (0 : Int) ∨ (2 : Int) < t3.toInt))) := g15
    show MEvP _ none q_142 19 [(0, .ref 301), (1, .int t1), (2, .int t2), (3, .int t3)] [.int x14] _ _ _ _
    refine mp_Tb (t := 26) (j_if_ne dX7_marks_19) (by decide) (fun c17 => ?_) (fun c17 => mpp 22 rfl ?_)
    · have c17 : x14.toInt ≠ 0 := ti_ne c17
      refine mp_a (a_aload_n dX7_marks_26 rfl) (mpp 27 rfl ?_)
      refine mp_a (a_iload_n dX7_marks_27 rfl) (mpp 28 rfl ?_)
      have p18 : 0 ≤ t1.toInt := by omega
      have p19 : t1.toInt ≤ 7 := by omega
      refine mt_callv (i := 130) (q' := q_145) (As := [.int t1]) (rest := []) hT dX7_marks_28 rfl qm_145 (by decide) rfl rl_301 (by decide) rfl (Nat.le_of_ble_eq_true rfl) rfl ⟨rfl, rfl⟩ ⟨Nat.le_of_ble_eq_true rfl, Nat.le_of_ble_eq_true rfl⟩ (EvP.mono (by decide) (c_M_isFolded hT p18 p19 )) (fun r20 P21 g22 => mpp 31 rfl ?_)
      obtain ⟨⟨x23, rfl, g24⟩, e25⟩ := g22
      have e25 := e25.symm
      subst e25
      have wx23 := ti_full x23
      replace g24 : 0 ≤ x23.toInt ∧ x23.toInt ≤ 1 ∧ ((x23.toInt = 1 ∧ (fv Po 302 (5 + 19 * t1.toInt.toNat)).toInt = 1) ∨ (x23.toInt = 0 ∧ (fv Po 302 (5 + 19 * t1.toInt.toNat)).toInt ≠ 1)) := g24
      have g26 := ti_full (fv Po 302 (5 + 19 * t1.toInt.toNat))
      show MEvP _ none q_142 31 [(0, .ref 301), (1, .int t1), (2, .int t2), (3, .int t3)] [.int x23] _ _ _ _
      refine mp_Tb (t := 41) (j_if_eq dX7_marks_31) (by decide) (fun c27 => ?_) (fun c27 => mpp 34 rfl ?_)
      · have c27 : x23.toInt = 0 := ti_eq c27
        refine mp_a (a_aload_n dX7_marks_41 rfl) (mpp 42 rfl ?_)
        refine mp_a (a_iload_n dX7_marks_42 rfl) (mpp 43 rfl ?_)
        refine mp_a (a_iload_n dX7_marks_43 rfl) (mpp 44 rfl ?_)
        have p28 : 0 ≤ t1.toInt := by omega
        have p29 : t1.toInt ≤ 7 := by omega
        have p30 : 0 ≤ t2.toInt := by omega
        have p31 : t2.toInt ≤ 7 := by omega
        refine mt_callv (i := 92) (q' := q_146) (As := [.int t1, .int t2]) (rest := []) hT dX7_marks_44 rfl qm_146 (by decide) rfl rl_301 (by decide) rfl (Nat.le_of_ble_eq_true rfl) rfl ⟨rfl, rfl⟩ ⟨Nat.le_of_ble_eq_true rfl, Nat.le_of_ble_eq_true rfl⟩ (EvP.mono (by decide) (c_M_creaseOf hT p28 p29 p30 p31 )) (fun r32 P33 g34 => mpp 47 rfl ?_)
        obtain ⟨⟨x35, rfl, g36⟩, e37⟩ := g34
        have e37 := e37.symm
        subst e37
        have wx35 := ti_full x35
        replace g36 : x35.toInt = (fv Po 302 (14 + 19 * t1.toInt.toNat + t2.toInt.toNat)).toInt := g36
        show MEvP _ none q_142 47 [(0, .ref 301), (1, .int t1), (2, .int t2), (3, .int t3)] [.int x35] _ _ _ _
        refine mp_a (a_istore (L' := [(4, .int x35), (0, .ref 301), (1, .int t1), (2, .int t2), (3, .int t3)]) dX7_marks_47 (by decide) rfl) (mpp 49 rfl ?_)
        refine mp_a (a_aload_n dX7_marks_49 rfl) (mpp 50 rfl ?_)
        refine mt_getU (i := 9) (k := 0) (A := 302) hT dX7_marks_50 rfl rl_301 (by decide) rfl (by decide) rfl un_18 (mpp 53 rfl ?_)
        refine mp_a (a_iload_n dX7_marks_53 rfl) (mpp 54 rfl ?_)
        refine mp_a (a_bipush (v := 11) dX7_marks_54 rfl) (mpp 56 rfl ?_)
        refine mp_a (a_iload_n dX7_marks_56 rfl) (mpp 57 rfl ?_)
        obtain ⟨z38, h39⟩ := ti_ex (11 + t2 : Int32)
        have wz38 := ti_full z38
        refine mp_t (s_iadd (v := z38) dX7_marks_57 h39) (mpp 58 rfl ?_)
        try have e40 : z38.toInt = 11 + t2.toInt := ti_addz h39 rfl rfl (by omega) (by omega)
        have p41 : 0 ≤ t1.toInt := by omega
        have p42 : t1.toInt ≤ 8 := by omega
        have p43 : 0 ≤ z38.toInt := by omega
        have p44 : z38.toInt ≤ 20 := by omega
        refine mp_calls (i := 74) (q' := q_135) (As := [.int t1, .int z38]) (rest := [.ref 302]) dX7_marks_58 rfl qm_135 (by decide) rfl (Nat.le_of_ble_eq_true rfl) rfl ⟨rfl, rfl⟩ ⟨Nat.le_of_ble_eq_true rfl, Nat.le_of_ble_eq_true rfl⟩ (EvP.mono (by decide) (c_M_at hT p41 p42 p43 p44 )) (fun r45 P46 g47 => mpp 61 rfl ?_)
        obtain ⟨⟨x48, rfl, g49⟩, e50⟩ := g47
        have e50 := e50.symm
        subst e50
        have wx48 := ti_full x48
        replace g49 : x48.toInt = 3 + 19 * t1.toInt + z38.toInt := g49
        show MEvP _ none q_142 61 [(4, .int x35), (0, .ref 301), (1, .int t1), (2, .int t2), (3, .int t3)] [.int x48, .ref 302] _ _ _ _
        refine mp_a (a_iload_n dX7_marks_61 rfl) (mpp 62 rfl ?_)
        refine mt_iasX (n := 155) hT dX7_marks_62 rl_302 (by decide) rfl rfl (by omega) (by omega) ssp_0 (okS_mk (by omega) (fun _ => ⟨by omega, by omega⟩) (fun _ => ⟨by omega, by omega⟩)) (fun P51 hT52 f53 f54 f55 => mpp 63 rfl ?_)
        have k56 : KW [1093, 1094, 1152] Po P51 := KW.step KW.refl rl_302 rfl f54 f55
        have R57 := Rel.oth hR f54 (by omega)
        refine mp_a (a_iload dX7_marks_63 rfl) (mpp 65 rfl ?_)
        have e59 : (fv P51 302 0).toInt = (fv Po 302 0).toInt := congrArg Int32.toInt (f54 302 0 (by omega))
        have e60 : (fv P51 302 1).toInt = (fv Po 302 1).toInt := congrArg Int32.toInt (f54 302 1 (by omega))
        have e61 : (fv P51 302 2).toInt = (fv Po 302 2).toInt := congrArg Int32.toInt (f54 302 2 (by omega))
        have u58 : marksM (sr Po) (sr P51) x35.toInt t1.toInt t2.toInt t3.toInt := (show (x35.toInt = -1001 ∧ ((t1.toInt < 0 ∨ (fv Po 302 (0)).toInt ≤ t1.toInt) ∨ ((0 ≤ t1.toInt ∧ t1.toInt + 1 ≤ (fv Po 302 (0)).toInt ∧ t1.toInt ≤ 7) ∧ (t2.toInt < 0 ∨ ((fv Po 302 (3 + 19 * t1.toInt.toNat)).toInt = 1 ∧ (fv Po 302 (4 + 19 * t1.toInt.toNat)).toInt ≤ t2.toInt) ∨ ((fv Po 302 (3 + 19 * t1.toInt.toNat)).toInt = 0 ∧ (fv Po 302 (4 + 19 * t1.toInt.toNat)).toInt - 1 ≤ t2.toInt)))) ∧ (∀ j : Nat, fv P51 302 j = fv Po 302 j)) ∨ (x35.toInt = -1002 ∧ (0 ≤ t1.toInt ∧ t1.toInt + 1 ≤ (fv Po 302 (0)).toInt ∧ t1.toInt ≤ 7) ∧ (0 ≤ t2.toInt ∧ t2.toInt ≤ 7 ∧ (((fv Po 302 (3 + 19 * t1.toInt.toNat)).toInt = 1 ∧ t2.toInt < (fv Po 302 (4 + 19 * t1.toInt.toNat)).toInt) ∨ ((fv Po 302 (3 + 19 * t1.toInt.toNat)).toInt = 0 ∧ t2.toInt < (fv Po 302 (4 + 19 * t1.toInt.toNat)).toInt - 1))) ∧ (t3.toInt < 0 ∨ 2 < t3.toInt) ∧ (∀ j : Nat, fv P51 302 j = fv Po 302 j)) ∨ (x35.toInt = -1003 ∧ (0 ≤ t1.toInt ∧ t1.toInt + 1 ≤ (fv Po 302 (0)).toInt ∧ t1.toInt ≤ 7) ∧ (0 ≤ t2.toInt ∧ t2.toInt ≤ 7 ∧ (((fv Po 302 (3 + 19 * t1.toInt.toNat)).toInt = 1 ∧ t2.toInt < (fv Po 302 (4 + 19 * t1.toInt.toNat)).toInt) ∨ ((fv Po 302 (3 + 19 * t1.toInt.toNat)).toInt = 0 ∧ t2.toInt < (fv Po 302 (4 + 19 * t1.toInt.toNat)).toInt - 1))) ∧ (0 ≤ t3.toInt ∧ t3.toInt ≤ 2) ∧ (fv Po 302 (5 + 19 * t1.toInt.toNat)).toInt = 1 ∧ (∀ j : Nat, fv P51 302 j = fv Po 302 j)) ∨ ((0 ≤ t1.toInt ∧ t1.toInt + 1 ≤ (fv Po 302 (0)).toInt ∧ t1.toInt ≤ 7) ∧ (0 ≤ t2.toInt ∧ t2.toInt ≤ 7 ∧ (((fv Po 302 (3 + 19 * t1.toInt.toNat)).toInt = 1 ∧ t2.toInt < (fv Po 302 (4 + 19 * t1.toInt.toNat)).toInt) ∨ ((fv Po 302 (3 + 19 * t1.toInt.toNat)).toInt = 0 ∧ t2.toInt < (fv Po 302 (4 + 19 * t1.toInt.toNat)).toInt - 1))) ∧ (0 ≤ t3.toInt ∧ t3.toInt ≤ 2) ∧ ¬ (fv Po 302 (5 + 19 * t1.toInt.toNat)).toInt = 1 ∧ x35.toInt = (fv Po 302 (14 + 19 * t1.toInt.toNat + t2.toInt.toNat)).toInt ∧ (fv P51 302 (14 + 19 * t1.toInt.toNat + t2.toInt.toNat)).toInt = t3.toInt ∧ (∀ j : Nat, ¬ j = 14 + 19 * t1.toInt.toNat + t2.toInt.toNat → fv P51 302 j = fv Po 302 j)) from Or.inr (Or.inr (Or.inr (⟨by omega, by omega, by omega, by omega, by omega, (congrArg (fun k => (fv P51 302 k).toInt) (show (14 + 19 * t1.toInt.toNat + t2.toInt.toNat) = x48.toInt.toNat from by omega)).trans (congrArg Int32.toInt f53), fun j h => by rw [f54 302 j (by omega)]⟩))))
        exact mp_iret ⟨⟨_, rfl, u58⟩, hT52, k56, R57⟩ dX7_marks_65 (Or.inl rfl)
      · have c27 : x23.toInt ≠ 0 := ti_eq_n c27
        refine mp_a (a_aload_n dX7_marks_34 rfl) (mpp 35 rfl ?_)
        refine mp_a (a_iconst (v := 2) dX7_marks_35 rfl) (mpp 36 rfl ?_)
        refine mp_a (a_iload_n dX7_marks_36 rfl) (mpp 37 rfl ?_)
        refine mt_callv (i := 101) (q' := q_134) (As := [.int 2, .int t1]) (rest := []) hT dX7_marks_37 rfl qm_134 (by decide) rfl rl_301 (by decide) rfl (Nat.le_of_ble_eq_true rfl) rfl ⟨rfl, rfl⟩ ⟨Nat.le_of_ble_eq_true rfl, Nat.le_of_ble_eq_true rfl⟩ (EvP.mono (by decide) (c_M_refuses hT )) (fun r62 P63 g64 => mpp 40 rfl ?_)
        obtain ⟨⟨x65, rfl, g66⟩, hT67, k68, R69⟩ := g64
        have k70 : KW [1093, 1094, 1152] Po P63 := KW.trans KW.refl k68 rfl
        have R72 := Rel.kw hR k68 rfl
        have wx65 := ti_full x65
        replace g66 : x65.toInt = -1003 := g66
        show MEvP _ none q_142 40 [(0, .ref 301), (1, .int t1), (2, .int t2), (3, .int t3)] [.int x65] _ _ _ _
        have e74 : (fv P63 302 0).toInt = (fv Po 302 0).toInt := congrArg Int32.toInt (R69 302 0 (by omega))
        have e75 : (fv P63 302 1).toInt = (fv Po 302 1).toInt := congrArg Int32.toInt (R69 302 1 (by omega))
        have e76 : (fv P63 302 2).toInt = (fv Po 302 2).toInt := congrArg Int32.toInt (R69 302 2 (by omega))
        have u73 : marksM (sr Po) (sr P63) x65.toInt t1.toInt t2.toInt t3.toInt := (show (x65.toInt = -1001 ∧ ((t1.toInt < 0 ∨ (fv Po 302 (0)).toInt ≤ t1.toInt) ∨ ((0 ≤ t1.toInt ∧ t1.toInt + 1 ≤ (fv Po 302 (0)).toInt ∧ t1.toInt ≤ 7) ∧ (t2.toInt < 0 ∨ ((fv Po 302 (3 + 19 * t1.toInt.toNat)).toInt = 1 ∧ (fv Po 302 (4 + 19 * t1.toInt.toNat)).toInt ≤ t2.toInt) ∨ ((fv Po 302 (3 + 19 * t1.toInt.toNat)).toInt = 0 ∧ (fv Po 302 (4 + 19 * t1.toInt.toNat)).toInt - 1 ≤ t2.toInt)))) ∧ (∀ j : Nat, fv P63 302 j = fv Po 302 j)) ∨ (x65.toInt = -1002 ∧ (0 ≤ t1.toInt ∧ t1.toInt + 1 ≤ (fv Po 302 (0)).toInt ∧ t1.toInt ≤ 7) ∧ (0 ≤ t2.toInt ∧ t2.toInt ≤ 7 ∧ (((fv Po 302 (3 + 19 * t1.toInt.toNat)).toInt = 1 ∧ t2.toInt < (fv Po 302 (4 + 19 * t1.toInt.toNat)).toInt) ∨ ((fv Po 302 (3 + 19 * t1.toInt.toNat)).toInt = 0 ∧ t2.toInt < (fv Po 302 (4 + 19 * t1.toInt.toNat)).toInt - 1))) ∧ (t3.toInt < 0 ∨ 2 < t3.toInt) ∧ (∀ j : Nat, fv P63 302 j = fv Po 302 j)) ∨ (x65.toInt = -1003 ∧ (0 ≤ t1.toInt ∧ t1.toInt + 1 ≤ (fv Po 302 (0)).toInt ∧ t1.toInt ≤ 7) ∧ (0 ≤ t2.toInt ∧ t2.toInt ≤ 7 ∧ (((fv Po 302 (3 + 19 * t1.toInt.toNat)).toInt = 1 ∧ t2.toInt < (fv Po 302 (4 + 19 * t1.toInt.toNat)).toInt) ∨ ((fv Po 302 (3 + 19 * t1.toInt.toNat)).toInt = 0 ∧ t2.toInt < (fv Po 302 (4 + 19 * t1.toInt.toNat)).toInt - 1))) ∧ (0 ≤ t3.toInt ∧ t3.toInt ≤ 2) ∧ (fv Po 302 (5 + 19 * t1.toInt.toNat)).toInt = 1 ∧ (∀ j : Nat, fv P63 302 j = fv Po 302 j)) ∨ ((0 ≤ t1.toInt ∧ t1.toInt + 1 ≤ (fv Po 302 (0)).toInt ∧ t1.toInt ≤ 7) ∧ (0 ≤ t2.toInt ∧ t2.toInt ≤ 7 ∧ (((fv Po 302 (3 + 19 * t1.toInt.toNat)).toInt = 1 ∧ t2.toInt < (fv Po 302 (4 + 19 * t1.toInt.toNat)).toInt) ∨ ((fv Po 302 (3 + 19 * t1.toInt.toNat)).toInt = 0 ∧ t2.toInt < (fv Po 302 (4 + 19 * t1.toInt.toNat)).toInt - 1))) ∧ (0 ≤ t3.toInt ∧ t3.toInt ≤ 2) ∧ ¬ (fv Po 302 (5 + 19 * t1.toInt.toNat)).toInt = 1 ∧ x65.toInt = (fv Po 302 (14 + 19 * t1.toInt.toNat + t2.toInt.toNat)).toInt ∧ (fv P63 302 (14 + 19 * t1.toInt.toNat + t2.toInt.toNat)).toInt = t3.toInt ∧ (∀ j : Nat, ¬ j = 14 + 19 * t1.toInt.toNat + t2.toInt.toNat → fv P63 302 j = fv Po 302 j)) from Or.inr (Or.inr (Or.inl (⟨by omega, by omega, by omega, by omega, by omega, fun j => by rw [R69 302 j (by omega)]⟩))))
        exact mp_iret ⟨⟨_, rfl, u73⟩, hT67, k70, R72⟩ dX7_marks_40 (Or.inl rfl)
    · have c17 : x14.toInt = 0 := ti_ne_n c17
      refine mp_a (a_sipush (v := -1002) dX7_marks_22 rfl) (mpp 25 rfl ?_)
      have u77 : marksM (sr Po) (sr Po) (-1002 : Int) t1.toInt t2.toInt t3.toInt := (show ((-1002 : Int) = -1001 ∧ ((t1.toInt < 0 ∨ (fv Po 302 (0)).toInt ≤ t1.toInt) ∨ ((0 ≤ t1.toInt ∧ t1.toInt + 1 ≤ (fv Po 302 (0)).toInt ∧ t1.toInt ≤ 7) ∧ (t2.toInt < 0 ∨ ((fv Po 302 (3 + 19 * t1.toInt.toNat)).toInt = 1 ∧ (fv Po 302 (4 + 19 * t1.toInt.toNat)).toInt ≤ t2.toInt) ∨ ((fv Po 302 (3 + 19 * t1.toInt.toNat)).toInt = 0 ∧ (fv Po 302 (4 + 19 * t1.toInt.toNat)).toInt - 1 ≤ t2.toInt)))) ∧ (∀ j : Nat, fv Po 302 j = fv Po 302 j)) ∨ ((-1002 : Int) = -1002 ∧ (0 ≤ t1.toInt ∧ t1.toInt + 1 ≤ (fv Po 302 (0)).toInt ∧ t1.toInt ≤ 7) ∧ (0 ≤ t2.toInt ∧ t2.toInt ≤ 7 ∧ (((fv Po 302 (3 + 19 * t1.toInt.toNat)).toInt = 1 ∧ t2.toInt < (fv Po 302 (4 + 19 * t1.toInt.toNat)).toInt) ∨ ((fv Po 302 (3 + 19 * t1.toInt.toNat)).toInt = 0 ∧ t2.toInt < (fv Po 302 (4 + 19 * t1.toInt.toNat)).toInt - 1))) ∧ (t3.toInt < 0 ∨ 2 < t3.toInt) ∧ (∀ j : Nat, fv Po 302 j = fv Po 302 j)) ∨ ((-1002 : Int) = -1003 ∧ (0 ≤ t1.toInt ∧ t1.toInt + 1 ≤ (fv Po 302 (0)).toInt ∧ t1.toInt ≤ 7) ∧ (0 ≤ t2.toInt ∧ t2.toInt ≤ 7 ∧ (((fv Po 302 (3 + 19 * t1.toInt.toNat)).toInt = 1 ∧ t2.toInt < (fv Po 302 (4 + 19 * t1.toInt.toNat)).toInt) ∨ ((fv Po 302 (3 + 19 * t1.toInt.toNat)).toInt = 0 ∧ t2.toInt < (fv Po 302 (4 + 19 * t1.toInt.toNat)).toInt - 1))) ∧ (0 ≤ t3.toInt ∧ t3.toInt ≤ 2) ∧ (fv Po 302 (5 + 19 * t1.toInt.toNat)).toInt = 1 ∧ (∀ j : Nat, fv Po 302 j = fv Po 302 j)) ∨ ((0 ≤ t1.toInt ∧ t1.toInt + 1 ≤ (fv Po 302 (0)).toInt ∧ t1.toInt ≤ 7) ∧ (0 ≤ t2.toInt ∧ t2.toInt ≤ 7 ∧ (((fv Po 302 (3 + 19 * t1.toInt.toNat)).toInt = 1 ∧ t2.toInt < (fv Po 302 (4 + 19 * t1.toInt.toNat)).toInt) ∨ ((fv Po 302 (3 + 19 * t1.toInt.toNat)).toInt = 0 ∧ t2.toInt < (fv Po 302 (4 + 19 * t1.toInt.toNat)).toInt - 1))) ∧ (0 ≤ t3.toInt ∧ t3.toInt ≤ 2) ∧ ¬ (fv Po 302 (5 + 19 * t1.toInt.toNat)).toInt = 1 ∧ (-1002 : Int) = (fv Po 302 (14 + 19 * t1.toInt.toNat + t2.toInt.toNat)).toInt ∧ (fv Po 302 (14 + 19 * t1.toInt.toNat + t2.toInt.toNat)).toInt = t3.toInt ∧ (∀ j : Nat, ¬ j = 14 + 19 * t1.toInt.toNat + t2.toInt.toNat → fv Po 302 j = fv Po 302 j)) from Or.inr (Or.inl (⟨by omega, by omega, by omega, by omega, fun j => rfl⟩)))
      exact mp_iret ⟨⟨_, rfl, u77⟩, hT, KW.refl, hR⟩ dX7_marks_25 (Or.inl rfl)
  · have c10 : x4.toInt = 0 := ti_ne_n c10
    refine mp_a (a_sipush (v := -1001) dX7_marks_9 rfl) (mpp 12 rfl ?_)
    have u78 : marksM (sr Po) (sr Po) (-1001 : Int) t1.toInt t2.toInt t3.toInt := (show ((-1001 : Int) = -1001 ∧ ((t1.toInt < 0 ∨ (fv Po 302 (0)).toInt ≤ t1.toInt) ∨ ((0 ≤ t1.toInt ∧ t1.toInt + 1 ≤ (fv Po 302 (0)).toInt ∧ t1.toInt ≤ 7) ∧ (t2.toInt < 0 ∨ ((fv Po 302 (3 + 19 * t1.toInt.toNat)).toInt = 1 ∧ (fv Po 302 (4 + 19 * t1.toInt.toNat)).toInt ≤ t2.toInt) ∨ ((fv Po 302 (3 + 19 * t1.toInt.toNat)).toInt = 0 ∧ (fv Po 302 (4 + 19 * t1.toInt.toNat)).toInt - 1 ≤ t2.toInt)))) ∧ (∀ j : Nat, fv Po 302 j = fv Po 302 j)) ∨ ((-1001 : Int) = -1002 ∧ (0 ≤ t1.toInt ∧ t1.toInt + 1 ≤ (fv Po 302 (0)).toInt ∧ t1.toInt ≤ 7) ∧ (0 ≤ t2.toInt ∧ t2.toInt ≤ 7 ∧ (((fv Po 302 (3 + 19 * t1.toInt.toNat)).toInt = 1 ∧ t2.toInt < (fv Po 302 (4 + 19 * t1.toInt.toNat)).toInt) ∨ ((fv Po 302 (3 + 19 * t1.toInt.toNat)).toInt = 0 ∧ t2.toInt < (fv Po 302 (4 + 19 * t1.toInt.toNat)).toInt - 1))) ∧ (t3.toInt < 0 ∨ 2 < t3.toInt) ∧ (∀ j : Nat, fv Po 302 j = fv Po 302 j)) ∨ ((-1001 : Int) = -1003 ∧ (0 ≤ t1.toInt ∧ t1.toInt + 1 ≤ (fv Po 302 (0)).toInt ∧ t1.toInt ≤ 7) ∧ (0 ≤ t2.toInt ∧ t2.toInt ≤ 7 ∧ (((fv Po 302 (3 + 19 * t1.toInt.toNat)).toInt = 1 ∧ t2.toInt < (fv Po 302 (4 + 19 * t1.toInt.toNat)).toInt) ∨ ((fv Po 302 (3 + 19 * t1.toInt.toNat)).toInt = 0 ∧ t2.toInt < (fv Po 302 (4 + 19 * t1.toInt.toNat)).toInt - 1))) ∧ (0 ≤ t3.toInt ∧ t3.toInt ≤ 2) ∧ (fv Po 302 (5 + 19 * t1.toInt.toNat)).toInt = 1 ∧ (∀ j : Nat, fv Po 302 j = fv Po 302 j)) ∨ ((0 ≤ t1.toInt ∧ t1.toInt + 1 ≤ (fv Po 302 (0)).toInt ∧ t1.toInt ≤ 7) ∧ (0 ≤ t2.toInt ∧ t2.toInt ≤ 7 ∧ (((fv Po 302 (3 + 19 * t1.toInt.toNat)).toInt = 1 ∧ t2.toInt < (fv Po 302 (4 + 19 * t1.toInt.toNat)).toInt) ∨ ((fv Po 302 (3 + 19 * t1.toInt.toNat)).toInt = 0 ∧ t2.toInt < (fv Po 302 (4 + 19 * t1.toInt.toNat)).toInt - 1))) ∧ (0 ≤ t3.toInt ∧ t3.toInt ≤ 2) ∧ ¬ (fv Po 302 (5 + 19 * t1.toInt.toNat)).toInt = 1 ∧ (-1001 : Int) = (fv Po 302 (14 + 19 * t1.toInt.toNat + t2.toInt.toNat)).toInt ∧ (fv Po 302 (14 + 19 * t1.toInt.toNat + t2.toInt.toNat)).toInt = t3.toInt ∧ (∀ j : Nat, ¬ j = 14 + 19 * t1.toInt.toNat + t2.toInt.toNat → fv Po 302 j = fv Po 302 j)) from Or.inl (⟨by omega, by omega, fun j => rfl⟩))
    exact mp_iret ⟨⟨_, rfl, u78⟩, hT, KW.refl, hR⟩ dX7_marks_12 (Or.inl rfl)

set_option maxHeartbeats 4000000 in
theorem c_M_mark {Po : mP} {t1 : Int32} {t2 : Int32} {t3 : Int32} (hT : Typ Po) (hR : Rel Po)  : EvP 7 141 [.ref 301, .int t1, .int t2, .int t3] Po (fun r P' => (∃ x : Int32, r = some (.int x) ∧ (TOPM Po P' x.toInt ∧ marksM (sr Po) (sr P') x.toInt t1.toInt t2.toInt t3.toInt)) ∧ Typ P' ∧ KW [1092, 1093, 1094, 1095, 1152, 1216, 1344] Po P' ∧ Rel P') := by
  refine EvP.of qm_141 (Nat.le_of_ble_eq_true rfl) rfl ?_
  show MEvP _ none q_141 0 [(0, .ref 301), (1, .int t1), (2, .int t2), (3, .int t3)] [] _ 0 0 _
  have w_t1 := ti_full t1
  have w_t2 := ti_full t2
  have w_t3 := ti_full t3
  refine mp_a (a_aload_n dX7_mark_0 rfl) (mpp 1 rfl ?_)
  refine mt_callv (i := 117) (q' := q_124) (As := []) (rest := []) hT dX7_mark_1 rfl qm_124 (by decide) rfl rl_301 (by decide) rfl (Nat.le_of_ble_eq_true rfl) rfl ⟨rfl, rfl⟩ ⟨Nat.le_of_ble_eq_true rfl, Nat.le_of_ble_eq_true rfl⟩ (EvP.mono (by decide) (c_M_keeps hT hR )) (fun r1 P2 g3 => mpp 4 rfl ?_)
  obtain ⟨⟨rfl, g5⟩, hT6, k7, R8r, R8⟩ := g3
  have k9 : KW [1092, 1093, 1094, 1095, 1152, 1216, 1344] Po P2 := KW.trans KW.refl k7 rfl
  show MEvP _ none q_141 4 [(0, .ref 301), (1, .int t1), (2, .int t2), (3, .int t3)] [] _ _ _ _
  refine mp_a (a_aload_n dX7_mark_4 rfl) (mpp 5 rfl ?_)
  refine mp_a (a_aload_n dX7_mark_5 rfl) (mpp 6 rfl ?_)
  refine mp_a (a_iload_n dX7_mark_6 rfl) (mpp 7 rfl ?_)
  refine mp_a (a_iload_n dX7_mark_7 rfl) (mpp 8 rfl ?_)
  refine mp_a (a_iload_n dX7_mark_8 rfl) (mpp 9 rfl ?_)
  refine mt_callv (i := 133) (q' := q_142) (As := [.int t1, .int t2, .int t3]) (rest := [.ref 301]) hT6 dX7_mark_9 rfl qm_142 (by decide) rfl rl_301 (by decide) rfl (Nat.le_of_ble_eq_true rfl) rfl ⟨rfl, rfl⟩ ⟨Nat.le_of_ble_eq_true rfl, Nat.le_of_ble_eq_true rfl⟩ (EvP.mono (by decide) (c_M_marks hT6 R8r )) (fun r11 P12 g13 => mpp 12 rfl ?_)
  obtain ⟨⟨x14, rfl, g15⟩, hT16, k17, R18⟩ := g13
  have k19 : KW [1092, 1093, 1094, 1095, 1152, 1216, 1344] Po P12 := KW.trans k9 k17 rfl
  have wx14 := ti_full x14
  replace g15 : marksM (sr P2) (sr P12) x14.toInt t1.toInt t2.toInt t3.toInt := g15
  show MEvP _ none q_141 12 [(0, .ref 301), (1, .int t1), (2, .int t2), (3, .int t3)] [.int x14, .ref 301] _ _ _ _
  refine mt_callv (i := 124) (q' := q_139) (As := [.int x14]) (rest := []) hT16 dX7_mark_12 rfl qm_139 (by decide) rfl rl_301 (by decide) rfl (Nat.le_of_ble_eq_true rfl) rfl ⟨rfl, rfl⟩ ⟨Nat.le_of_ble_eq_true rfl, Nat.le_of_ble_eq_true rfl⟩ (EvP.mono (by decide) (c_M_ends hT16 R18 )) (fun r21 P22 g23 => mpp 15 rfl ?_)
  obtain ⟨⟨x24, rfl, g25⟩, hT26, k27, R28r, R28⟩ := g23
  have k29 : KW [1092, 1093, 1094, 1095, 1152, 1216, 1344] Po P22 := KW.trans k19 k27 rfl
  have wx24 := ti_full x24
  replace g25 : x24.toInt = x14.toInt := g25
  show MEvP _ none q_141 15 [(0, .ref 301), (1, .int t1), (2, .int t2), (3, .int t3)] [.int x24] _ _ _ _
  have w32_a : sr P2 = sr Po := funext (fun j => R8.2 302 j (by omega))
  have w32_b : sr P12 = sr P22 := funext (fun j => (R28.2.2.1 302 j (by omega) (by omega) (by omega)).symm)
  have w32_g := g15
  rw [w32_a, w32_b] at w32_g
  have w32_x : x24.toInt = x14.toInt := by omega
  rw [← w32_x] at w32_g
  have w32_t : TOPM Po P22 x24.toInt := TOPM.mk R8.1 (fun j => KW.at k17 j rl_303 rfl) (fun j => KW.at k17 j rl_304 rfl) (fun j => KW.at k17 j rl_305 rfl) (fun j => KW.at k17 j rl_314 rfl) (KW.at k17 8 rl_301 rfl) (KW.at k17 4 rl_301 rfl) (KW.at k17 23 rl_301 rfl) (by rw [w32_x]; exact R28.1) (by rw [w32_x]; exact R28.2.1) R28.2.2.1
  have u31 : TOPM Po P22 x24.toInt ∧ marksM (sr Po) (sr P22) x24.toInt t1.toInt t2.toInt t3.toInt := ⟨w32_t, w32_g⟩
  exact mp_iret ⟨⟨_, rfl, u31⟩, hT26, k29, R28r⟩ dX7_mark_15 (Or.inl rfl)

set_option maxHeartbeats 4000000 in
theorem c_M_countOf_l5 {Po : mP} {t1 : Int32} {t2 : Int32} (hT : Typ Po)  (hp0 : 0 ≤ t1.toInt) (hp1 : t1.toInt ≤ 7)  : ∀ (n : Nat) (v3 : Int32) (v4 : Int32), (v3.toInt ≤ 0 ∨ UD Po t1.toInt.toNat t2.toInt) → (0 ≤ v3.toInt) → (v3.toInt ≤ v4.toInt) → (v4.toInt ≤ 8) → (v3.toInt = cntF (fun j : Nat => fv Po 302 (14 + 19 * t1.toInt.toNat + j)) t2.toInt v4.toInt.toNat) → (((fv Po 302 (3 + 19 * t1.toInt.toNat)).toInt = 0 ∧ (v4.toInt ≤ (fv Po 302 (4 + 19 * t1.toInt.toNat)).toInt - 1 ∨ v4.toInt = 0)) ∨ ((fv Po 302 (3 + 19 * t1.toInt.toNat)).toInt = 1 ∧ v4.toInt ≤ (fv Po 302 (4 + 19 * t1.toInt.toNat)).toInt)) → (0 ≤ v4.toInt) → (2147483647 - v4.toInt).toNat = n → MEvP 4 none q_149 5 [(0, .ref 301), (1, .int t1), (2, .int t2), (3, .int v3), (4, .int v4)] [] Po 0 0 (fun r P' => (∃ x : Int32, r = some (.int x) ∧ ((x.toInt ≤ 0 ∨ UD Po t1.toInt.toNat t2.toInt) ∧ 0 ≤ x.toInt ∧ x.toInt ≤ 8 ∧ x.toInt = cntF (fun j : Nat => fv Po 302 (14 + 19 * t1.toInt.toNat + j)) t2.toInt (nC (fv Po 302 (3 + 19 * t1.toInt.toNat)).toInt (fv Po 302 (4 + 19 * t1.toInt.toNat)).toInt))) ∧ P' = Po) := by
  intro n
  induction n using Nat.strongRecOn with | _ n ih => ?_
  intro v3 v4 i_0 i_1 i_2 i_3 i_4 i_5 i_6 hm
  have w_t1 := ti_full t1
  have w_t2 := ti_full t2
  have w_v3 := ti_full v3
  have w_v4 := ti_full v4
  try have g1 : (0 : Int) ≤ (fv Po 302 (3 + 19 * t1.toInt.toNat)).toInt ∧ (fv Po 302 (3 + 19 * t1.toInt.toNat)).toInt ≤ 1 := s3_rng hT (by omega)
  try have g2 : (0 : Int) ≤ (fv Po 302 (4 + 19 * t1.toInt.toNat)).toInt ∧ (fv Po 302 (4 + 19 * t1.toInt.toNat)).toInt ≤ 8 := s4_rng hT (by omega)
  refine mp_a (a_iload dX7_countOf_5 rfl) (mpp 7 rfl ?_)
  refine mp_a (a_aload_n dX7_countOf_7 rfl) (mpp 8 rfl ?_)
  refine mp_a (a_iload_n dX7_countOf_8 rfl) (mpp 9 rfl ?_)
  have p3 : 0 ≤ t1.toInt := by omega
  have p4 : t1.toInt ≤ 7 := by omega
  refine mt_callv (i := 88) (q' := q_136) (As := [.int t1]) (rest := [.int v4]) hT dX7_countOf_9 rfl qm_136 (by decide) rfl rl_301 (by decide) rfl (Nat.le_of_ble_eq_true rfl) rfl ⟨rfl, rfl⟩ ⟨Nat.le_of_ble_eq_true rfl, Nat.le_of_ble_eq_true rfl⟩ (EvP.mono (by decide) (c_M_creases hT p3 p4 )) (fun r5 P6 g7 => mpp 12 rfl ?_)
  obtain ⟨⟨x8, rfl, g9⟩, e10⟩ := g7
  have e10 := e10.symm
  subst e10
  have wx8 := ti_full x8
  replace g9 : -1 ≤ x8.toInt ∧ x8.toInt ≤ 8 ∧ (((fv Po 302 (3 + 19 * t1.toInt.toNat)).toInt = 1 ∧ x8.toInt = (fv Po 302 (4 + 19 * t1.toInt.toNat)).toInt) ∨ ((fv Po 302 (3 + 19 * t1.toInt.toNat)).toInt = 0 ∧ x8.toInt = (fv Po 302 (4 + 19 * t1.toInt.toNat)).toInt - 1)) := g9
  show MEvP _ none q_149 12 [(0, .ref 301), (1, .int t1), (2, .int t2), (3, .int v3), (4, .int v4)] [.int x8, .int v4] _ _ _ _
  refine mp_Tb (t := 40) (j_icmp_ge dX7_countOf_12) (by decide) (fun c11 => ?_) (fun c11 => mpp 15 rfl ?_)
  · have c11 : v4.toInt ≥ x8.toInt := ti_ge c11
    refine mp_a (a_iload_n dX7_countOf_40 rfl) (mpp 41 rfl ?_)
    have u12 : (v3.toInt ≤ 0 ∨ UD Po t1.toInt.toNat t2.toInt) ∧ 0 ≤ v3.toInt ∧ v3.toInt ≤ 8 ∧ v3.toInt = cntF (fun j : Nat => fv Po 302 (14 + 19 * t1.toInt.toNat + j)) t2.toInt (nC (fv Po 302 (3 + 19 * t1.toInt.toNat)).toInt (fv Po 302 (4 + 19 * t1.toInt.toNat)).toInt) := ⟨i_0, by omega, by omega, i_4.trans (congrArg (cntF _ _) (by unfold nC; split <;> omega))⟩
    exact mp_iret ⟨⟨_, rfl, u12⟩, rfl⟩ dX7_countOf_41 (Or.inl rfl)
  · have c11 : v4.toInt < x8.toInt := ti_ge_n c11
    refine mp_a (a_iload_n dX7_countOf_15 rfl) (mpp 16 rfl ?_)
    refine mp_a (a_aload_n dX7_countOf_16 rfl) (mpp 17 rfl ?_)
    refine mp_a (a_iload_n dX7_countOf_17 rfl) (mpp 18 rfl ?_)
    refine mp_a (a_iload dX7_countOf_18 rfl) (mpp 20 rfl ?_)
    have p13 : 0 ≤ t1.toInt := by omega
    have p14 : t1.toInt ≤ 7 := by omega
    have p15 : 0 ≤ v4.toInt := by omega
    have p16 : v4.toInt ≤ 7 := by omega
    refine mt_callv (i := 92) (q' := q_146) (As := [.int t1, .int v4]) (rest := [.int v3]) hT dX7_countOf_20 rfl qm_146 (by decide) rfl rl_301 (by decide) rfl (Nat.le_of_ble_eq_true rfl) rfl ⟨rfl, rfl⟩ ⟨Nat.le_of_ble_eq_true rfl, Nat.le_of_ble_eq_true rfl⟩ (EvP.mono (by decide) (c_M_creaseOf hT p13 p14 p15 p16 )) (fun r17 P18 g19 => mpp 23 rfl ?_)
    obtain ⟨⟨x20, rfl, g21⟩, e22⟩ := g19
    have e22 := e22.symm
    subst e22
    have wx20 := ti_full x20
    replace g21 : x20.toInt = (fv Po 302 (14 + 19 * t1.toInt.toNat + v4.toInt.toNat)).toInt := g21
    show MEvP _ none q_149 23 [(0, .ref 301), (1, .int t1), (2, .int t2), (3, .int v3), (4, .int v4)] [.int x20, .int v3] _ _ _ _
    refine mp_a (a_iload_n dX7_countOf_23 rfl) (mpp 24 rfl ?_)
    refine mp_Tb (t := 31) (j_icmp_ne dX7_countOf_24) (by decide) (fun c23 => ?_) (fun c23 => mpp 27 rfl ?_)
    · have c23 : x20.toInt ≠ t2.toInt := ti_ne c23
      refine mp_a (a_iconst (v := 0) dX7_countOf_31 rfl) (mpp 32 rfl ?_)
      obtain ⟨z24, h25⟩ := ti_ex (v3 + 0 : Int32)
      have wz24 := ti_full z24
      refine mp_t (s_iadd (v := z24) dX7_countOf_32 h25) (mpp 33 rfl ?_)
      try have e26 : z24.toInt = v3.toInt + 0 := ti_addz h25 rfl rfl (by omega) (by omega)
      refine mp_a (a_istore_n (L' := [(3, .int z24), (0, .ref 301), (1, .int t1), (2, .int t2), (4, .int v4)]) dX7_countOf_33 (by decide) rfl) (mpp 34 rfl ?_)
      obtain ⟨z27, h28⟩ := ti_ex (v4 + 1 : Int32)
      have wz27 := ti_full z27
      refine mp_a (a_iinc (v := z27) (L' := [(4, .int z27), (3, .int z24), (0, .ref 301), (1, .int t1), (2, .int t2)]) dX7_countOf_34 (by decide) rfl h28 rfl) (mpp 37 rfl ?_)
      try have e29 : z27.toInt = v4.toInt + 1 := ti_addz h28 rfl rfl (by omega) (by omega)
      refine mp_a (a_goto (t := 5) dX7_countOf_37 (by decide)) ?_
      refine MEvP.less (L := [(0, .ref 301), (1, .int t1), (2, .int t2), (3, .int z24), (4, .int z27)]) rfl rfl ⟨rfl, rfl, rfl, rfl, rfl, trivial⟩ ?_
      have i30 : z24.toInt ≤ 0 ∨ UD Po t1.toInt.toNat t2.toInt := by first | exact Or.inl (by omega) | exact Or.inr ⟨v4.toInt.toNat, by omega, by omega⟩ | exact i_0.imp (fun h => by omega) id
      have i31 : 0 ≤ z24.toInt := by omega
      have i32 : z24.toInt ≤ z27.toInt := by omega
      have i33 : z27.toInt ≤ 8 := by omega
      have i34 : z24.toInt = cntF (fun j : Nat => fv Po 302 (14 + 19 * t1.toInt.toNat + j)) t2.toInt z27.toInt.toNat := cntF.no i_4 (by omega) (by show ¬ (fv Po 302 (14 + 19 * t1.toInt.toNat + v4.toInt.toNat)).toInt = t2.toInt; omega) (by omega)
      have i35 : ((fv Po 302 (3 + 19 * t1.toInt.toNat)).toInt = 0 ∧ (z27.toInt ≤ (fv Po 302 (4 + 19 * t1.toInt.toNat)).toInt - 1 ∨ z27.toInt = 0)) ∨ ((fv Po 302 (3 + 19 * t1.toInt.toNat)).toInt = 1 ∧ z27.toInt ≤ (fv Po 302 (4 + 19 * t1.toInt.toNat)).toInt) := by omega
      have i36 : 0 ≤ z27.toInt := by omega
      exact ih _ (by omega) _ _ i30 i31 i32 i33 i34 i35 i36 rfl
    · have c23 : x20.toInt = t2.toInt := ti_ne_n c23
      refine mp_a (a_iconst (v := 1) dX7_countOf_27 rfl) (mpp 28 rfl ?_)
      refine mp_a (a_goto (t := 32) dX7_countOf_28 (by decide)) ?_
      obtain ⟨z37, h38⟩ := ti_ex (v3 + 1 : Int32)
      have wz37 := ti_full z37
      refine mp_t (s_iadd (v := z37) dX7_countOf_32 h38) (mpp 33 rfl ?_)
      try have e39 : z37.toInt = v3.toInt + 1 := ti_addz h38 rfl rfl (by omega) (by omega)
      refine mp_a (a_istore_n (L' := [(3, .int z37), (0, .ref 301), (1, .int t1), (2, .int t2), (4, .int v4)]) dX7_countOf_33 (by decide) rfl) (mpp 34 rfl ?_)
      obtain ⟨z40, h41⟩ := ti_ex (v4 + 1 : Int32)
      have wz40 := ti_full z40
      refine mp_a (a_iinc (v := z40) (L' := [(4, .int z40), (3, .int z37), (0, .ref 301), (1, .int t1), (2, .int t2)]) dX7_countOf_34 (by decide) rfl h41 rfl) (mpp 37 rfl ?_)
      try have e42 : z40.toInt = v4.toInt + 1 := ti_addz h41 rfl rfl (by omega) (by omega)
      refine mp_a (a_goto (t := 5) dX7_countOf_37 (by decide)) ?_
      refine MEvP.less (L := [(0, .ref 301), (1, .int t1), (2, .int t2), (3, .int z37), (4, .int z40)]) rfl rfl ⟨rfl, rfl, rfl, rfl, rfl, trivial⟩ ?_
      have i43 : z37.toInt ≤ 0 ∨ UD Po t1.toInt.toNat t2.toInt := by first | exact Or.inl (by omega) | exact Or.inr ⟨v4.toInt.toNat, by omega, by omega⟩ | exact i_0.imp (fun h => by omega) id
      have i44 : 0 ≤ z37.toInt := by omega
      have i45 : z37.toInt ≤ z40.toInt := by omega
      have i46 : z40.toInt ≤ 8 := by omega
      have i47 : z37.toInt = cntF (fun j : Nat => fv Po 302 (14 + 19 * t1.toInt.toNat + j)) t2.toInt z40.toInt.toNat := cntF.yes i_4 (by omega) (by show (fv Po 302 (14 + 19 * t1.toInt.toNat + v4.toInt.toNat)).toInt = t2.toInt; omega) (by omega)
      have i48 : ((fv Po 302 (3 + 19 * t1.toInt.toNat)).toInt = 0 ∧ (z40.toInt ≤ (fv Po 302 (4 + 19 * t1.toInt.toNat)).toInt - 1 ∨ z40.toInt = 0)) ∨ ((fv Po 302 (3 + 19 * t1.toInt.toNat)).toInt = 1 ∧ z40.toInt ≤ (fv Po 302 (4 + 19 * t1.toInt.toNat)).toInt) := by omega
      have i49 : 0 ≤ z40.toInt := by omega
      exact ih _ (by omega) _ _ i43 i44 i45 i46 i47 i48 i49 rfl

set_option maxHeartbeats 4000000 in
theorem c_M_countOf {Po : mP} {t1 : Int32} {t2 : Int32} (hT : Typ Po)  (hp0 : 0 ≤ t1.toInt) (hp1 : t1.toInt ≤ 7)  : EvP 5 149 [.ref 301, .int t1, .int t2] Po (fun r P' => (∃ x : Int32, r = some (.int x) ∧ ((x.toInt ≤ 0 ∨ UD Po t1.toInt.toNat t2.toInt) ∧ 0 ≤ x.toInt ∧ x.toInt ≤ 8 ∧ x.toInt = cntF (fun j : Nat => fv Po 302 (14 + 19 * t1.toInt.toNat + j)) t2.toInt (nC (fv Po 302 (3 + 19 * t1.toInt.toNat)).toInt (fv Po 302 (4 + 19 * t1.toInt.toNat)).toInt))) ∧ P' = Po) := by
  refine EvP.of qm_149 (Nat.le_of_ble_eq_true rfl) rfl ?_
  show MEvP _ none q_149 0 [(0, .ref 301), (1, .int t1), (2, .int t2)] [] _ 0 0 _
  have w_t1 := ti_full t1
  have w_t2 := ti_full t2
  try have g1 : (0 : Int) ≤ (fv Po 302 (3 + 19 * t1.toInt.toNat)).toInt ∧ (fv Po 302 (3 + 19 * t1.toInt.toNat)).toInt ≤ 1 := s3_rng hT (by omega)
  try have g2 : (0 : Int) ≤ (fv Po 302 (4 + 19 * t1.toInt.toNat)).toInt ∧ (fv Po 302 (4 + 19 * t1.toInt.toNat)).toInt ≤ 8 := s4_rng hT (by omega)
  refine mp_a (a_iconst (v := 0) dX7_countOf_0 rfl) (mpp 1 rfl ?_)
  refine mp_a (a_istore_n (L' := [(3, .int 0), (0, .ref 301), (1, .int t1), (2, .int t2)]) dX7_countOf_1 (by decide) rfl) (mpp 2 rfl ?_)
  refine mp_a (a_iconst (v := 0) dX7_countOf_2 rfl) (mpp 3 rfl ?_)
  refine mp_a (a_istore (L' := [(4, .int 0), (3, .int 0), (0, .ref 301), (1, .int t1), (2, .int t2)]) dX7_countOf_3 (by decide) rfl) (mpp 5 rfl ?_)
  refine MEvP.less (L := [(0, .ref 301), (1, .int t1), (2, .int t2), (3, .int 0), (4, .int 0)]) rfl rfl ⟨rfl, rfl, rfl, rfl, rfl, trivial⟩ ?_
  have i3 : (0 : Int) ≤ 0 ∨ UD Po t1.toInt.toNat t2.toInt := Or.inl (by omega)
  have i4 : 0 ≤ (0 : Int) := by omega
  have i5 : (0 : Int) ≤ (0 : Int) := by omega
  have i6 : (0 : Int) ≤ 8 := by omega
  have i7 : (0 : Int) = cntF (fun j : Nat => fv Po 302 (14 + 19 * t1.toInt.toNat + j)) t2.toInt (0 : Int).toNat := rfl
  have i8 : ((fv Po 302 (3 + 19 * t1.toInt.toNat)).toInt = 0 ∧ ((0 : Int) ≤ (fv Po 302 (4 + 19 * t1.toInt.toNat)).toInt - 1 ∨ (0 : Int) = 0)) ∨ ((fv Po 302 (3 + 19 * t1.toInt.toNat)).toInt = 1 ∧ (0 : Int) ≤ (fv Po 302 (4 + 19 * t1.toInt.toNat)).toInt) := by omega
  have i9 : 0 ≤ (0 : Int) := by omega
  exact c_M_countOf_l5 hT  hp0 hp1 _ _ _ i3 i4 i5 i6 i7 i8 i9 rfl

