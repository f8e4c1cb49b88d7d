/-! methods on typed pools, 2 (written by a program) -/
set_option maxHeartbeats 4000000 in
theorem c_CP_takeSizes_Piece_l68 {Po : mP} {a0_ : Nat} {t1 : Int32} {t2 : Int32} (hTo : Typ Po) (hX : XR Po) (hp0 : t1.toInt = 0 ∨ t1.toInt = 1) (ha0 : rl a0_ = 3) : ∀ (n : Nat) (v3 : Int32) (v4 : Int32), ∀ (P : mP), Typ P → KW [192, 193, 194, 256] Po P → (NDG t2.toInt (fv P a0_ 1).toInt.toNat) → ((fv P a0_ 1).toInt ≤ 8) → (v3.toInt = dvF t2.toInt ((fv P a0_ 1).toInt - 1 - v4.toInt).toNat) → ((-1) ≤ v4.toInt ∧ v4.toInt ≤ (fv P a0_ 1).toInt - 1) → (DGR P (a0_ + 1) t2.toInt (fv P a0_ 1).toInt.toNat v4.toInt) → (NZ t2.toInt (fv P a0_ 1).toInt.toNat v4.toInt) → (KI a0_ (a0_ + 3) Po P) → ((fv P a0_ 0).toInt = t1.toInt ∧ (fv P a0_ 2).toInt = 0) → (v4.toInt + 1).toNat = n → MEvP 2 none q_21 68 [(0, .ref a0_), (1, .int t1), (2, .int t2), (3, .int v3), (4, .int v4)] [] P 0 0 (fun r P' => (∃ x : Int32, r = some (.int x) ∧ (0 ≤ x.toInt ∧ x.toInt ≤ 1 ∧ ((x.toInt = 1 ∧ ∃ c : Nat, okSz t1.toInt t2.toInt c ∧ (fv P' a0_ 0).toInt = t1.toInt ∧ (fv P' a0_ 2).toInt = 0 ∧ (fv P' a0_ 1).toInt = (c : Int) ∧ ∀ j : Nat, j < c → fv P' (a0_ + 1) j = dgI t2.toInt c j) ∨ (x.toInt = 0 ∧ ∀ c : Nat, ¬ okSz t1.toInt t2.toInt c)))) ∧ Typ P' ∧ KW [192, 193, 194, 256] Po P' ∧ KI a0_ (a0_ + 3) Po P') := by
  intro n
  induction n using Nat.strongRecOn with | _ n ih => ?_
  intro v3 v4 P hT hK i_0 i_1 i_2 i_3 i_4 i_5 i_6 i_7 hm
  have w1 := pc_ar ha0
  have w_t1 := ti_full t1
  have w_t2 := ti_full t2
  have w_v3 := ti_full v3
  have w_v4 := ti_full v4
  have g2 : (0 : Int) ≤ (fv P a0_ 1).toInt ∧ (fv P a0_ 1).toInt ≤ 8 := Typ.rng hT ha0 (by decide) (by decide) rfl
  have g3 : (0 : Int) ≤ (fv P a0_ 1).toInt ∧ (fv P a0_ 1).toInt ≤ 8 := Typ.rng hT ha0 (by decide) (by decide) rfl
  have g4 := ti_full (fv P a0_ 0)
  have g5 := ti_full (fv P a0_ 0)
  have g6 : (0 : Int) ≤ (fv P a0_ 2).toInt ∧ (fv P a0_ 2).toInt ≤ 1 := Typ.rng hT ha0 (by decide) (by decide) rfl
  have g7 : (0 : Int) ≤ (fv P a0_ 2).toInt ∧ (fv P a0_ 2).toInt ≤ 1 := Typ.rng hT ha0 (by decide) (by decide) rfl
  refine mp_a (a_iload dX2_takeSizes_68 rfl) (mpp 70 rfl ?_)
  refine mp_Tb (t := 106) (j_if_lt dX2_takeSizes_70) (by decide) (fun c8 => ?_) (fun c8 => mpp 73 rfl ?_)
  · have c8 : v4.toInt < 0 := ti_lt c8
    refine mp_a (a_aload_n dX2_takeSizes_106 rfl) (mpp 107 rfl ?_)
    refine mt_getI (i := 18) (k := 0) hT dX2_takeSizes_107 rfl ha0 (by decide) rfl (by decide) rfl (fun g9 g10 => mpp 110 rfl ?_)
    refine mp_Tb (t := 136) (j_if_ne dX2_takeSizes_110) (by decide) (fun c11 => ?_) (fun c11 => mpp 113 rfl ?_)
    · have c11 : (fv P a0_ 0).toInt ≠ 0 := ti_ne c11
      refine mp_a (a_aload_n dX2_takeSizes_136 rfl) (mpp 137 rfl ?_)
      refine mt_getI (i := 26) (k := 1) hT dX2_takeSizes_137 rfl ha0 (by decide) rfl (by decide) rfl (fun g12 g13 => mpp 140 rfl ?_)
      refine mp_a (a_iconst (v := 4) dX2_takeSizes_140 rfl) (mpp 141 rfl ?_)
      refine mp_Tb (t := 162) (j_icmp_eq dX2_takeSizes_141) (by decide) (fun c14 => ?_) (fun c14 => mpp 144 rfl ?_)
      · have c14 : (fv P a0_ 1).toInt = 4 := ti_eq c14
        refine mp_a (a_aload_n dX2_takeSizes_162 rfl) (mpp 163 rfl ?_)
        refine mt_callv (i := 33) (q' := q_23) (As := []) (rest := []) hT dX2_takeSizes_163 rfl qm_23 (by decide) rfl ha0 (by decide) rfl (Nat.le_of_ble_eq_true rfl) rfl ⟨rfl, rfl⟩ ⟨Nat.le_of_ble_eq_true rfl, Nat.le_of_ble_eq_true rfl⟩ (EvP.mono (by decide) (c_CP_sum_Piece hT (KW.xr hK hX) ha0)) (fun r15 P16 g17 => mpp 166 rfl ?_)
        obtain ⟨⟨x18, rfl, g19⟩, e20⟩ := g17
        have e20 := e20.symm
        subst e20
        have wx18 := ti_full x18
        replace g19 : x18.toInt = (smF (fun j : Nat => fv P (a0_ + 1) j) (fv P a0_ 1).toInt.toNat).toInt := g19
        show MEvP _ none q_21 166 [(0, .ref a0_), (1, .int t1), (2, .int t2), (3, .int v3), (4, .int v4)] [.int x18] _ _ _ _
        refine mp_a (a_bipush (v := 24) dX2_takeSizes_166 rfl) (mpp 168 rfl ?_)
        refine mp_Tb (t := 175) (j_icmp_ne dX2_takeSizes_168) (by decide) (fun c21 => ?_) (fun c21 => mpp 171 rfl ?_)
        · have c21 : x18.toInt ≠ 24 := ti_ne c21
          refine mp_a (a_iconst (v := 0) dX2_takeSizes_175 rfl) (mpp 176 rfl ?_)
          have w23_ : ∀ c : Nat, ¬ okSz t1.toInt t2.toInt c := by
            intro c h
            have e := h.1.1.uniq i_0
            subst e
            rcases h.2 with o0 | ⟨o1, o2, o3⟩
            · omega
            · have q : smF (fun j : Nat => fv P (a0_ + 1) j) (fv P a0_ 1).toInt.toNat = smF (dgI t2.toInt (fv P a0_ 1).toInt.toNat) (fv P a0_ 1).toInt.toNat := smF_congr (fun j hj => i_4 j (by omega) hj); have q2 := congrArg Int32.toInt q; omega
          have u22 : 0 ≤ (0 : Int) ∧ (0 : Int) ≤ 1 ∧ (((0 : Int) = 1 ∧ ∃ c : Nat, okSz t1.toInt t2.toInt c ∧ (fv P a0_ 0).toInt = t1.toInt ∧ (fv P a0_ 2).toInt = 0 ∧ (fv P a0_ 1).toInt = (c : Int) ∧ ∀ j : Nat, j < c → fv P (a0_ + 1) j = dgI t2.toInt c j) ∨ ((0 : Int) = 0 ∧ ∀ c : Nat, ¬ okSz t1.toInt t2.toInt c)) := ⟨by omega, by omega, Or.inr ⟨rfl, w23_⟩⟩
          have u24 : KI a0_ (a0_ + 3) Po P := i_6
          exact mp_iret ⟨⟨_, rfl, u22⟩, hT, hK, u24⟩ dX2_takeSizes_176 (Or.inr ⟨rfl, by decide⟩)
        · have c21 : x18.toInt = 24 := ti_ne_n c21
          refine mp_a (a_iconst (v := 1) dX2_takeSizes_171 rfl) (mpp 172 rfl ?_)
          refine mp_a (a_goto (t := 176) dX2_takeSizes_172 (by decide)) ?_
          have u25 : 0 ≤ (1 : Int) ∧ (1 : Int) ≤ 1 ∧ (((1 : Int) = 1 ∧ ∃ c : Nat, okSz t1.toInt t2.toInt c ∧ (fv P a0_ 0).toInt = t1.toInt ∧ (fv P a0_ 2).toInt = 0 ∧ (fv P a0_ 1).toInt = (c : Int) ∧ ∀ j : Nat, j < c → fv P (a0_ + 1) j = dgI t2.toInt c j) ∨ ((1 : Int) = 0 ∧ ∀ c : Nat, ¬ okSz t1.toInt t2.toInt c)) := ⟨by omega, by omega, Or.inl ⟨rfl, (fv P a0_ 1).toInt.toNat, ⟨⟨i_0, by omega, by omega, fun i hi => i_5 i (by omega)⟩, Or.inr ⟨by omega, by omega, by have q : smF (fun j : Nat => fv P (a0_ + 1) j) (fv P a0_ 1).toInt.toNat = smF (dgI t2.toInt (fv P a0_ 1).toInt.toNat) (fv P a0_ 1).toInt.toNat := smF_congr (fun j hj => i_4 j (by omega) hj); have q2 := congrArg Int32.toInt q; omega⟩⟩, by omega, by omega, by omega, (fun j hj => i_4 j (by omega) hj)⟩⟩
          have u26 : KI a0_ (a0_ + 3) Po P := i_6
          exact mp_iret ⟨⟨_, rfl, u25⟩, hT, hK, u26⟩ dX2_takeSizes_176 (Or.inr ⟨rfl, by decide⟩)
      · have c14 : (fv P a0_ 1).toInt ≠ 4 := ti_eq_n c14
        refine mp_a (a_aload_n dX2_takeSizes_144 rfl) (mpp 145 rfl ?_)
        refine mt_getI (i := 26) (k := 1) hT dX2_takeSizes_145 rfl ha0 (by decide) rfl (by decide) rfl (fun g27 g28 => mpp 148 rfl ?_)
        refine mp_a (a_bipush (v := 6) dX2_takeSizes_148 rfl) (mpp 150 rfl ?_)
        refine mp_Tb (t := 162) (j_icmp_eq dX2_takeSizes_150) (by decide) (fun c29 => ?_) (fun c29 => mpp 153 rfl ?_)
        · have c29 : (fv P a0_ 1).toInt = 6 := ti_eq c29
          refine mp_a (a_aload_n dX2_takeSizes_162 rfl) (mpp 163 rfl ?_)
          refine mt_callv (i := 33) (q' := q_23) (As := []) (rest := []) hT dX2_takeSizes_163 rfl qm_23 (by decide) rfl ha0 (by decide) rfl (Nat.le_of_ble_eq_true rfl) rfl ⟨rfl, rfl⟩ ⟨Nat.le_of_ble_eq_true rfl, Nat.le_of_ble_eq_true rfl⟩ (EvP.mono (by decide) (c_CP_sum_Piece hT (KW.xr hK hX) ha0)) (fun r30 P31 g32 => mpp 166 rfl ?_)
          obtain ⟨⟨x33, rfl, g34⟩, e35⟩ := g32
          have e35 := e35.symm
          subst e35
          have wx33 := ti_full x33
          replace g34 : x33.toInt = (smF (fun j : Nat => fv P (a0_ + 1) j) (fv P a0_ 1).toInt.toNat).toInt := g34
          show MEvP _ none q_21 166 [(0, .ref a0_), (1, .int t1), (2, .int t2), (3, .int v3), (4, .int v4)] [.int x33] _ _ _ _
          refine mp_a (a_bipush (v := 24) dX2_takeSizes_166 rfl) (mpp 168 rfl ?_)
          refine mp_Tb (t := 175) (j_icmp_ne dX2_takeSizes_168) (by decide) (fun c36 => ?_) (fun c36 => mpp 171 rfl ?_)
          · have c36 : x33.toInt ≠ 24 := ti_ne c36
            refine mp_a (a_iconst (v := 0) dX2_takeSizes_175 rfl) (mpp 176 rfl ?_)
            have w38_ : ∀ c : Nat, ¬ okSz t1.toInt t2.toInt c := by
              intro c h
              have e := h.1.1.uniq i_0
              subst e
              rcases h.2 with o0 | ⟨o1, o2, o3⟩
              · omega
              · have q : smF (fun j : Nat => fv P (a0_ + 1) j) (fv P a0_ 1).toInt.toNat = smF (dgI t2.toInt (fv P a0_ 1).toInt.toNat) (fv P a0_ 1).toInt.toNat := smF_congr (fun j hj => i_4 j (by omega) hj); have q2 := congrArg Int32.toInt q; omega
            have u37 : 0 ≤ (0 : Int) ∧ (0 : Int) ≤ 1 ∧ (((0 : Int) = 1 ∧ ∃ c : Nat, okSz t1.toInt t2.toInt c ∧ (fv P a0_ 0).toInt = t1.toInt ∧ (fv P a0_ 2).toInt = 0 ∧ (fv P a0_ 1).toInt = (c : Int) ∧ ∀ j : Nat, j < c → fv P (a0_ + 1) j = dgI t2.toInt c j) ∨ ((0 : Int) = 0 ∧ ∀ c : Nat, ¬ okSz t1.toInt t2.toInt c)) := ⟨by omega, by omega, Or.inr ⟨rfl, w38_⟩⟩
            have u39 : KI a0_ (a0_ + 3) Po P := i_6
            exact mp_iret ⟨⟨_, rfl, u37⟩, hT, hK, u39⟩ dX2_takeSizes_176 (Or.inr ⟨rfl, by decide⟩)
          · have c36 : x33.toInt = 24 := ti_ne_n c36
            refine mp_a (a_iconst (v := 1) dX2_takeSizes_171 rfl) (mpp 172 rfl ?_)
            refine mp_a (a_goto (t := 176) dX2_takeSizes_172 (by decide)) ?_
            have u40 : 0 ≤ (1 : Int) ∧ (1 : Int) ≤ 1 ∧ (((1 : Int) = 1 ∧ ∃ c : Nat, okSz t1.toInt t2.toInt c ∧ (fv P a0_ 0).toInt = t1.toInt ∧ (fv P a0_ 2).toInt = 0 ∧ (fv P a0_ 1).toInt = (c : Int) ∧ ∀ j : Nat, j < c → fv P (a0_ + 1) j = dgI t2.toInt c j) ∨ ((1 : Int) = 0 ∧ ∀ c : Nat, ¬ okSz t1.toInt t2.toInt c)) := ⟨by omega, by omega, Or.inl ⟨rfl, (fv P a0_ 1).toInt.toNat, ⟨⟨i_0, by omega, by omega, fun i hi => i_5 i (by omega)⟩, Or.inr ⟨by omega, by omega, by have q : smF (fun j : Nat => fv P (a0_ + 1) j) (fv P a0_ 1).toInt.toNat = smF (dgI t2.toInt (fv P a0_ 1).toInt.toNat) (fv P a0_ 1).toInt.toNat := smF_congr (fun j hj => i_4 j (by omega) hj); have q2 := congrArg Int32.toInt q; omega⟩⟩, by omega, by omega, by omega, (fun j hj => i_4 j (by omega) hj)⟩⟩
            have u41 : KI a0_ (a0_ + 3) Po P := i_6
            exact mp_iret ⟨⟨_, rfl, u40⟩, hT, hK, u41⟩ dX2_takeSizes_176 (Or.inr ⟨rfl, by decide⟩)
        · have c29 : (fv P a0_ 1).toInt ≠ 6 := ti_eq_n c29
          refine mp_a (a_aload_n dX2_takeSizes_153 rfl) (mpp 154 rfl ?_)
          refine mt_getI (i := 26) (k := 1) hT dX2_takeSizes_154 rfl ha0 (by decide) rfl (by decide) rfl (fun g42 g43 => mpp 157 rfl ?_)
          refine mp_a (a_bipush (v := 8) dX2_takeSizes_157 rfl) (mpp 159 rfl ?_)
          refine mp_Tb (t := 175) (j_icmp_ne dX2_takeSizes_159) (by decide) (fun c44 => ?_) (fun c44 => mpp 162 rfl ?_)
          · have c44 : (fv P a0_ 1).toInt ≠ 8 := ti_ne c44
            refine mp_a (a_iconst (v := 0) dX2_takeSizes_175 rfl) (mpp 176 rfl ?_)
            have w46_ : ∀ c : Nat, ¬ okSz t1.toInt t2.toInt c := by
              intro c h
              have e := h.1.1.uniq i_0
              subst e
              rcases h.2 with o0 | ⟨o1, o2, o3⟩ <;> omega
            have u45 : 0 ≤ (0 : Int) ∧ (0 : Int) ≤ 1 ∧ (((0 : Int) = 1 ∧ ∃ c : Nat, okSz t1.toInt t2.toInt c ∧ (fv P a0_ 0).toInt = t1.toInt ∧ (fv P a0_ 2).toInt = 0 ∧ (fv P a0_ 1).toInt = (c : Int) ∧ ∀ j : Nat, j < c → fv P (a0_ + 1) j = dgI t2.toInt c j) ∨ ((0 : Int) = 0 ∧ ∀ c : Nat, ¬ okSz t1.toInt t2.toInt c)) := ⟨by omega, by omega, Or.inr ⟨rfl, w46_⟩⟩
            have u47 : KI a0_ (a0_ + 3) Po P := i_6
            exact mp_iret ⟨⟨_, rfl, u45⟩, hT, hK, u47⟩ dX2_takeSizes_176 (Or.inr ⟨rfl, by decide⟩)
          · have c44 : (fv P a0_ 1).toInt = 8 := ti_ne_n c44
            refine mp_a (a_aload_n dX2_takeSizes_162 rfl) (mpp 163 rfl ?_)
            refine mt_callv (i := 33) (q' := q_23) (As := []) (rest := []) hT dX2_takeSizes_163 rfl qm_23 (by decide) rfl ha0 (by decide) rfl (Nat.le_of_ble_eq_true rfl) rfl ⟨rfl, rfl⟩ ⟨Nat.le_of_ble_eq_true rfl, Nat.le_of_ble_eq_true rfl⟩ (EvP.mono (by decide) (c_CP_sum_Piece hT (KW.xr hK hX) ha0)) (fun r48 P49 g50 => mpp 166 rfl ?_)
            obtain ⟨⟨x51, rfl, g52⟩, e53⟩ := g50
            have e53 := e53.symm
            subst e53
            have wx51 := ti_full x51
            replace g52 : x51.toInt = (smF (fun j : Nat => fv P (a0_ + 1) j) (fv P a0_ 1).toInt.toNat).toInt := g52
            show MEvP _ none q_21 166 [(0, .ref a0_), (1, .int t1), (2, .int t2), (3, .int v3), (4, .int v4)] [.int x51] _ _ _ _
            refine mp_a (a_bipush (v := 24) dX2_takeSizes_166 rfl) (mpp 168 rfl ?_)
            refine mp_Tb (t := 175) (j_icmp_ne dX2_takeSizes_168) (by decide) (fun c54 => ?_) (fun c54 => mpp 171 rfl ?_)
            · have c54 : x51.toInt ≠ 24 := ti_ne c54
              refine mp_a (a_iconst (v := 0) dX2_takeSizes_175 rfl) (mpp 176 rfl ?_)
              have w56_ : ∀ c : Nat, ¬ okSz t1.toInt t2.toInt c := by
                intro c h
                have e := h.1.1.uniq i_0
                subst e
                rcases h.2 with o0 | ⟨o1, o2, o3⟩
                · omega
                · have q : smF (fun j : Nat => fv P (a0_ + 1) j) (fv P a0_ 1).toInt.toNat = smF (dgI t2.toInt (fv P a0_ 1).toInt.toNat) (fv P a0_ 1).toInt.toNat := smF_congr (fun j hj => i_4 j (by omega) hj); have q2 := congrArg Int32.toInt q; omega
              have u55 : 0 ≤ (0 : Int) ∧ (0 : Int) ≤ 1 ∧ (((0 : Int) = 1 ∧ ∃ c : Nat, okSz t1.toInt t2.toInt c ∧ (fv P a0_ 0).toInt = t1.toInt ∧ (fv P a0_ 2).toInt = 0 ∧ (fv P a0_ 1).toInt = (c : Int) ∧ ∀ j : Nat, j < c → fv P (a0_ + 1) j = dgI t2.toInt c j) ∨ ((0 : Int) = 0 ∧ ∀ c : Nat, ¬ okSz t1.toInt t2.toInt c)) := ⟨by omega, by omega, Or.inr ⟨rfl, w56_⟩⟩
              have u57 : KI a0_ (a0_ + 3) Po P := i_6
              exact mp_iret ⟨⟨_, rfl, u55⟩, hT, hK, u57⟩ dX2_takeSizes_176 (Or.inr ⟨rfl, by decide⟩)
            · have c54 : x51.toInt = 24 := ti_ne_n c54
              refine mp_a (a_iconst (v := 1) dX2_takeSizes_171 rfl) (mpp 172 rfl ?_)
              refine mp_a (a_goto (t := 176) dX2_takeSizes_172 (by decide)) ?_
              have u58 : 0 ≤ (1 : Int) ∧ (1 : Int) ≤ 1 ∧ (((1 : Int) = 1 ∧ ∃ c : Nat, okSz t1.toInt t2.toInt c ∧ (fv P a0_ 0).toInt = t1.toInt ∧ (fv P a0_ 2).toInt = 0 ∧ (fv P a0_ 1).toInt = (c : Int) ∧ ∀ j : Nat, j < c → fv P (a0_ + 1) j = dgI t2.toInt c j) ∨ ((1 : Int) = 0 ∧ ∀ c : Nat, ¬ okSz t1.toInt t2.toInt c)) := ⟨by omega, by omega, Or.inl ⟨rfl, (fv P a0_ 1).toInt.toNat, ⟨⟨i_0, by omega, by omega, fun i hi => i_5 i (by omega)⟩, Or.inr ⟨by omega, by omega, by have q : smF (fun j : Nat => fv P (a0_ + 1) j) (fv P a0_ 1).toInt.toNat = smF (dgI t2.toInt (fv P a0_ 1).toInt.toNat) (fv P a0_ 1).toInt.toNat := smF_congr (fun j hj => i_4 j (by omega) hj); have q2 := congrArg Int32.toInt q; omega⟩⟩, by omega, by omega, by omega, (fun j hj => i_4 j (by omega) hj)⟩⟩
              have u59 : KI a0_ (a0_ + 3) Po P := i_6
              exact mp_iret ⟨⟨_, rfl, u58⟩, hT, hK, u59⟩ dX2_takeSizes_176 (Or.inr ⟨rfl, by decide⟩)
    · have c11 : (fv P a0_ 0).toInt = 0 := ti_ne_n c11
      refine mp_a (a_aload_n dX2_takeSizes_113 rfl) (mpp 114 rfl ?_)
      refine mt_getI (i := 26) (k := 1) hT dX2_takeSizes_114 rfl ha0 (by decide) rfl (by decide) rfl (fun g60 g61 => mpp 117 rfl ?_)
      refine mp_a (a_iconst (v := 2) dX2_takeSizes_117 rfl) (mpp 118 rfl ?_)
      refine mp_Tb (t := 134) (j_icmp_lt dX2_takeSizes_118) (by decide) (fun c62 => ?_) (fun c62 => mpp 121 rfl ?_)
      · have c62 : (fv P a0_ 1).toInt < 2 := ti_lt c62
        refine mp_a (a_iconst (v := 0) dX2_takeSizes_134 rfl) (mpp 135 rfl ?_)
        have w64_ : ∀ c : Nat, ¬ okSz t1.toInt t2.toInt c := by
          intro c h
          have e := h.1.1.uniq i_0
          subst e
          rcases h.2 with o0 | ⟨o1, o2, o3⟩ <;> omega
        have u63 : 0 ≤ (0 : Int) ∧ (0 : Int) ≤ 1 ∧ (((0 : Int) = 1 ∧ ∃ c : Nat, okSz t1.toInt t2.toInt c ∧ (fv P a0_ 0).toInt = t1.toInt ∧ (fv P a0_ 2).toInt = 0 ∧ (fv P a0_ 1).toInt = (c : Int) ∧ ∀ j : Nat, j < c → fv P (a0_ + 1) j = dgI t2.toInt c j) ∨ ((0 : Int) = 0 ∧ ∀ c : Nat, ¬ okSz t1.toInt t2.toInt c)) := ⟨by omega, by omega, Or.inr ⟨rfl, w64_⟩⟩
        have u65 : KI a0_ (a0_ + 3) Po P := i_6
        exact mp_iret ⟨⟨_, rfl, u63⟩, hT, hK, u65⟩ dX2_takeSizes_135 (Or.inr ⟨rfl, by decide⟩)
      · have c62 : (fv P a0_ 1).toInt ≥ 2 := ti_lt_n c62
        refine mp_a (a_aload_n dX2_takeSizes_121 rfl) (mpp 122 rfl ?_)
        refine mt_getI (i := 26) (k := 1) hT dX2_takeSizes_122 rfl ha0 (by decide) rfl (by decide) rfl (fun g66 g67 => mpp 125 rfl ?_)
        refine mp_a (a_bipush (v := 7) dX2_takeSizes_125 rfl) (mpp 127 rfl ?_)
        refine mp_Tb (t := 134) (j_icmp_gt dX2_takeSizes_127) (by decide) (fun c68 => ?_) (fun c68 => mpp 130 rfl ?_)
        · have c68 : (fv P a0_ 1).toInt > 7 := ti_gt c68
          refine mp_a (a_iconst (v := 0) dX2_takeSizes_134 rfl) (mpp 135 rfl ?_)
          have w70_ : ∀ c : Nat, ¬ okSz t1.toInt t2.toInt c := by
            intro c h
            have e := h.1.1.uniq i_0
            subst e
            rcases h.2 with o0 | ⟨o1, o2, o3⟩ <;> omega
          have u69 : 0 ≤ (0 : Int) ∧ (0 : Int) ≤ 1 ∧ (((0 : Int) = 1 ∧ ∃ c : Nat, okSz t1.toInt t2.toInt c ∧ (fv P a0_ 0).toInt = t1.toInt ∧ (fv P a0_ 2).toInt = 0 ∧ (fv P a0_ 1).toInt = (c : Int) ∧ ∀ j : Nat, j < c → fv P (a0_ + 1) j = dgI t2.toInt c j) ∨ ((0 : Int) = 0 ∧ ∀ c : Nat, ¬ okSz t1.toInt t2.toInt c)) := ⟨by omega, by omega, Or.inr ⟨rfl, w70_⟩⟩
          have u71 : KI a0_ (a0_ + 3) Po P := i_6
          exact mp_iret ⟨⟨_, rfl, u69⟩, hT, hK, u71⟩ dX2_takeSizes_135 (Or.inr ⟨rfl, by decide⟩)
        · have c68 : (fv P a0_ 1).toInt ≤ 7 := ti_gt_n c68
          refine mp_a (a_iconst (v := 1) dX2_takeSizes_130 rfl) (mpp 131 rfl ?_)
          refine mp_a (a_goto (t := 135) dX2_takeSizes_131 (by decide)) ?_
          have u72 : 0 ≤ (1 : Int) ∧ (1 : Int) ≤ 1 ∧ (((1 : Int) = 1 ∧ ∃ c : Nat, okSz t1.toInt t2.toInt c ∧ (fv P a0_ 0).toInt = t1.toInt ∧ (fv P a0_ 2).toInt = 0 ∧ (fv P a0_ 1).toInt = (c : Int) ∧ ∀ j : Nat, j < c → fv P (a0_ + 1) j = dgI t2.toInt c j) ∨ ((1 : Int) = 0 ∧ ∀ c : Nat, ¬ okSz t1.toInt t2.toInt c)) := ⟨by omega, by omega, Or.inl ⟨rfl, (fv P a0_ 1).toInt.toNat, ⟨⟨i_0, by omega, by omega, fun i hi => i_5 i (by omega)⟩, Or.inl ⟨by omega, by omega, by omega⟩⟩, by omega, by omega, by omega, (fun j hj => i_4 j (by omega) hj)⟩⟩
          have u73 : KI a0_ (a0_ + 3) Po P := i_6
          exact mp_iret ⟨⟨_, rfl, u72⟩, hT, hK, u73⟩ dX2_takeSizes_135 (Or.inr ⟨rfl, by decide⟩)
  · have c8 : v4.toInt ≥ 0 := ti_lt_n c8
    have hpos := i_0.2 ((fv P a0_ 1).toInt - 1 - v4.toInt).toNat (by omega)
    refine mp_a (a_iload_n dX2_takeSizes_73 rfl) (mpp 74 rfl ?_)
    refine mp_a (a_bipush (v := 10) dX2_takeSizes_74 rfl) (mpp 76 rfl ?_)
    obtain ⟨z74, h75⟩ := ti_ex (v3 - v3 / 10 * 10 : Int32)
    have wz74 := ti_full z74
    try have e77 : z74.toInt = v3.toInt % 10 := ti_remx h75 (show (0 : Int) ≤ v3.toInt by omega) (show (0 : Int) < 10 by omega)
    try have e76 : 0 ≤ z74.toInt ∧ z74.toInt < 10 := ti_rem h75 (show (0 : Int) ≤ v3.toInt by omega) (show (0 : Int) < 10 by omega)
    refine mp_t (s_irem (v := z74) dX2_takeSizes_76 (by decide) h75) (mpp 77 rfl ?_)
    refine mp_Tb (t := 82) (j_if_ne dX2_takeSizes_77) (by decide) (fun c78 => ?_) (fun c78 => mpp 80 rfl ?_)
    · have c78 : z74.toInt ≠ 0 := ti_ne c78
      refine mp_a (a_aload_n dX2_takeSizes_82 rfl) (mpp 83 rfl ?_)
      refine mt_getE (i := 9) (k := 3) hT dX2_takeSizes_83 rfl ha0 (by decide) rfl (by decide) rfl ((KW.xr hK hX).1 a0_ (Or.inl ha0)).1 (fun q79 => mpp 86 rfl ?_)
      refine mp_a (a_iload dX2_takeSizes_86 rfl) (mpp 88 rfl ?_)
      refine mp_a (a_iload_n dX2_takeSizes_88 rfl) (mpp 89 rfl ?_)
      refine mp_a (a_bipush (v := 10) dX2_takeSizes_89 rfl) (mpp 91 rfl ?_)
      obtain ⟨z80, h81⟩ := ti_ex (v3 - v3 / 10 * 10 : Int32)
      have wz80 := ti_full z80
      try have e83 : z80.toInt = v3.toInt % 10 := ti_remx h81 (show (0 : Int) ≤ v3.toInt by omega) (show (0 : Int) < 10 by omega)
      try have e82 : 0 ≤ z80.toInt ∧ z80.toInt < 10 := ti_rem h81 (show (0 : Int) ≤ v3.toInt by omega) (show (0 : Int) < 10 by omega)
      refine mp_t (s_irem (v := z80) dX2_takeSizes_91 (by decide) h81) (mpp 92 rfl ?_)
      refine mp_calls (i := 29) (q' := q_22) (As := [.ref (a0_ + 1), .int v4, .int z80]) (rest := []) dX2_takeSizes_92 rfl qm_22 (by decide) rfl (Nat.le_of_ble_eq_true rfl) rfl ⟨rfl, rfl⟩ ⟨Nat.le_of_ble_eq_true rfl, Nat.le_of_ble_eq_true rfl⟩ (EvP.mono (by decide) (c_F_put_sizes hT (KW.xr hK hX) q79)) (fun r84 P85 g86 => mpp 95 rfl ?_)
      obtain ⟨⟨rfl, g88⟩, hT89, k90, R91⟩ := g86
      have k92 : KW [192, 193, 194, 256] Po P85 := KW.trans hK k90 rfl
      show MEvP _ none q_21 95 [(0, .ref a0_), (1, .int t1), (2, .int t2), (3, .int v3), (4, .int v4)] [] _ _ _ _
      refine mp_a (a_iload_n dX2_takeSizes_95 rfl) (mpp 96 rfl ?_)
      refine mp_a (a_bipush (v := 10) dX2_takeSizes_96 rfl) (mpp 98 rfl ?_)
      obtain ⟨z94, h95⟩ := ti_ex (v3 / 10 : Int32)
      have wz94 := ti_full z94
      try have e96 : z94.toInt = v3.toInt / 10 := ti_div h95 (show (0 : Int) ≤ v3.toInt by omega) (show (0 : Int) < 10 by omega)
      refine mp_t (s_idiv (v := z94) dX2_takeSizes_98 (by decide) h95) (mpp 99 rfl ?_)
      refine mp_a (a_istore_n (L' := [(3, .int z94), (0, .ref a0_), (1, .int t1), (2, .int t2), (4, .int v4)]) dX2_takeSizes_99 (by decide) rfl) (mpp 100 rfl ?_)
      obtain ⟨z97, h98⟩ := ti_ex (v4 + (-1) : Int32)
      have wz97 := ti_full z97
      refine mp_a (a_iinc (v := z97) (L' := [(4, .int z97), (3, .int z94), (0, .ref a0_), (1, .int t1), (2, .int t2)]) dX2_takeSizes_100 (by decide) rfl h98 rfl) (mpp 103 rfl ?_)
      try have e99 : z97.toInt = v4.toInt + (-1) := ti_addz h98 rfl rfl (by omega) (by omega)
      refine mp_a (a_goto (t := 68) dX2_takeSizes_103 (by decide)) ?_
      refine MEvP.less (L := [(0, .ref a0_), (1, .int t1), (2, .int t2), (3, .int z94), (4, .int z97)]) rfl rfl ⟨rfl, rfl, rfl, rfl, rfl, trivial⟩ ?_
      have e100 : (fv P85 a0_ 1).toInt = (fv P a0_ 1).toInt := congrArg Int32.toInt (KW.at k90 1 ha0 rfl)
      have i101 : NDG t2.toInt (fv P85 a0_ 1).toInt.toNat := (show (fv P85 a0_ 1).toInt.toNat = (fv P a0_ 1).toInt.toNat from by omega) ▸ i_0
      have i102 : (fv P85 a0_ 1).toInt ≤ 8 := by omega
      have i103 : z94.toInt = dvF t2.toInt ((fv P85 a0_ 1).toInt - 1 - z97.toInt).toNat := dvF.next i_2 (by omega) (by omega)
      have i104 : (-1) ≤ z97.toInt ∧ z97.toInt ≤ (fv P85 a0_ 1).toInt - 1 := by omega
      have i105 : DGR P85 (a0_ + 1) t2.toInt (fv P85 a0_ 1).toInt.toNat z97.toInt := (show (fv P85 a0_ 1).toInt.toNat = (fv P a0_ 1).toInt.toNat from by omega) ▸ DGR.step (k := v4.toInt.toNat) i_4 (by omega) (by omega) (R91.1.resolve_left (by omega)) (by rw [show (fv P a0_ 1).toInt.toNat - 1 - v4.toInt.toNat = ((fv P a0_ 1).toInt - 1 - v4.toInt).toNat from by omega, ← i_2]; omega) (fun j hj => R91.2.1 _ _ (fun e => hj e.2))
      have i106 : NZ t2.toInt (fv P85 a0_ 1).toInt.toNat z97.toInt := (show (fv P85 a0_ 1).toInt.toNat = (fv P a0_ 1).toInt.toNat from by omega) ▸ NZ.step (k := ((fv P a0_ 1).toInt - 1 - v4.toInt).toNat) i_5 (by omega) (by omega) (by rw [← i_2]; omega)
      have i107 : KI a0_ (a0_ + 3) Po P85 := fun x j hx => by rw [R91.2.1 x j (by omega), i_6 x j (by omega)]
      have e108 : (fv P85 a0_ 0).toInt = (fv P a0_ 0).toInt := congrArg Int32.toInt (KW.at k90 0 ha0 rfl)
      have e109 : (fv P85 a0_ 2).toInt = (fv P a0_ 2).toInt := congrArg Int32.toInt (KW.at k90 2 ha0 rfl)
      have i110 : (fv P85 a0_ 0).toInt = t1.toInt ∧ (fv P85 a0_ 2).toInt = 0 := by omega
      exact ih _ (by omega) _ _ P85 hT89 k92 i101 i102 i103 i104 i105 i106 i107 i110 rfl
    · have c78 : z74.toInt = 0 := ti_ne_n c78
      refine mp_a (a_iconst (v := 0) dX2_takeSizes_80 rfl) (mpp 81 rfl ?_)
      have u111 : 0 ≤ (0 : Int) ∧ (0 : Int) ≤ 1 ∧ (((0 : Int) = 1 ∧ ∃ c : Nat, okSz t1.toInt t2.toInt c ∧ (fv P a0_ 0).toInt = t1.toInt ∧ (fv P a0_ 2).toInt = 0 ∧ (fv P a0_ 1).toInt = (c : Int) ∧ ∀ j : Nat, j < c → fv P (a0_ + 1) j = dgI t2.toInt c j) ∨ ((0 : Int) = 0 ∧ ∀ c : Nat, ¬ okSz t1.toInt t2.toInt c)) := ⟨by omega, by omega, Or.inr ⟨rfl, fun c => okSz.no (okD.zero i_0 (i := ((fv P a0_ 1).toInt - 1 - v4.toInt).toNat) (by omega) (by rw [← i_2]; omega))⟩⟩
      have u112 : KI a0_ (a0_ + 3) Po P := i_6
      exact mp_iret ⟨⟨_, rfl, u111⟩, hT, hK, u112⟩ dX2_takeSizes_81 (Or.inr ⟨rfl, by decide⟩)

set_option maxHeartbeats 4000000 in
theorem c_CP_takeSizes_Piece_l20 {Po : mP} {a0_ : Nat} {t1 : Int32} {t2 : Int32} (hTo : Typ Po) (hX : XR Po) (hp0 : t1.toInt = 0 ∨ t1.toInt = 1) (ha0 : rl a0_ = 3) : ∀ (n : Nat) (v3 : Int32) (v4 : Int32), ∀ (P : mP), Typ P → KW [192, 193, 194, 256] Po P → ((fv P a0_ 1).toInt = v4.toInt) → (v4.toInt ≤ 8) → (v3.toInt = dvF t2.toInt v4.toInt.toNat) → (∀ j : Nat, j < v4.toInt.toNat → 0 < dvF t2.toInt j) → (KI a0_ (a0_ + 3) Po P) → ((fv P a0_ 0).toInt = t1.toInt ∧ (fv P a0_ 2).toInt = 0) → (0 ≤ v4.toInt) → (2147483647 - v4.toInt).toNat = n → MEvP 2 none q_21 20 [(0, .ref a0_), (1, .int t1), (2, .int t2), (3, .int v3), (4, .int v4)] [] P 0 0 (fun r P' => (∃ x : Int32, r = some (.int x) ∧ (0 ≤ x.toInt ∧ x.toInt ≤ 1 ∧ ((x.toInt = 1 ∧ ∃ c : Nat, okSz t1.toInt t2.toInt c ∧ (fv P' a0_ 0).toInt = t1.toInt ∧ (fv P' a0_ 2).toInt = 0 ∧ (fv P' a0_ 1).toInt = (c : Int) ∧ ∀ j : Nat, j < c → fv P' (a0_ + 1) j = dgI t2.toInt c j) ∨ (x.toInt = 0 ∧ ∀ c : Nat, ¬ okSz t1.toInt t2.toInt c)))) ∧ Typ P' ∧ KW [192, 193, 194, 256] Po P' ∧ KI a0_ (a0_ + 3) Po P') := by
  intro n
  induction n using Nat.strongRecOn with | _ n ih => ?_
  intro v3 v4 P hT hK i_0 i_1 i_2 i_3 i_4 i_5 i_6 hm
  have w1 := pc_ar ha0
  have w_t1 := ti_full t1
  have w_t2 := ti_full t2
  have w_v3 := ti_full v3
  have w_v4 := ti_full v4
  have g2 : (0 : Int) ≤ (fv P a0_ 1).toInt ∧ (fv P a0_ 1).toInt ≤ 8 := Typ.rng hT ha0 (by decide) (by decide) rfl
  have g3 : (0 : Int) ≤ (fv P a0_ 1).toInt ∧ (fv P a0_ 1).toInt ≤ 8 := Typ.rng hT ha0 (by decide) (by decide) rfl
  have g4 := ti_full (fv P a0_ 0)
  have g5 := ti_full (fv P a0_ 0)
  have g6 : (0 : Int) ≤ (fv P a0_ 2).toInt ∧ (fv P a0_ 2).toInt ≤ 1 := Typ.rng hT ha0 (by decide) (by decide) rfl
  have g7 : (0 : Int) ≤ (fv P a0_ 2).toInt ∧ (fv P a0_ 2).toInt ≤ 1 := Typ.rng hT ha0 (by decide) (by decide) rfl
  refine mp_a (a_iload dX2_takeSizes_20 rfl) (mpp 22 rfl ?_)
  refine mp_a (a_bipush (v := 8) dX2_takeSizes_22 rfl) (mpp 24 rfl ?_)
  refine mp_Tb (t := 52) (j_icmp_ge dX2_takeSizes_24) (by decide) (fun c8 => ?_) (fun c8 => mpp 27 rfl ?_)
  · have c8 : v4.toInt ≥ 8 := ti_ge c8
    refine mp_a (a_iload_n dX2_takeSizes_52 rfl) (mpp 53 rfl ?_)
    refine mp_Tb (t := 58) (j_if_eq dX2_takeSizes_53) (by decide) (fun c9 => ?_) (fun c9 => mpp 56 rfl ?_)
    · have c9 : v3.toInt = 0 := ti_eq c9
      refine mp_a (a_iload_n dX2_takeSizes_58 rfl) (mpp 59 rfl ?_)
      refine mp_a (a_istore_n (L' := [(3, .int t2), (0, .ref a0_), (1, .int t1), (2, .int t2), (4, .int v4)]) dX2_takeSizes_59 (by decide) rfl) (mpp 60 rfl ?_)
      refine mp_a (a_aload_n dX2_takeSizes_60 rfl) (mpp 61 rfl ?_)
      refine mt_getI (i := 26) (k := 1) hT dX2_takeSizes_61 rfl ha0 (by decide) rfl (by decide) rfl (fun g10 g11 => mpp 64 rfl ?_)
      refine mp_a (a_iconst (v := 1) dX2_takeSizes_64 rfl) (mpp 65 rfl ?_)
      obtain ⟨z12, h13⟩ := ti_ex ((fv P a0_ 1) - 1 : Int32)
      have wz12 := ti_full z12
      refine mp_t (s_isub (v := z12) dX2_takeSizes_65 h13) (mpp 66 rfl ?_)
      try have e14 : z12.toInt = (fv P a0_ 1).toInt - 1 := ti_subz h13 rfl rfl (by omega) (by omega)
      refine mp_a (a_istore (L' := [(4, .int z12), (3, .int t2), (0, .ref a0_), (1, .int t1), (2, .int t2)]) dX2_takeSizes_66 (by decide) rfl) (mpp 68 rfl ?_)
      refine MEvP.less (L := [(0, .ref a0_), (1, .int t1), (2, .int t2), (3, .int t2), (4, .int z12)]) rfl rfl ⟨rfl, rfl, rfl, rfl, rfl, trivial⟩ ?_
      have i15 : NDG t2.toInt (fv P a0_ 1).toInt.toNat := ⟨by rw [show (fv P a0_ 1).toInt.toNat = v4.toInt.toNat from by omega, ← i_2]; omega, fun j hj => i_3 j (by omega)⟩
      have i16 : (fv P a0_ 1).toInt ≤ 8 := by omega
      have i17 : t2.toInt = dvF t2.toInt ((fv P a0_ 1).toInt - 1 - z12.toInt).toNat := by rw [show ((fv P a0_ 1).toInt - 1 - z12.toInt).toNat = 0 from by omega]; rfl
      have i18 : (-1) ≤ z12.toInt ∧ z12.toInt ≤ (fv P a0_ 1).toInt - 1 := by omega
      have i19 : DGR P (a0_ + 1) t2.toInt (fv P a0_ 1).toInt.toNat z12.toInt := DGR.start (by omega)
      have i20 : NZ t2.toInt (fv P a0_ 1).toInt.toNat z12.toInt := NZ.start (by omega)
      have i21 : KI a0_ (a0_ + 3) Po P := i_4
      have i22 : (fv P a0_ 0).toInt = t1.toInt ∧ (fv P a0_ 2).toInt = 0 := by omega
      exact c_CP_takeSizes_Piece_l68 hTo hX  hp0 ha0 _ _ _ P hT hK i15 i16 i17 i18 i19 i20 i21 i22 rfl
    · have c9 : v3.toInt ≠ 0 := ti_eq_n c9
      refine mp_a (a_iconst (v := 0) dX2_takeSizes_56 rfl) (mpp 57 rfl ?_)
      have u23 : 0 ≤ (0 : Int) ∧ (0 : Int) ≤ 1 ∧ (((0 : Int) = 1 ∧ ∃ c : Nat, okSz t1.toInt t2.toInt c ∧ (fv P a0_ 0).toInt = t1.toInt ∧ (fv P a0_ 2).toInt = 0 ∧ (fv P a0_ 1).toInt = (c : Int) ∧ ∀ j : Nat, j < c → fv P (a0_ + 1) j = dgI t2.toInt c j) ∨ ((0 : Int) = 0 ∧ ∀ c : Nat, ¬ okSz t1.toInt t2.toInt c)) := ⟨by omega, by omega, Or.inr ⟨rfl, fun c => okSz.no (NDG.none i_3 i_2 (by omega) (by omega))⟩⟩
      have u24 : KI a0_ (a0_ + 3) Po P := i_4
      exact mp_iret ⟨⟨_, rfl, u23⟩, hT, hK, u24⟩ dX2_takeSizes_57 (Or.inr ⟨rfl, by decide⟩)
  · have c8 : v4.toInt < 8 := ti_ge_n c8
    refine mp_a (a_iload_n dX2_takeSizes_27 rfl) (mpp 28 rfl ?_)
    refine mp_Tb (t := 52) (j_if_le dX2_takeSizes_28) (by decide) (fun c25 => ?_) (fun c25 => mpp 31 rfl ?_)
    · have c25 : v3.toInt ≤ 0 := ti_le c25
      refine mp_a (a_iload_n dX2_takeSizes_52 rfl) (mpp 53 rfl ?_)
      refine mp_Tb (t := 58) (j_if_eq dX2_takeSizes_53) (by decide) (fun c26 => ?_) (fun c26 => mpp 56 rfl ?_)
      · have c26 : v3.toInt = 0 := ti_eq c26
        refine mp_a (a_iload_n dX2_takeSizes_58 rfl) (mpp 59 rfl ?_)
        refine mp_a (a_istore_n (L' := [(3, .int t2), (0, .ref a0_), (1, .int t1), (2, .int t2), (4, .int v4)]) dX2_takeSizes_59 (by decide) rfl) (mpp 60 rfl ?_)
        refine mp_a (a_aload_n dX2_takeSizes_60 rfl) (mpp 61 rfl ?_)
        refine mt_getI (i := 26) (k := 1) hT dX2_takeSizes_61 rfl ha0 (by decide) rfl (by decide) rfl (fun g27 g28 => mpp 64 rfl ?_)
        refine mp_a (a_iconst (v := 1) dX2_takeSizes_64 rfl) (mpp 65 rfl ?_)
        obtain ⟨z29, h30⟩ := ti_ex ((fv P a0_ 1) - 1 : Int32)
        have wz29 := ti_full z29
        refine mp_t (s_isub (v := z29) dX2_takeSizes_65 h30) (mpp 66 rfl ?_)
        try have e31 : z29.toInt = (fv P a0_ 1).toInt - 1 := ti_subz h30 rfl rfl (by omega) (by omega)
        refine mp_a (a_istore (L' := [(4, .int z29), (3, .int t2), (0, .ref a0_), (1, .int t1), (2, .int t2)]) dX2_takeSizes_66 (by decide) rfl) (mpp 68 rfl ?_)
        refine MEvP.less (L := [(0, .ref a0_), (1, .int t1), (2, .int t2), (3, .int t2), (4, .int z29)]) rfl rfl ⟨rfl, rfl, rfl, rfl, rfl, trivial⟩ ?_
        have i32 : NDG t2.toInt (fv P a0_ 1).toInt.toNat := ⟨by rw [show (fv P a0_ 1).toInt.toNat = v4.toInt.toNat from by omega, ← i_2]; omega, fun j hj => i_3 j (by omega)⟩
        have i33 : (fv P a0_ 1).toInt ≤ 8 := by omega
        have i34 : t2.toInt = dvF t2.toInt ((fv P a0_ 1).toInt - 1 - z29.toInt).toNat := by rw [show ((fv P a0_ 1).toInt - 1 - z29.toInt).toNat = 0 from by omega]; rfl
        have i35 : (-1) ≤ z29.toInt ∧ z29.toInt ≤ (fv P a0_ 1).toInt - 1 := by omega
        have i36 : DGR P (a0_ + 1) t2.toInt (fv P a0_ 1).toInt.toNat z29.toInt := DGR.start (by omega)
        have i37 : NZ t2.toInt (fv P a0_ 1).toInt.toNat z29.toInt := NZ.start (by omega)
        have i38 : KI a0_ (a0_ + 3) Po P := i_4
        have i39 : (fv P a0_ 0).toInt = t1.toInt ∧ (fv P a0_ 2).toInt = 0 := by omega
        exact c_CP_takeSizes_Piece_l68 hTo hX  hp0 ha0 _ _ _ P hT hK i32 i33 i34 i35 i36 i37 i38 i39 rfl
      · have c26 : v3.toInt ≠ 0 := ti_eq_n c26
        refine mp_a (a_iconst (v := 0) dX2_takeSizes_56 rfl) (mpp 57 rfl ?_)
        have u40 : 0 ≤ (0 : Int) ∧ (0 : Int) ≤ 1 ∧ (((0 : Int) = 1 ∧ ∃ c : Nat, okSz t1.toInt t2.toInt c ∧ (fv P a0_ 0).toInt = t1.toInt ∧ (fv P a0_ 2).toInt = 0 ∧ (fv P a0_ 1).toInt = (c : Int) ∧ ∀ j : Nat, j < c → fv P (a0_ + 1) j = dgI t2.toInt c j) ∨ ((0 : Int) = 0 ∧ ∀ c : Nat, ¬ okSz t1.toInt t2.toInt c)) := ⟨by omega, by omega, Or.inr ⟨rfl, fun c => okSz.no (NDG.none i_3 i_2 (by omega) (by omega))⟩⟩
        have u41 : KI a0_ (a0_ + 3) Po P := i_4
        exact mp_iret ⟨⟨_, rfl, u40⟩, hT, hK, u41⟩ dX2_takeSizes_57 (Or.inr ⟨rfl, by decide⟩)
    · have c25 : v3.toInt > 0 := ti_le_n c25
      refine mp_a (a_iload_n dX2_takeSizes_31 rfl) (mpp 32 rfl ?_)
      refine mp_a (a_bipush (v := 10) dX2_takeSizes_32 rfl) (mpp 34 rfl ?_)
      obtain ⟨z42, h43⟩ := ti_ex (v3 / 10 : Int32)
      have wz42 := ti_full z42
      try have e44 : z42.toInt = v3.toInt / 10 := ti_div h43 (show (0 : Int) ≤ v3.toInt by omega) (show (0 : Int) < 10 by omega)
      refine mp_t (s_idiv (v := z42) dX2_takeSizes_34 (by decide) h43) (mpp 35 rfl ?_)
      refine mp_a (a_istore_n (L' := [(3, .int z42), (0, .ref a0_), (1, .int t1), (2, .int t2), (4, .int v4)]) dX2_takeSizes_35 (by decide) rfl) (mpp 36 rfl ?_)
      refine mp_a (a_aload_n dX2_takeSizes_36 rfl) (mpp 37 rfl ?_)
      refine mp_t (s_dup dX2_takeSizes_37 rfl) (mpp 38 rfl ?_)
      refine mt_getI (i := 26) (k := 1) hT dX2_takeSizes_38 rfl ha0 (by decide) rfl (by decide) rfl (fun g45 g46 => mpp 41 rfl ?_)
      refine mp_a (a_iconst (v := 1) dX2_takeSizes_41 rfl) (mpp 42 rfl ?_)
      obtain ⟨z47, h48⟩ := ti_ex ((fv P a0_ 1) + 1 : Int32)
      have wz47 := ti_full z47
      refine mp_t (s_iadd (v := z47) dX2_takeSizes_42 h48) (mpp 43 rfl ?_)
      try have e49 : z47.toInt = (fv P a0_ 1).toInt + 1 := ti_addz h48 rfl rfl (by omega) (by omega)
      refine mt_putI (i := 26) (k := 1) (x := z47) hT dX2_takeSizes_43 rfl ha0 (by decide) rfl (by decide) rfl ⟨by omega, by omega⟩ rfl rfl (fun P50 hT51 f52 f53 f54 => mpp 46 rfl ?_)
      have k55 : KW [192, 193, 194, 256] Po P50 := KW.step hK ha0 rfl f53 f54
      have e56 : (fv P50 a0_ 1).toInt = z47.toInt := congrArg Int32.toInt f52
      obtain ⟨z57, h58⟩ := ti_ex (v4 + 1 : Int32)
      have wz57 := ti_full z57
      refine mp_a (a_iinc (v := z57) (L' := [(4, .int z57), (3, .int z42), (0, .ref a0_), (1, .int t1), (2, .int t2)]) dX2_takeSizes_46 (by decide) rfl h58 rfl) (mpp 49 rfl ?_)
      try have e59 : z57.toInt = v4.toInt + 1 := ti_addz h58 rfl rfl (by omega) (by omega)
      refine mp_a (a_goto (t := 20) dX2_takeSizes_49 (by decide)) ?_
      refine MEvP.less (L := [(0, .ref a0_), (1, .int t1), (2, .int t2), (3, .int z42), (4, .int z57)]) rfl rfl ⟨rfl, rfl, rfl, rfl, rfl, trivial⟩ ?_
      have i60 : (fv P50 a0_ 1).toInt = z57.toInt := by omega
      have i61 : z57.toInt ≤ 8 := by omega
      have i62 : z42.toInt = dvF t2.toInt z57.toInt.toNat := dvF.next i_2 (by omega) (by omega)
      have i63 : ∀ j : Nat, j < z57.toInt.toNat → 0 < dvF t2.toInt j := NDG.grow i_3 i_2 (by omega) (by omega)
      have i64 : KI a0_ (a0_ + 3) Po P50 := fun x j hx => by rw [f53 x j (by omega), i_4 x j (by omega)]
      have e65 : (fv P50 a0_ 0).toInt = (fv P a0_ 0).toInt := congrArg Int32.toInt (f53 a0_ 0 (ne_k rfl))
      have e66 : (fv P50 a0_ 2).toInt = (fv P a0_ 2).toInt := congrArg Int32.toInt (f53 a0_ 2 (ne_k rfl))
      have i67 : (fv P50 a0_ 0).toInt = t1.toInt ∧ (fv P50 a0_ 2).toInt = 0 := by omega
      have i68 : 0 ≤ z57.toInt := by omega
      exact ih _ (by omega) _ _ P50 hT51 k55 i60 i61 i62 i63 i64 i67 i68 rfl

set_option maxHeartbeats 4000000 in
theorem c_CP_takeSizes_Piece {Po : mP} {a0_ : Nat} {t1 : Int32} {t2 : Int32} (hT : Typ Po) (hX : XR Po)  (hp0 : t1.toInt = 0 ∨ t1.toInt = 1) (ha0 : rl a0_ = 3) : EvP 3 21 [.ref a0_, .int t1, .int t2] Po (fun r P' => (∃ x : Int32, r = some (.int x) ∧ (0 ≤ x.toInt ∧ x.toInt ≤ 1 ∧ ((x.toInt = 1 ∧ ∃ c : Nat, okSz t1.toInt t2.toInt c ∧ (fv P' a0_ 0).toInt = t1.toInt ∧ (fv P' a0_ 2).toInt = 0 ∧ (fv P' a0_ 1).toInt = (c : Int) ∧ ∀ j : Nat, j < c → fv P' (a0_ + 1) j = dgI t2.toInt c j) ∨ (x.toInt = 0 ∧ ∀ c : Nat, ¬ okSz t1.toInt t2.toInt c)))) ∧ Typ P' ∧ KW [192, 193, 194, 256] Po P' ∧ KI a0_ (a0_ + 3) Po P') := by
  refine EvP.of qm_21 (Nat.le_of_ble_eq_true rfl) rfl ?_
  show MEvP _ none q_21 0 [(0, .ref a0_), (1, .int t1), (2, .int t2)] [] _ 0 0 _
  have w1 := pc_ar ha0
  have w_t1 := ti_full t1
  have w_t2 := ti_full t2
  refine mp_a (a_aload_n dX2_takeSizes_0 rfl) (mpp 1 rfl ?_)
  refine mp_a (a_iload_n dX2_takeSizes_1 rfl) (mpp 2 rfl ?_)
  refine mt_putI (i := 18) (k := 0) (x := t1) hT dX2_takeSizes_2 rfl ha0 (by decide) rfl (by decide) rfl (ti_full t1) rfl rfl (fun P2 hT3 f4 f5 f6 => mpp 5 rfl ?_)
  have k7 : KW [192, 193, 194, 256] Po P2 := KW.step KW.refl ha0 rfl f5 f6
  have e8 : (fv P2 a0_ 0).toInt = t1.toInt := congrArg Int32.toInt f4
  refine mp_a (a_aload_n dX2_takeSizes_5 rfl) (mpp 6 rfl ?_)
  refine mp_a (a_iconst (v := 0) dX2_takeSizes_6 rfl) (mpp 7 rfl ?_)
  refine mt_putI (i := 22) (k := 2) (x := 0) hT3 dX2_takeSizes_7 rfl ha0 (by decide) rfl (by decide) rfl (by decide) rfl rfl (fun P9 hT10 f11 f12 f13 => mpp 10 rfl ?_)
  have k14 : KW [192, 193, 194, 256] Po P9 := KW.step k7 ha0 rfl f12 f13
  have e15 : (fv P9 a0_ 2).toInt = 0 := congrArg Int32.toInt f11
  refine mp_a (a_aload_n dX2_takeSizes_10 rfl) (mpp 11 rfl ?_)
  refine mp_a (a_iconst (v := 0) dX2_takeSizes_11 rfl) (mpp 12 rfl ?_)
  refine mt_putI (i := 26) (k := 1) (x := 0) hT10 dX2_takeSizes_12 rfl ha0 (by decide) rfl (by decide) rfl (by decide) rfl rfl (fun P16 hT17 f18 f19 f20 => mpp 15 rfl ?_)
  have k21 : KW [192, 193, 194, 256] Po P16 := KW.step k14 ha0 rfl f19 f20
  have e22 : (fv P16 a0_ 1).toInt = 0 := congrArg Int32.toInt f18
  refine mp_a (a_iload_n dX2_takeSizes_15 rfl) (mpp 16 rfl ?_)
  refine mp_a (a_istore_n (L' := [(3, .int t2), (0, .ref a0_), (1, .int t1), (2, .int t2)]) dX2_takeSizes_16 (by decide) rfl) (mpp 17 rfl ?_)
  refine mp_a (a_iconst (v := 0) dX2_takeSizes_17 rfl) (mpp 18 rfl ?_)
  refine mp_a (a_istore (L' := [(4, .int 0), (3, .int t2), (0, .ref a0_), (1, .int t1), (2, .int t2)]) dX2_takeSizes_18 (by decide) rfl) (mpp 20 rfl ?_)
  refine MEvP.less (L := [(0, .ref a0_), (1, .int t1), (2, .int t2), (3, .int t2), (4, .int 0)]) rfl rfl ⟨rfl, rfl, rfl, rfl, rfl, trivial⟩ ?_
  have i23 : (fv P16 a0_ 1).toInt = (0 : Int) := by omega
  have i24 : (0 : Int) ≤ 8 := by omega
  have i25 : t2.toInt = dvF t2.toInt (0 : Int).toNat := rfl
  have i26 : ∀ j : Nat, j < (0 : Int).toNat → 0 < dvF t2.toInt j := fun j hj => absurd hj (Nat.not_lt_zero j)
  have i27 : KI a0_ (a0_ + 3) Po P16 := fun x j hx => by rw [f19 x j (by omega), f12 x j (by omega), f5 x j (by omega)]
  have e28 : (fv P16 a0_ 0).toInt = (fv P2 a0_ 0).toInt := congrArg Int32.toInt ((f19 a0_ 0 (ne_k rfl)).trans (f12 a0_ 0 (ne_k rfl)))
  have e29 : (fv P16 a0_ 2).toInt = (fv P9 a0_ 2).toInt := congrArg Int32.toInt (f19 a0_ 2 (ne_k rfl))
  have i30 : (fv P16 a0_ 0).toInt = t1.toInt ∧ (fv P16 a0_ 2).toInt = 0 := by omega
  have i31 : 0 ≤ (0 : Int) := by omega
  exact c_CP_takeSizes_Piece_l20 hT hX  hp0 ha0 _ _ _ P16 hT17 k21 i23 i24 i25 i26 i27 i30 i31 rfl

set_option maxHeartbeats 4000000 in
theorem c_CP_creaseCount_Piece {Po : mP} {a0_ : Nat} (hT : Typ Po) (hX : XR Po)  (ha0 : rl a0_ = 3) : EvP 1 25 [.ref a0_] Po (fun r P' => (∃ x : Int32, r = some (.int x) ∧ (-1 ≤ x.toInt ∧ x.toInt ≤ (fv Po a0_ 1).toInt ∧ (((fv Po a0_ 0).toInt = 0 ∧ x.toInt = (fv Po a0_ 1).toInt - 1) ∨ ((fv Po a0_ 0).toInt ≠ 0 ∧ x.toInt = (fv Po a0_ 1).toInt)))) ∧ P' = Po) := by
  refine EvP.of qm_25 (Nat.le_of_ble_eq_true rfl) rfl ?_
  show MEvP _ none q_25 0 [(0, .ref a0_)] [] _ 0 0 _
  have w1 := pc_ar ha0
  have g2 : (0 : Int) ≤ (fv Po a0_ 1).toInt ∧ (fv Po a0_ 1).toInt ≤ 8 := Typ.rng hT ha0 (by decide) (by decide) rfl
  have g3 := ti_full (fv Po a0_ 0)
  refine mp_a (a_aload_n dX2_creaseCount_0 rfl) (mpp 1 rfl ?_)
  refine mt_getI (i := 18) (k := 0) hT dX2_creaseCount_1 rfl ha0 (by decide) rfl (by decide) rfl (fun g4 g5 => mpp 4 rfl ?_)
  refine mp_Tb (t := 16) (j_if_ne dX2_creaseCount_4) (by decide) (fun c6 => ?_) (fun c6 => mpp 7 rfl ?_)
  · have c6 : (fv Po a0_ 0).toInt ≠ 0 := ti_ne c6
    refine mp_a (a_aload_n dX2_creaseCount_16 rfl) (mpp 17 rfl ?_)
    refine mt_getI (i := 26) (k := 1) hT dX2_creaseCount_17 rfl ha0 (by decide) rfl (by decide) rfl (fun g7 g8 => mpp 20 rfl ?_)
    have u9 : -1 ≤ (fv Po a0_ 1).toInt ∧ (fv Po a0_ 1).toInt ≤ (fv Po a0_ 1).toInt ∧ (((fv Po a0_ 0).toInt = 0 ∧ (fv Po a0_ 1).toInt = (fv Po a0_ 1).toInt - 1) ∨ ((fv Po a0_ 0).toInt ≠ 0 ∧ (fv Po a0_ 1).toInt = (fv Po a0_ 1).toInt)) := by omega
    exact mp_iret ⟨⟨_, rfl, u9⟩, rfl⟩ dX2_creaseCount_20 (Or.inl rfl)
  · have c6 : (fv Po a0_ 0).toInt = 0 := ti_ne_n c6
    refine mp_a (a_aload_n dX2_creaseCount_7 rfl) (mpp 8 rfl ?_)
    refine mt_getI (i := 26) (k := 1) hT dX2_creaseCount_8 rfl ha0 (by decide) rfl (by decide) rfl (fun g10 g11 => mpp 11 rfl ?_)
    refine mp_a (a_iconst (v := 1) dX2_creaseCount_11 rfl) (mpp 12 rfl ?_)
    obtain ⟨z12, h13⟩ := ti_ex ((fv Po a0_ 1) - 1 : Int32)
    have wz12 := ti_full z12
    refine mp_t (s_isub (v := z12) dX2_creaseCount_12 h13) (mpp 13 rfl ?_)
    try have e14 : z12.toInt = (fv Po a0_ 1).toInt - 1 := ti_subz h13 rfl rfl (by omega) (by omega)
    refine mp_a (a_goto (t := 20) dX2_creaseCount_13 (by decide)) ?_
    have u15 : -1 ≤ z12.toInt ∧ z12.toInt ≤ (fv Po a0_ 1).toInt ∧ (((fv Po a0_ 0).toInt = 0 ∧ z12.toInt = (fv Po a0_ 1).toInt - 1) ∨ ((fv Po a0_ 0).toInt ≠ 0 ∧ z12.toInt = (fv Po a0_ 1).toInt)) := by omega
    exact mp_iret ⟨⟨_, rfl, u15⟩, rfl⟩ dX2_creaseCount_20 (Or.inl rfl)

set_option maxHeartbeats 4000000 in
theorem c_F_put_creases {Po : mP} {a0_ : Nat} {t1 : Int32} {t2 : Int32} (hT : Typ Po) (hX : XR Po)  (ha0 : rl a0_ = 5) : EvP 1 22 [.ref a0_, .int t1, .int t2] Po (fun r P' => (r = none ∧ (True)) ∧ Typ P' ∧ KW [320] Po P' ∧ ((t1.toInt < 0 ∨ 8 ≤ t1.toInt) ∨ (fv P' a0_ t1.toInt.toNat).toInt = t2.toInt) ∧ (∀ x j : Nat, ¬ (x = a0_ ∧ j = t1.toInt.toNat) → fv P' x j = fv Po x j) ∧ KI a0_ (a0_ + 1) Po P') := by
  refine EvP.of qm_22 (Nat.le_of_ble_eq_true rfl) rfl ?_
  show MEvP _ none q_22 0 [(0, .ref a0_), (1, .int t1), (2, .int t2)] [] _ 0 0 _
  have w_t1 := ti_full t1
  have w_t2 := ti_full t2
  refine mp_a (a_iload_n dX6_put_0 rfl) (mpp 1 rfl ?_)
  refine mp_Tb (t := 14) (j_if_lt dX6_put_1) (by decide) (fun c1 => ?_) (fun c1 => mpp 4 rfl ?_)
  · have c1 : t1.toInt < 0 := ti_lt c1
    have u2 : ((t1.toInt < 0 ∨ 8 ≤ t1.toInt) ∨ (fv Po a0_ t1.toInt.toNat).toInt = t2.toInt) := Or.inl (by omega)
    have u3 : (∀ x j : Nat, ¬ (x = a0_ ∧ j = t1.toInt.toNat) → fv Po x j = fv Po x j) := fun _ _ _ => rfl
    have u4 : KI a0_ (a0_ + 1) Po Po := fun _ _ _ => rfl
    exact mp_ret ⟨⟨rfl, trivial⟩, hT, KW.refl, ⟨u2, u3, u4⟩⟩ dX6_put_14 rfl
  · have c1 : t1.toInt ≥ 0 := ti_lt_n c1
    refine mp_a (a_iload_n dX6_put_4 rfl) (mpp 5 rfl ?_)
    refine mp_a (a_aload_n dX6_put_5 rfl) (mpp 6 rfl ?_)
    refine mt_len (n := 8) hT dX6_put_6 ha0 (by decide) (by decide) rfl (mpp 7 rfl ?_)
    refine mp_Tb (t := 14) (j_icmp_ge dX6_put_7) (by decide) (fun c5 => ?_) (fun c5 => mpp 10 rfl ?_)
    · have c5 : t1.toInt ≥ 8 := ti_ge c5
      have u6 : ((t1.toInt < 0 ∨ 8 ≤ t1.toInt) ∨ (fv Po a0_ t1.toInt.toNat).toInt = t2.toInt) := Or.inl (by omega)
      have u7 : (∀ x j : Nat, ¬ (x = a0_ ∧ j = t1.toInt.toNat) → fv Po x j = fv Po x j) := fun _ _ _ => rfl
      have u8 : KI a0_ (a0_ + 1) Po Po := fun _ _ _ => rfl
      exact mp_ret ⟨⟨rfl, trivial⟩, hT, KW.refl, ⟨u6, u7, u8⟩⟩ dX6_put_14 rfl
    · have c5 : t1.toInt < 8 := ti_ge_n c5
      refine mp_a (a_aload_n dX6_put_10 rfl) (mpp 11 rfl ?_)
      refine mp_a (a_iload_n dX6_put_11 rfl) (mpp 12 rfl ?_)
      refine mp_a (a_iload_n dX6_put_12 rfl) (mpp 13 rfl ?_)
      refine mt_ias (n := 8) hT dX6_put_13 ha0 (by decide) rfl rfl (by omega) (by omega) rfl (ti_full t2) (fun P9 hT10 f11 f12 f13 => mpp 14 rfl ?_)
      have k14 : KW [320] Po P9 := KW.step KW.refl ha0 rfl f12 f13
      have u15 : ((t1.toInt < 0 ∨ 8 ≤ t1.toInt) ∨ (fv P9 a0_ t1.toInt.toNat).toInt = t2.toInt) := Or.inr (congrArg Int32.toInt f11)
      have u16 : (∀ x j : Nat, ¬ (x = a0_ ∧ j = t1.toInt.toNat) → fv P9 x j = fv Po x j) := f12
      have u17 : KI a0_ (a0_ + 1) Po P9 := by
        intro x j hx
        rw [f12 x j (by omega)]
      exact mp_ret ⟨⟨rfl, trivial⟩, hT10, k14, ⟨u15, u16, u17⟩⟩ dX6_put_14 rfl

set_option maxHeartbeats 4000000 in
theorem c_F_isCreaseKind {Po : mP} {t0 : Int32} (hT : Typ Po) (hX : XR Po)   : EvP 1 26 [.int t0] Po (fun r P' => (∃ x : Int32, r = some (.int x) ∧ (0 ≤ x.toInt ∧ x.toInt ≤ 1 ∧ ((x.toInt = 1 ∧ 0 ≤ t0.toInt ∧ t0.toInt ≤ 2) ∨ (x.toInt = 0 ∧ (t0.toInt < 0 ∨ 2 < t0.toInt))))) ∧ P' = Po) := by
  refine EvP.of qm_26 (Nat.le_of_ble_eq_true rfl) rfl ?_
  show MEvP _ none q_26 0 [(0, .int t0)] [] _ 0 0 _
  have w_t0 := ti_full t0
  refine mp_a (a_iload_n dX6_isCreaseKind_0 rfl) (mpp 1 rfl ?_)
  refine mp_Tb (t := 14) (j_if_eq dX6_isCreaseKind_1) (by decide) (fun c1 => ?_) (fun c1 => mpp 4 rfl ?_)
  · have c1 : t0.toInt = 0 := ti_eq c1
    refine mp_a (a_iconst (v := 1) dX6_isCreaseKind_14 rfl) (mpp 15 rfl ?_)
    refine mp_a (a_goto (t := 19) dX6_isCreaseKind_15 (by decide)) ?_
    have u2 : 0 ≤ (1 : Int) ∧ (1 : Int) ≤ 1 ∧ (((1 : Int) = 1 ∧ 0 ≤ t0.toInt ∧ t0.toInt ≤ 2) ∨ ((1 : Int) = 0 ∧ (t0.toInt < 0 ∨ 2 < t0.toInt))) := by omega
    exact mp_iret ⟨⟨_, rfl, u2⟩, rfl⟩ dX6_isCreaseKind_19 (Or.inr ⟨rfl, by decide⟩)
  · have c1 : t0.toInt ≠ 0 := ti_eq_n c1
    refine mp_a (a_iload_n dX6_isCreaseKind_4 rfl) (mpp 5 rfl ?_)
    refine mp_a (a_iconst (v := 1) dX6_isCreaseKind_5 rfl) (mpp 6 rfl ?_)
    refine mp_Tb (t := 14) (j_icmp_eq dX6_isCreaseKind_6) (by decide) (fun c3 => ?_) (fun c3 => mpp 9 rfl ?_)
    · have c3 : t0.toInt = 1 := ti_eq c3
      refine mp_a (a_iconst (v := 1) dX6_isCreaseKind_14 rfl) (mpp 15 rfl ?_)
      refine mp_a (a_goto (t := 19) dX6_isCreaseKind_15 (by decide)) ?_
      have u4 : 0 ≤ (1 : Int) ∧ (1 : Int) ≤ 1 ∧ (((1 : Int) = 1 ∧ 0 ≤ t0.toInt ∧ t0.toInt ≤ 2) ∨ ((1 : Int) = 0 ∧ (t0.toInt < 0 ∨ 2 < t0.toInt))) := by omega
      exact mp_iret ⟨⟨_, rfl, u4⟩, rfl⟩ dX6_isCreaseKind_19 (Or.inr ⟨rfl, by decide⟩)
    · have c3 : t0.toInt ≠ 1 := ti_eq_n c3
      refine mp_a (a_iload_n dX6_isCreaseKind_9 rfl) (mpp 10 rfl ?_)
      refine mp_a (a_iconst (v := 2) dX6_isCreaseKind_10 rfl) (mpp 11 rfl ?_)
      refine mp_Tb (t := 18) (j_icmp_ne dX6_isCreaseKind_11) (by decide) (fun c5 => ?_) (fun c5 => mpp 14 rfl ?_)
      · have c5 : t0.toInt ≠ 2 := ti_ne c5
        refine mp_a (a_iconst (v := 0) dX6_isCreaseKind_18 rfl) (mpp 19 rfl ?_)
        have u6 : 0 ≤ (0 : Int) ∧ (0 : Int) ≤ 1 ∧ (((0 : Int) = 1 ∧ 0 ≤ t0.toInt ∧ t0.toInt ≤ 2) ∨ ((0 : Int) = 0 ∧ (t0.toInt < 0 ∨ 2 < t0.toInt))) := by omega
        exact mp_iret ⟨⟨_, rfl, u6⟩, rfl⟩ dX6_isCreaseKind_19 (Or.inr ⟨rfl, by decide⟩)
      · have c5 : t0.toInt = 2 := ti_ne_n c5
        refine mp_a (a_iconst (v := 1) dX6_isCreaseKind_14 rfl) (mpp 15 rfl ?_)
        refine mp_a (a_goto (t := 19) dX6_isCreaseKind_15 (by decide)) ?_
        have u7 : 0 ≤ (1 : Int) ∧ (1 : Int) ≤ 1 ∧ (((1 : Int) = 1 ∧ 0 ≤ t0.toInt ∧ t0.toInt ≤ 2) ∨ ((1 : Int) = 0 ∧ (t0.toInt < 0 ∨ 2 < t0.toInt))) := by omega
        exact mp_iret ⟨⟨_, rfl, u7⟩, rfl⟩ dX6_isCreaseKind_19 (Or.inr ⟨rfl, by decide⟩)

set_option maxHeartbeats 4000000 in
theorem c_CP_takeCreases_Piece_l20 {Po : mP} {a0_ : Nat} {t1 : Int32} (hTo : Typ Po) (hX : XR Po) (hp0 : 1 ≤ (fv Po a0_ 1).toInt) (ha0 : rl a0_ = 3) : ∀ (n : Nat) (v2 : Int32) (v3 : Int32) (v4 : Int32), ∀ (P : mP), Typ P → KW [320] Po P → ((v2.toInt = 0 ∧ ¬ okCr t1.toInt (nC (fv Po a0_ 0).toInt (fv Po a0_ 1).toInt)) ∨ (v2.toInt = 1 ∧ 0 ≤ t1.toInt ∧ SM2 t1.toInt (nC (fv Po a0_ 0).toInt (fv Po a0_ 1).toInt) v4.toInt)) → (t1.toInt < 0 ∨ (v3.toInt = dvF t1.toInt ((nC (fv Po a0_ 0).toInt (fv Po a0_ 1).toInt) - 1 - v4.toInt).toNat ∧ DGR P (a0_ + 2) t1.toInt (nC (fv Po a0_ 0).toInt (fv Po a0_ 1).toInt) v4.toInt)) → ((-1) ≤ v4.toInt) → (v4.toInt + 1 ≤ (nC (fv Po a0_ 0).toInt (fv Po a0_ 1).toInt)) → (KI (a0_ + 2) (a0_ + 3) Po P) → ((fv P a0_ 0).toInt = (fv Po a0_ 0).toInt ∧ (fv P a0_ 1).toInt = (fv Po a0_ 1).toInt) → (v4.toInt ≤ 7) → (v4.toInt + 1).toNat = n → MEvP 1 none q_24 20 [(0, .ref a0_), (1, .int t1), (2, .int v2), (3, .int v3), (4, .int v4)] [] P 0 0 (fun r P' => (∃ x : Int32, r = some (.int x) ∧ (0 ≤ x.toInt ∧ x.toInt ≤ 1 ∧ ((x.toInt = 1 ∧ okCr t1.toInt (nC (fv Po a0_ 0).toInt (fv Po a0_ 1).toInt) ∧ ∀ j : Nat, j < (nC (fv Po a0_ 0).toInt (fv Po a0_ 1).toInt) → fv P' (a0_ + 2) j = dgI t1.toInt (nC (fv Po a0_ 0).toInt (fv Po a0_ 1).toInt) j) ∨ (x.toInt = 0 ∧ ¬ okCr t1.toInt (nC (fv Po a0_ 0).toInt (fv Po a0_ 1).toInt))))) ∧ Typ P' ∧ KW [320] Po P' ∧ KI (a0_ + 2) (a0_ + 3) Po P') := by
  intro n
  induction n using Nat.strongRecOn with | _ n ih => ?_
  intro v2 v3 v4 P hT hK i_0 i_1 i_2 i_3 i_4 i_5 i_6 hm
  have w1 := pc_ar ha0
  have w_t1 := ti_full t1
  have w_v2 := ti_full v2
  have w_v3 := ti_full v3
  have w_v4 := ti_full v4
  have e2 : (fv P a0_ 0).toInt = (fv Po a0_ 0).toInt := congrArg Int32.toInt (KW.at hK 0 ha0 rfl)
  have g3 := ti_full (fv P a0_ 0)
  have e4 : (fv P a0_ 1).toInt = (fv Po a0_ 1).toInt := congrArg Int32.toInt (KW.at hK 1 ha0 rfl)
  have g5 : (0 : Int) ≤ (fv P a0_ 1).toInt ∧ (fv P a0_ 1).toInt ≤ 8 := Typ.rng hT ha0 (by decide) (by decide) rfl
  refine mp_a (a_iload dX2_takeCreases_20 rfl) (mpp 22 rfl ?_)
  refine mp_Tb (t := 69) (j_if_lt dX2_takeCreases_22) (by decide) (fun c6 => ?_) (fun c6 => mpp 25 rfl ?_)
  · have c6 : v4.toInt < 0 := ti_lt c6
    refine mp_a (a_iload_n dX2_takeCreases_69 rfl) (mpp 70 rfl ?_)
    refine mp_Tb (t := 81) (j_if_eq dX2_takeCreases_70) (by decide) (fun c7 => ?_) (fun c7 => mpp 73 rfl ?_)
    · have c7 : v2.toInt = 0 := ti_eq c7
      refine mp_a (a_iconst (v := 0) dX2_takeCreases_81 rfl) (mpp 82 rfl ?_)
      have u8 : 0 ≤ (0 : Int) ∧ (0 : Int) ≤ 1 ∧ (((0 : Int) = 1 ∧ okCr t1.toInt (nC (fv Po a0_ 0).toInt (fv Po a0_ 1).toInt) ∧ ∀ j : Nat, j < (nC (fv Po a0_ 0).toInt (fv Po a0_ 1).toInt) → fv P (a0_ + 2) j = dgI t1.toInt (nC (fv Po a0_ 0).toInt (fv Po a0_ 1).toInt) j) ∨ ((0 : Int) = 0 ∧ ¬ okCr t1.toInt (nC (fv Po a0_ 0).toInt (fv Po a0_ 1).toInt))) := ⟨by omega, by omega, Or.inr ⟨rfl, (i_0.resolve_right (by omega)).2⟩⟩
      have u9 : KI (a0_ + 2) (a0_ + 3) Po P := i_4
      exact mp_iret ⟨⟨_, rfl, u8⟩, hT, hK, u9⟩ dX2_takeCreases_82 (Or.inr ⟨rfl, by decide⟩)
    · have c7 : v2.toInt ≠ 0 := ti_eq_n c7
      refine mp_a (a_iload_n dX2_takeCreases_73 rfl) (mpp 74 rfl ?_)
      refine mp_Tb (t := 81) (j_if_ne dX2_takeCreases_74) (by decide) (fun c10 => ?_) (fun c10 => mpp 77 rfl ?_)
      · have c10 : v3.toInt ≠ 0 := ti_ne c10
        refine mp_a (a_iconst (v := 0) dX2_takeCreases_81 rfl) (mpp 82 rfl ?_)
        have u11 : 0 ≤ (0 : Int) ∧ (0 : Int) ≤ 1 ∧ (((0 : Int) = 1 ∧ okCr t1.toInt (nC (fv Po a0_ 0).toInt (fv Po a0_ 1).toInt) ∧ ∀ j : Nat, j < (nC (fv Po a0_ 0).toInt (fv Po a0_ 1).toInt) → fv P (a0_ + 2) j = dgI t1.toInt (nC (fv Po a0_ 0).toInt (fv Po a0_ 1).toInt) j) ∨ ((0 : Int) = 0 ∧ ¬ okCr t1.toInt (nC (fv Po a0_ 0).toInt (fv Po a0_ 1).toInt))) := ⟨by omega, by omega, Or.inr ⟨rfl, fun h => by have w := (i_1.resolve_left (by omega)).1; rw [show (((nC (fv Po a0_ 0).toInt (fv Po a0_ 1).toInt) : Int) - 1 - v4.toInt).toNat = (nC (fv Po a0_ 0).toInt (fv Po a0_ 1).toInt) from by omega] at w; have := h.2.1; omega⟩⟩
        have u12 : KI (a0_ + 2) (a0_ + 3) Po P := i_4
        exact mp_iret ⟨⟨_, rfl, u11⟩, hT, hK, u12⟩ dX2_takeCreases_82 (Or.inr ⟨rfl, by decide⟩)
      · have c10 : v3.toInt = 0 := ti_ne_n c10
        refine mp_a (a_iconst (v := 1) dX2_takeCreases_77 rfl) (mpp 78 rfl ?_)
        refine mp_a (a_goto (t := 82) dX2_takeCreases_78 (by decide)) ?_
        have u13 : 0 ≤ (1 : Int) ∧ (1 : Int) ≤ 1 ∧ (((1 : Int) = 1 ∧ okCr t1.toInt (nC (fv Po a0_ 0).toInt (fv Po a0_ 1).toInt) ∧ ∀ j : Nat, j < (nC (fv Po a0_ 0).toInt (fv Po a0_ 1).toInt) → fv P (a0_ + 2) j = dgI t1.toInt (nC (fv Po a0_ 0).toInt (fv Po a0_ 1).toInt) j) ∨ ((1 : Int) = 0 ∧ ¬ okCr t1.toInt (nC (fv Po a0_ 0).toInt (fv Po a0_ 1).toInt))) := ⟨by omega, by omega, Or.inl ⟨rfl, ⟨by omega, by have w := (i_1.resolve_left (by omega)).1; rw [show (((nC (fv Po a0_ 0).toInt (fv Po a0_ 1).toInt) : Int) - 1 - v4.toInt).toNat = (nC (fv Po a0_ 0).toInt (fv Po a0_ 1).toInt) from by omega] at w; omega, fun i hi => (i_0.resolve_left (by omega)).2.2 i (by omega)⟩, fun j hj => (i_1.resolve_left (by omega)).2 j (by omega) hj⟩⟩
        have u14 : KI (a0_ + 2) (a0_ + 3) Po P := i_4
        exact mp_iret ⟨⟨_, rfl, u13⟩, hT, hK, u14⟩ dX2_takeCreases_82 (Or.inr ⟨rfl, by decide⟩)
  · have c6 : v4.toInt ≥ 0 := ti_lt_n c6
    refine mp_a (a_iload_n dX2_takeCreases_25 rfl) (mpp 26 rfl ?_)
    refine mp_Tb (t := 43) (j_if_eq dX2_takeCreases_26) (by decide) (fun c15 => ?_) (fun c15 => mpp 29 rfl ?_)
    · have c15 : v2.toInt = 0 := ti_eq c15
      refine mp_a (a_iconst (v := 0) dX2_takeCreases_43 rfl) (mpp 44 rfl ?_)
      refine mp_a (a_istore_n (L' := [(2, .int 0), (0, .ref a0_), (1, .int t1), (3, .int v3), (4, .int v4)]) dX2_takeCreases_44 (by decide) rfl) (mpp 45 rfl ?_)
      refine mp_a (a_aload_n dX2_takeCreases_45 rfl) (mpp 46 rfl ?_)
      refine mt_getE (i := 15) (k := 4) hT dX2_takeCreases_46 rfl ha0 (by decide) rfl (by decide) rfl ((KW.xr hK hX).1 a0_ (Or.inl ha0)).2 (fun q16 => mpp 49 rfl ?_)
      refine mp_a (a_iload dX2_takeCreases_49 rfl) (mpp 51 rfl ?_)
      refine mp_a (a_iload_n dX2_takeCreases_51 rfl) (mpp 52 rfl ?_)
      refine mp_a (a_bipush (v := 10) dX2_takeCreases_52 rfl) (mpp 54 rfl ?_)
      obtain ⟨z17, h18⟩ := ti_ex (v3 - v3 / 10 * 10 : Int32)
      have wz17 := ti_full z17
      try have e20 : z17.toInt = v3.toInt % 10 := ti_remx h18 (show (0 : Int) ≤ v3.toInt by omega) (show (0 : Int) < 10 by omega)
      try have e19 : 0 ≤ z17.toInt ∧ z17.toInt < 10 := ti_rem h18 (show (0 : Int) ≤ v3.toInt by omega) (show (0 : Int) < 10 by omega)
      refine mp_t (s_irem (v := z17) dX2_takeCreases_54 (by decide) h18) (mpp 55 rfl ?_)
      refine mp_calls (i := 29) (q' := q_22) (As := [.ref (a0_ + 2), .int v4, .int z17]) (rest := []) dX2_takeCreases_55 rfl qm_22 (by decide) rfl (Nat.le_of_ble_eq_true rfl) rfl ⟨rfl, rfl⟩ ⟨Nat.le_of_ble_eq_true rfl, Nat.le_of_ble_eq_true rfl⟩ (EvP.mono (by decide) (c_F_put_creases hT (KW.xr hK hX) q16)) (fun r21 P22 g23 => mpp 58 rfl ?_)
      obtain ⟨⟨rfl, g25⟩, hT26, k27, R28⟩ := g23
      have k29 : KW [320] Po P22 := KW.trans hK k27 rfl
      show MEvP _ none q_24 58 [(2, .int 0), (0, .ref a0_), (1, .int t1), (3, .int v3), (4, .int v4)] [] _ _ _ _
      refine mp_a (a_iload_n dX2_takeCreases_58 rfl) (mpp 59 rfl ?_)
      refine mp_a (a_bipush (v := 10) dX2_takeCreases_59 rfl) (mpp 61 rfl ?_)
      obtain ⟨z31, h32⟩ := ti_ex (v3 / 10 : Int32)
      have wz31 := ti_full z31
      try have e33 : z31.toInt = v3.toInt / 10 := ti_div h32 (show (0 : Int) ≤ v3.toInt by omega) (show (0 : Int) < 10 by omega)
      refine mp_t (s_idiv (v := z31) dX2_takeCreases_61 (by decide) h32) (mpp 62 rfl ?_)
      refine mp_a (a_istore_n (L' := [(3, .int z31), (2, .int 0), (0, .ref a0_), (1, .int t1), (4, .int v4)]) dX2_takeCreases_62 (by decide) rfl) (mpp 63 rfl ?_)
      obtain ⟨z34, h35⟩ := ti_ex (v4 + (-1) : Int32)
      have wz34 := ti_full z34
      refine mp_a (a_iinc (v := z34) (L' := [(4, .int z34), (3, .int z31), (2, .int 0), (0, .ref a0_), (1, .int t1)]) dX2_takeCreases_63 (by decide) rfl h35 rfl) (mpp 66 rfl ?_)
      try have e36 : z34.toInt = v4.toInt + (-1) := ti_addz h35 rfl rfl (by omega) (by omega)
      refine mp_a (a_goto (t := 20) dX2_takeCreases_66 (by decide)) ?_
      refine MEvP.less (L := [(0, .ref a0_), (1, .int t1), (2, .int 0), (3, .int z31), (4, .int z34)]) rfl rfl ⟨rfl, rfl, rfl, rfl, rfl, trivial⟩ ?_
      have i37 : ((0 : Int) = 0 ∧ ¬ okCr t1.toInt (nC (fv Po a0_ 0).toInt (fv Po a0_ 1).toInt)) ∨ ((0 : Int) = 1 ∧ 0 ≤ t1.toInt ∧ SM2 t1.toInt (nC (fv Po a0_ 0).toInt (fv Po a0_ 1).toInt) z34.toInt) := Or.inl ⟨rfl, (i_0.resolve_right (by omega)).2⟩
      have w39_ : t1.toInt < 0 ∨ (z31.toInt = dvF t1.toInt ((nC (fv Po a0_ 0).toInt (fv Po a0_ 1).toInt) - 1 - z34.toInt).toNat ∧ DGR P22 (a0_ + 2) t1.toInt (nC (fv Po a0_ 0).toInt (fv Po a0_ 1).toInt) z34.toInt) := by
        rcases i_1 with o0 | ⟨o1, o2⟩
        · exact Or.inl o0
        · by_cases hn : t1.toInt < 0
          · exact Or.inl hn
          · have q0 := dvF_nonneg (n := t1.toInt) (by omega) ((nC (fv Po a0_ 0).toInt (fv Po a0_ 1).toInt) - 1 - v4.toInt).toNat
            have q1 := ti_div h32 (by omega) (by decide)
            have q2 := ti_remx h18 (by omega) (by decide)
            have q3 : Int32.toInt 10 = 10 := by decide
            rw [q3] at q1 q2
            exact Or.inr ⟨dvF.next o1 (by omega) (by omega), DGR.step (k := v4.toInt.toNat) o2 (by omega) (by omega) (R28.1.resolve_left (by omega)) (by rw [show (nC (fv Po a0_ 0).toInt (fv Po a0_ 1).toInt) - 1 - v4.toInt.toNat = ((nC (fv Po a0_ 0).toInt (fv Po a0_ 1).toInt) - 1 - v4.toInt).toNat from by omega, ← o1]; omega) (fun j hj => R28.2.1 _ _ (fun e => hj e.2))⟩
      have i38 : t1.toInt < 0 ∨ (z31.toInt = dvF t1.toInt ((nC (fv Po a0_ 0).toInt (fv Po a0_ 1).toInt) - 1 - z34.toInt).toNat ∧ DGR P22 (a0_ + 2) t1.toInt (nC (fv Po a0_ 0).toInt (fv Po a0_ 1).toInt) z34.toInt) := w39_
      have i40 : (-1) ≤ z34.toInt := by omega
      have i41 : z34.toInt + 1 ≤ (nC (fv Po a0_ 0).toInt (fv Po a0_ 1).toInt) := by omega
      have i42 : KI (a0_ + 2) (a0_ + 3) Po P22 := fun x j hx => by rw [R28.2.1 x j (by omega), i_4 x j (by omega)]
      have e43 : (fv P22 a0_ 0).toInt = (fv P a0_ 0).toInt := congrArg Int32.toInt (KW.at k27 0 ha0 rfl)
      have e44 : (fv P22 a0_ 1).toInt = (fv P a0_ 1).toInt := congrArg Int32.toInt (KW.at k27 1 ha0 rfl)
      have i45 : (fv P22 a0_ 0).toInt = (fv Po a0_ 0).toInt ∧ (fv P22 a0_ 1).toInt = (fv Po a0_ 1).toInt := by omega
      have i46 : z34.toInt ≤ 7 := by omega
      exact ih _ (by omega) _ _ _ P22 hT26 k29 i37 i38 i40 i41 i42 i45 i46 rfl
    · have c15 : v2.toInt ≠ 0 := ti_eq_n c15
      have hq := dvF_nonneg (n := t1.toInt) (by omega) ((nC (fv Po a0_ 0).toInt (fv Po a0_ 1).toInt) - 1 - v4.toInt).toNat
      refine mp_a (a_iload_n dX2_takeCreases_29 rfl) (mpp 30 rfl ?_)
      refine mp_a (a_bipush (v := 10) dX2_takeCreases_30 rfl) (mpp 32 rfl ?_)
      obtain ⟨z47, h48⟩ := ti_ex (v3 - v3 / 10 * 10 : Int32)
      have wz47 := ti_full z47
      try have e50 : z47.toInt = v3.toInt % 10 := ti_remx h48 (show (0 : Int) ≤ v3.toInt by omega) (show (0 : Int) < 10 by omega)
      try have e49 : 0 ≤ z47.toInt ∧ z47.toInt < 10 := ti_rem h48 (show (0 : Int) ≤ v3.toInt by omega) (show (0 : Int) < 10 by omega)
      refine mp_t (s_irem (v := z47) dX2_takeCreases_32 (by decide) h48) (mpp 33 rfl ?_)
      refine mp_calls (i := 40) (q' := q_26) (As := [.int z47]) (rest := []) dX2_takeCreases_33 rfl qm_26 (by decide) rfl (Nat.le_of_ble_eq_true rfl) rfl ⟨rfl, rfl⟩ ⟨Nat.le_of_ble_eq_true rfl, Nat.le_of_ble_eq_true rfl⟩ (EvP.mono (by decide) (c_F_isCreaseKind hT (KW.xr hK hX) )) (fun r51 P52 g53 => mpp 36 rfl ?_)
      obtain ⟨⟨x54, rfl, g55⟩, e56⟩ := g53
      have e56 := e56.symm
      subst e56
      have wx54 := ti_full x54
      replace g55 : 0 ≤ x54.toInt ∧ x54.toInt ≤ 1 ∧ ((x54.toInt = 1 ∧ 0 ≤ z47.toInt ∧ z47.toInt ≤ 2) ∨ (x54.toInt = 0 ∧ (z47.toInt < 0 ∨ 2 < z47.toInt))) := g55
      show MEvP _ none q_24 36 [(0, .ref a0_), (1, .int t1), (2, .int v2), (3, .int v3), (4, .int v4)] [.int x54] _ _ _ _
      refine mp_Tb (t := 43) (j_if_eq dX2_takeCreases_36) (by decide) (fun c57 => ?_) (fun c57 => mpp 39 rfl ?_)
      · have c57 : x54.toInt = 0 := ti_eq c57
        refine mp_a (a_iconst (v := 0) dX2_takeCreases_43 rfl) (mpp 44 rfl ?_)
        refine mp_a (a_istore_n (L' := [(2, .int 0), (0, .ref a0_), (1, .int t1), (3, .int v3), (4, .int v4)]) dX2_takeCreases_44 (by decide) rfl) (mpp 45 rfl ?_)
        refine mp_a (a_aload_n dX2_takeCreases_45 rfl) (mpp 46 rfl ?_)
        refine mt_getE (i := 15) (k := 4) hT dX2_takeCreases_46 rfl ha0 (by decide) rfl (by decide) rfl ((KW.xr hK hX).1 a0_ (Or.inl ha0)).2 (fun q58 => mpp 49 rfl ?_)
        refine mp_a (a_iload dX2_takeCreases_49 rfl) (mpp 51 rfl ?_)
        refine mp_a (a_iload_n dX2_takeCreases_51 rfl) (mpp 52 rfl ?_)
        refine mp_a (a_bipush (v := 10) dX2_takeCreases_52 rfl) (mpp 54 rfl ?_)
        obtain ⟨z59, h60⟩ := ti_ex (v3 - v3 / 10 * 10 : Int32)
        have wz59 := ti_full z59
        try have e62 : z59.toInt = v3.toInt % 10 := ti_remx h60 (show (0 : Int) ≤ v3.toInt by omega) (show (0 : Int) < 10 by omega)
        try have e61 : 0 ≤ z59.toInt ∧ z59.toInt < 10 := ti_rem h60 (show (0 : Int) ≤ v3.toInt by omega) (show (0 : Int) < 10 by omega)
        refine mp_t (s_irem (v := z59) dX2_takeCreases_54 (by decide) h60) (mpp 55 rfl ?_)
        refine mp_calls (i := 29) (q' := q_22) (As := [.ref (a0_ + 2), .int v4, .int z59]) (rest := []) dX2_takeCreases_55 rfl qm_22 (by decide) rfl (Nat.le_of_ble_eq_true rfl) rfl ⟨rfl, rfl⟩ ⟨Nat.le_of_ble_eq_true rfl, Nat.le_of_ble_eq_true rfl⟩ (EvP.mono (by decide) (c_F_put_creases hT (KW.xr hK hX) q58)) (fun r63 P64 g65 => mpp 58 rfl ?_)
        obtain ⟨⟨rfl, g67⟩, hT68, k69, R70⟩ := g65
        have k71 : KW [320] Po P64 := KW.trans hK k69 rfl
        show MEvP _ none q_24 58 [(2, .int 0), (0, .ref a0_), (1, .int t1), (3, .int v3), (4, .int v4)] [] _ _ _ _
        refine mp_a (a_iload_n dX2_takeCreases_58 rfl) (mpp 59 rfl ?_)
        refine mp_a (a_bipush (v := 10) dX2_takeCreases_59 rfl) (mpp 61 rfl ?_)
        obtain ⟨z73, h74⟩ := ti_ex (v3 / 10 : Int32)
        have wz73 := ti_full z73
        try have e75 : z73.toInt = v3.toInt / 10 := ti_div h74 (show (0 : Int) ≤ v3.toInt by omega) (show (0 : Int) < 10 by omega)
        refine mp_t (s_idiv (v := z73) dX2_takeCreases_61 (by decide) h74) (mpp 62 rfl ?_)
        refine mp_a (a_istore_n (L' := [(3, .int z73), (2, .int 0), (0, .ref a0_), (1, .int t1), (4, .int v4)]) dX2_takeCreases_62 (by decide) rfl) (mpp 63 rfl ?_)
        obtain ⟨z76, h77⟩ := ti_ex (v4 + (-1) : Int32)
        have wz76 := ti_full z76
        refine mp_a (a_iinc (v := z76) (L' := [(4, .int z76), (3, .int z73), (2, .int 0), (0, .ref a0_), (1, .int t1)]) dX2_takeCreases_63 (by decide) rfl h77 rfl) (mpp 66 rfl ?_)
        try have e78 : z76.toInt = v4.toInt + (-1) := ti_addz h77 rfl rfl (by omega) (by omega)
        refine mp_a (a_goto (t := 20) dX2_takeCreases_66 (by decide)) ?_
        refine MEvP.less (L := [(0, .ref a0_), (1, .int t1), (2, .int 0), (3, .int z73), (4, .int z76)]) rfl rfl ⟨rfl, rfl, rfl, rfl, rfl, trivial⟩ ?_
        have i79 : ((0 : Int) = 0 ∧ ¬ okCr t1.toInt (nC (fv Po a0_ 0).toInt (fv Po a0_ 1).toInt)) ∨ ((0 : Int) = 1 ∧ 0 ≤ t1.toInt ∧ SM2 t1.toInt (nC (fv Po a0_ 0).toInt (fv Po a0_ 1).toInt) z76.toInt) := Or.inl ⟨rfl, fun h => by have w := (i_1.resolve_left (by omega)).1; have w2 := h.2.2 ((nC (fv Po a0_ 0).toInt (fv Po a0_ 1).toInt) - 1 - v4.toInt).toNat (by omega); rw [← w] at w2; omega⟩
        have w81_ : t1.toInt < 0 ∨ (z73.toInt = dvF t1.toInt ((nC (fv Po a0_ 0).toInt (fv Po a0_ 1).toInt) - 1 - z76.toInt).toNat ∧ DGR P64 (a0_ + 2) t1.toInt (nC (fv Po a0_ 0).toInt (fv Po a0_ 1).toInt) z76.toInt) := by
          rcases i_1 with o0 | ⟨o1, o2⟩
          · exact Or.inl o0
          · by_cases hn : t1.toInt < 0
            · exact Or.inl hn
            · have q0 := dvF_nonneg (n := t1.toInt) (by omega) ((nC (fv Po a0_ 0).toInt (fv Po a0_ 1).toInt) - 1 - v4.toInt).toNat
              have q1 := ti_div h74 (by omega) (by decide)
              have q2 := ti_remx h60 (by omega) (by decide)
              have q3 : Int32.toInt 10 = 10 := by decide
              rw [q3] at q1 q2
              exact Or.inr ⟨dvF.next o1 (by omega) (by omega), DGR.step (k := v4.toInt.toNat) o2 (by omega) (by omega) (R70.1.resolve_left (by omega)) (by rw [show (nC (fv Po a0_ 0).toInt (fv Po a0_ 1).toInt) - 1 - v4.toInt.toNat = ((nC (fv Po a0_ 0).toInt (fv Po a0_ 1).toInt) - 1 - v4.toInt).toNat from by omega, ← o1]; omega) (fun j hj => R70.2.1 _ _ (fun e => hj e.2))⟩
        have i80 : t1.toInt < 0 ∨ (z73.toInt = dvF t1.toInt ((nC (fv Po a0_ 0).toInt (fv Po a0_ 1).toInt) - 1 - z76.toInt).toNat ∧ DGR P64 (a0_ + 2) t1.toInt (nC (fv Po a0_ 0).toInt (fv Po a0_ 1).toInt) z76.toInt) := w81_
        have i82 : (-1) ≤ z76.toInt := by omega
        have i83 : z76.toInt + 1 ≤ (nC (fv Po a0_ 0).toInt (fv Po a0_ 1).toInt) := by omega
        have i84 : KI (a0_ + 2) (a0_ + 3) Po P64 := fun x j hx => by rw [R70.2.1 x j (by omega), i_4 x j (by omega)]
        have e85 : (fv P64 a0_ 0).toInt = (fv P a0_ 0).toInt := congrArg Int32.toInt (KW.at k69 0 ha0 rfl)
        have e86 : (fv P64 a0_ 1).toInt = (fv P a0_ 1).toInt := congrArg Int32.toInt (KW.at k69 1 ha0 rfl)
        have i87 : (fv P64 a0_ 0).toInt = (fv Po a0_ 0).toInt ∧ (fv P64 a0_ 1).toInt = (fv Po a0_ 1).toInt := by omega
        have i88 : z76.toInt ≤ 7 := by omega
        exact ih _ (by omega) _ _ _ P64 hT68 k71 i79 i80 i82 i83 i84 i87 i88 rfl
      · have c57 : x54.toInt ≠ 0 := ti_eq_n c57
        refine mp_a (a_iconst (v := 1) dX2_takeCreases_39 rfl) (mpp 40 rfl ?_)
        refine mp_a (a_goto (t := 44) dX2_takeCreases_40 (by decide)) ?_
        refine mp_a (a_istore_n (L' := [(2, .int 1), (0, .ref a0_), (1, .int t1), (3, .int v3), (4, .int v4)]) dX2_takeCreases_44 (by decide) rfl) (mpp 45 rfl ?_)
        refine mp_a (a_aload_n dX2_takeCreases_45 rfl) (mpp 46 rfl ?_)
        refine mt_getE (i := 15) (k := 4) hT dX2_takeCreases_46 rfl ha0 (by decide) rfl (by decide) rfl ((KW.xr hK hX).1 a0_ (Or.inl ha0)).2 (fun q89 => mpp 49 rfl ?_)
        refine mp_a (a_iload dX2_takeCreases_49 rfl) (mpp 51 rfl ?_)
        refine mp_a (a_iload_n dX2_takeCreases_51 rfl) (mpp 52 rfl ?_)
        refine mp_a (a_bipush (v := 10) dX2_takeCreases_52 rfl) (mpp 54 rfl ?_)
        obtain ⟨z90, h91⟩ := ti_ex (v3 - v3 / 10 * 10 : Int32)
        have wz90 := ti_full z90
        try have e93 : z90.toInt = v3.toInt % 10 := ti_remx h91 (show (0 : Int) ≤ v3.toInt by omega) (show (0 : Int) < 10 by omega)
        try have e92 : 0 ≤ z90.toInt ∧ z90.toInt < 10 := ti_rem h91 (show (0 : Int) ≤ v3.toInt by omega) (show (0 : Int) < 10 by omega)
        refine mp_t (s_irem (v := z90) dX2_takeCreases_54 (by decide) h91) (mpp 55 rfl ?_)
        refine mp_calls (i := 29) (q' := q_22) (As := [.ref (a0_ + 2), .int v4, .int z90]) (rest := []) dX2_takeCreases_55 rfl qm_22 (by decide) rfl (Nat.le_of_ble_eq_true rfl) rfl ⟨rfl, rfl⟩ ⟨Nat.le_of_ble_eq_true rfl, Nat.le_of_ble_eq_true rfl⟩ (EvP.mono (by decide) (c_F_put_creases hT (KW.xr hK hX) q89)) (fun r94 P95 g96 => mpp 58 rfl ?_)
        obtain ⟨⟨rfl, g98⟩, hT99, k100, R101⟩ := g96
        have k102 : KW [320] Po P95 := KW.trans hK k100 rfl
        show MEvP _ none q_24 58 [(2, .int 1), (0, .ref a0_), (1, .int t1), (3, .int v3), (4, .int v4)] [] _ _ _ _
        refine mp_a (a_iload_n dX2_takeCreases_58 rfl) (mpp 59 rfl ?_)
        refine mp_a (a_bipush (v := 10) dX2_takeCreases_59 rfl) (mpp 61 rfl ?_)
        obtain ⟨z104, h105⟩ := ti_ex (v3 / 10 : Int32)
        have wz104 := ti_full z104
        try have e106 : z104.toInt = v3.toInt / 10 := ti_div h105 (show (0 : Int) ≤ v3.toInt by omega) (show (0 : Int) < 10 by omega)
        refine mp_t (s_idiv (v := z104) dX2_takeCreases_61 (by decide) h105) (mpp 62 rfl ?_)
        refine mp_a (a_istore_n (L' := [(3, .int z104), (2, .int 1), (0, .ref a0_), (1, .int t1), (4, .int v4)]) dX2_takeCreases_62 (by decide) rfl) (mpp 63 rfl ?_)
        obtain ⟨z107, h108⟩ := ti_ex (v4 + (-1) : Int32)
        have wz107 := ti_full z107
        refine mp_a (a_iinc (v := z107) (L' := [(4, .int z107), (3, .int z104), (2, .int 1), (0, .ref a0_), (1, .int t1)]) dX2_takeCreases_63 (by decide) rfl h108 rfl) (mpp 66 rfl ?_)
        try have e109 : z107.toInt = v4.toInt + (-1) := ti_addz h108 rfl rfl (by omega) (by omega)
        refine mp_a (a_goto (t := 20) dX2_takeCreases_66 (by decide)) ?_
        refine MEvP.less (L := [(0, .ref a0_), (1, .int t1), (2, .int 1), (3, .int z104), (4, .int z107)]) rfl rfl ⟨rfl, rfl, rfl, rfl, rfl, trivial⟩ ?_
        have i110 : ((1 : Int) = 0 ∧ ¬ okCr t1.toInt (nC (fv Po a0_ 0).toInt (fv Po a0_ 1).toInt)) ∨ ((1 : Int) = 1 ∧ 0 ≤ t1.toInt ∧ SM2 t1.toInt (nC (fv Po a0_ 0).toInt (fv Po a0_ 1).toInt) z107.toInt) := Or.inr ⟨rfl, by omega, SM2.step (k := ((nC (fv Po a0_ 0).toInt (fv Po a0_ 1).toInt) - 1 - v4.toInt).toNat) (i_0.resolve_left (by omega)).2.2 (by omega) (by omega) (by have w := (i_1.resolve_left (by omega)).1; rw [← w]; omega)⟩
        have w112_ : t1.toInt < 0 ∨ (z104.toInt = dvF t1.toInt ((nC (fv Po a0_ 0).toInt (fv Po a0_ 1).toInt) - 1 - z107.toInt).toNat ∧ DGR P95 (a0_ + 2) t1.toInt (nC (fv Po a0_ 0).toInt (fv Po a0_ 1).toInt) z107.toInt) := by
          rcases i_1 with o0 | ⟨o1, o2⟩
          · exact Or.inl o0
          · by_cases hn : t1.toInt < 0
            · exact Or.inl hn
            · have q0 := dvF_nonneg (n := t1.toInt) (by omega) ((nC (fv Po a0_ 0).toInt (fv Po a0_ 1).toInt) - 1 - v4.toInt).toNat
              have q1 := ti_div h105 (by omega) (by decide)
              have q2 := ti_remx h91 (by omega) (by decide)
              have q3 : Int32.toInt 10 = 10 := by decide
              rw [q3] at q1 q2
              exact Or.inr ⟨dvF.next o1 (by omega) (by omega), DGR.step (k := v4.toInt.toNat) o2 (by omega) (by omega) (R101.1.resolve_left (by omega)) (by rw [show (nC (fv Po a0_ 0).toInt (fv Po a0_ 1).toInt) - 1 - v4.toInt.toNat = ((nC (fv Po a0_ 0).toInt (fv Po a0_ 1).toInt) - 1 - v4.toInt).toNat from by omega, ← o1]; omega) (fun j hj => R101.2.1 _ _ (fun e => hj e.2))⟩
        have i111 : t1.toInt < 0 ∨ (z104.toInt = dvF t1.toInt ((nC (fv Po a0_ 0).toInt (fv Po a0_ 1).toInt) - 1 - z107.toInt).toNat ∧ DGR P95 (a0_ + 2) t1.toInt (nC (fv Po a0_ 0).toInt (fv Po a0_ 1).toInt) z107.toInt) := w112_
        have i113 : (-1) ≤ z107.toInt := by omega
        have i114 : z107.toInt + 1 ≤ (nC (fv Po a0_ 0).toInt (fv Po a0_ 1).toInt) := by omega
        have i115 : KI (a0_ + 2) (a0_ + 3) Po P95 := fun x j hx => by rw [R101.2.1 x j (by omega), i_4 x j (by omega)]
        have e116 : (fv P95 a0_ 0).toInt = (fv P a0_ 0).toInt := congrArg Int32.toInt (KW.at k100 0 ha0 rfl)
        have e117 : (fv P95 a0_ 1).toInt = (fv P a0_ 1).toInt := congrArg Int32.toInt (KW.at k100 1 ha0 rfl)
        have i118 : (fv P95 a0_ 0).toInt = (fv Po a0_ 0).toInt ∧ (fv P95 a0_ 1).toInt = (fv Po a0_ 1).toInt := by omega
        have i119 : z107.toInt ≤ 7 := by omega
        exact ih _ (by omega) _ _ _ P95 hT99 k102 i110 i111 i113 i114 i115 i118 i119 rfl

