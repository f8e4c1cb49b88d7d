/-! methods on typed pools, 27 (written by a program) -/
set_option maxHeartbeats 4000000 in
theorem c_M_reduces {Po : mP}  (hT : Typ Po)   : EvP 4 166 [.ref 301] Po (fun r P' => (∃ x : Int32, r = some (.int x) ∧ (True)) ∧ Typ P' ∧ KW [1101, 1536, 1600] Po P' ∧ True) := by
  refine EvP.of qm_166 (Nat.le_of_ble_eq_true rfl) rfl ?_
  show MEvP _ none q_166 0 [(0, .ref 301)] [] _ 0 0 _
  refine mp_a (a_iconst (v := 0) dX7_reduces_0 rfl) (mpp 1 rfl ?_)
  refine mp_a (a_istore_n (L' := [(1, .int 0), (0, .ref 301)]) dX7_reduces_1 (by decide) rfl) (mpp 2 rfl ?_)
  refine mp_a (a_aload_n dX7_reduces_2 rfl) (mpp 3 rfl ?_)
  refine mt_callv (i := 187) (q' := q_167) (As := []) (rest := []) hT dX7_reduces_3 rfl qm_167 (by decide) rfl rl_301 (by decide) rfl (Nat.le_of_ble_eq_true rfl) rfl ⟨rfl, rfl⟩ ⟨Nat.le_of_ble_eq_true rfl, Nat.le_of_ble_eq_true rfl⟩ (EvP.mono (by decide) (c_M_stepNow hT )) (fun r1 P2 g3 => mpp 6 rfl ?_)
  obtain ⟨⟨x4, rfl, g5⟩, e6⟩ := g3
  have e6 := e6.symm
  subst e6
  have wx4 := ti_full x4
  have g5 : x4.toInt = 0 ∨ (x4.toInt = 1 ∧ (fv Po 301 14).toInt = 0 ∧ 2 ≤ (fv Po 301 13).toInt) ∨ (x4.toInt = 2 ∧ (fv Po 301 14).toInt = 0 ∧ 2 ≤ (fv Po 301 13).toInt) ∨ ((fv Po 301 14).toInt = 1 ∧ 3 ≤ (fv Po 301 13).toInt ∧ 10 ≤ x4.toInt ∧ x4.toInt + 1 ≤ (fv Po 301 13).toInt + 10) ∨ ((fv Po 301 14).toInt = 0 ∧ 11 ≤ x4.toInt ∧ x4.toInt + 2 ≤ (fv Po 301 13).toInt + 10) := g5
  have g7 : (0 : Int) ≤ (fv Po 301 14).toInt ∧ (fv Po 301 14).toInt ≤ 1 := Typ.rng hT rl_301 (by decide) (by decide) rfl
  have g8 : (0 : Int) ≤ (fv Po 301 13).toInt ∧ (fv Po 301 13).toInt ≤ 8 := Typ.rng hT rl_301 (by decide) (by decide) rfl
  show MEvP _ none q_166 6 [(1, .int 0), (0, .ref 301)] [.int x4] _ _ _ _
  refine mp_a (a_istore_n (L' := [(2, .int x4), (1, .int 0), (0, .ref 301)]) dX7_reduces_6 (by decide) rfl) (mpp 7 rfl ?_)
  refine MEvP.less (L := [(0, .ref 301), (1, .int 0), (2, .int x4)]) rfl rfl ⟨rfl, rfl, rfl, trivial⟩ ?_
  have i9 : x4.toInt = 0 ∨ (x4.toInt = 1 ∧ (fv Po 301 14).toInt = 0 ∧ 2 ≤ (fv Po 301 13).toInt) ∨ (x4.toInt = 2 ∧ (fv Po 301 14).toInt = 0 ∧ 2 ≤ (fv Po 301 13).toInt) ∨ ((fv Po 301 14).toInt = 1 ∧ 3 ≤ (fv Po 301 13).toInt ∧ 10 ≤ x4.toInt ∧ x4.toInt + 1 ≤ (fv Po 301 13).toInt + 10) ∨ ((fv Po 301 14).toInt = 0 ∧ 11 ≤ x4.toInt ∧ x4.toInt + 2 ≤ (fv Po 301 13).toInt + 10) := by omega
  exact c_M_reduces_l7    _ _ _ Po hT KW.refl i9 rfl

set_option maxHeartbeats 4000000 in
theorem c_M_folds {Po : mP}  (hT : Typ Po)   : EvP 5 165 [.ref 301] Po (fun r P' => (∃ x : Int32, r = some (.int x) ∧ (0 ≤ x.toInt ∧ x.toInt ≤ 1)) ∧ Typ P' ∧ KW [1101, 1536, 1600] Po P' ∧ True) := by
  refine EvP.of qm_165 (Nat.le_of_ble_eq_true rfl) rfl ?_
  show MEvP _ none q_165 0 [(0, .ref 301)] [] _ 0 0 _
  refine mp_a (a_aload_n dX7_folds_0 rfl) (mpp 1 rfl ?_)
  refine mt_callv (i := 193) (q' := q_166) (As := []) (rest := []) hT dX7_folds_1 rfl qm_166 (by decide) rfl rl_301 (by decide) rfl (Nat.le_of_ble_eq_true rfl) rfl ⟨rfl, rfl⟩ ⟨Nat.le_of_ble_eq_true rfl, Nat.le_of_ble_eq_true rfl⟩ (EvP.mono (by decide) (c_M_reduces hT )) (fun r1 P2 g3 => mpp 4 rfl ?_)
  obtain ⟨⟨x4, rfl, g5⟩, hT6, k7, R8⟩ := g3
  have k9 : KW [1101, 1536, 1600] Po P2 := KW.trans KW.refl k7 rfl
  have wx4 := ti_full x4
  show MEvP _ none q_165 4 [(0, .ref 301)] [.int x4] _ _ _ _
  refine mp_a (a_istore_n (L' := [(1, .int x4), (0, .ref 301)]) dX7_folds_4 (by decide) rfl) (mpp 5 rfl ?_)
  refine mp_a (a_aload_n dX7_folds_5 rfl) (mpp 6 rfl ?_)
  have g11 : (0 : Int) ≤ (fv P2 301 14).toInt ∧ (fv P2 301 14).toInt ≤ 1 := Typ.rng hT6 rl_301 (by decide) (by decide) rfl
  refine mt_getI (i := 161) (k := 14) hT6 dX7_folds_6 rfl rl_301 (by decide) rfl (by decide) rfl (fun g12 g13 => mpp 9 rfl ?_)
  refine mp_Tb (t := 26) (j_if_ne dX7_folds_9) (by decide) (fun c14 => ?_) (fun c14 => mpp 12 rfl ?_)
  · have c14 : (fv P2 301 14).toInt ≠ 0 := ti_ne c14
    refine mp_a (a_aload_n dX7_folds_26 rfl) (mpp 27 rfl ?_)
    have g15 : (0 : Int) ≤ (fv P2 301 13).toInt ∧ (fv P2 301 13).toInt ≤ 8 := Typ.rng hT6 rl_301 (by decide) (by decide) rfl
    refine mt_getI (i := 165) (k := 13) hT6 dX7_folds_27 rfl rl_301 (by decide) rfl (by decide) rfl (fun g16 g17 => mpp 30 rfl ?_)
    refine mp_a (a_iconst (v := 2) dX7_folds_30 rfl) (mpp 31 rfl ?_)
    refine mp_Tb (t := 77) (j_icmp_ne dX7_folds_31) (by decide) (fun c18 => ?_) (fun c18 => mpp 34 rfl ?_)
    · have c18 : (fv P2 301 13).toInt ≠ 2 := ti_ne c18
      refine mp_a (a_iconst (v := 0) dX7_folds_77 rfl) (mpp 78 rfl ?_)
      have u19 : 0 ≤ (0 : Int) ∧ (0 : Int) ≤ 1 := by omega
      exact mp_iret ⟨⟨_, rfl, u19⟩, hT6, k9, trivial⟩ dX7_folds_78 (Or.inr ⟨rfl, by decide⟩)
    · have c18 : (fv P2 301 13).toInt = 2 := ti_ne_n c18
      refine mp_a (a_aload_n dX7_folds_34 rfl) (mpp 35 rfl ?_)
      refine mt_getU (i := 28) (k := 11) (A := 308) hT6 dX7_folds_35 rfl rl_301 (by decide) rfl (by decide) rfl un_24 (mpp 38 rfl ?_)
      refine mp_a (a_iconst (v := 0) dX7_folds_38 rfl) (mpp 39 rfl ?_)
      refine mt_ial (n := 8) hT6 dX7_folds_39 rl_308 (by decide) rfl rfl (by decide) (by decide) rfl (fun g20 g21 => mpp 40 rfl ?_)
      refine mp_a (a_aload_n dX7_folds_40 rfl) (mpp 41 rfl ?_)
      refine mt_getU (i := 28) (k := 11) (A := 308) hT6 dX7_folds_41 rfl rl_301 (by decide) rfl (by decide) rfl un_24 (mpp 44 rfl ?_)
      refine mp_a (a_iconst (v := 1) dX7_folds_44 rfl) (mpp 45 rfl ?_)
      refine mt_ial (n := 8) hT6 dX7_folds_45 rl_308 (by decide) rfl rfl (by decide) (by decide) rfl (fun g22 g23 => mpp 46 rfl ?_)
      refine mp_Tb (t := 77) (j_icmp_ne dX7_folds_46) (by decide) (fun c24 => ?_) (fun c24 => mpp 49 rfl ?_)
      · have c24 : (fv P2 308 0).toInt ≠ (fv P2 308 1).toInt := ti_ne c24
        refine mp_a (a_iconst (v := 0) dX7_folds_77 rfl) (mpp 78 rfl ?_)
        have u25 : 0 ≤ (0 : Int) ∧ (0 : Int) ≤ 1 := by omega
        exact mp_iret ⟨⟨_, rfl, u25⟩, hT6, k9, trivial⟩ dX7_folds_78 (Or.inr ⟨rfl, by decide⟩)
      · have c24 : (fv P2 308 0).toInt = (fv P2 308 1).toInt := ti_ne_n c24
        refine mp_a (a_aload_n dX7_folds_49 rfl) (mpp 50 rfl ?_)
        refine mt_getU (i := 31) (k := 12) (A := 309) hT6 dX7_folds_50 rfl rl_301 (by decide) rfl (by decide) rfl un_25 (mpp 53 rfl ?_)
        refine mp_a (a_iconst (v := 0) dX7_folds_53 rfl) (mpp 54 rfl ?_)
        refine mt_ial (n := 8) hT6 dX7_folds_54 rl_309 (by decide) rfl rfl (by decide) (by decide) rfl (fun g26 g27 => mpp 55 rfl ?_)
        refine mp_a (a_aload_n dX7_folds_55 rfl) (mpp 56 rfl ?_)
        refine mt_getU (i := 31) (k := 12) (A := 309) hT6 dX7_folds_56 rfl rl_301 (by decide) rfl (by decide) rfl un_25 (mpp 59 rfl ?_)
        refine mp_a (a_iconst (v := 1) dX7_folds_59 rfl) (mpp 60 rfl ?_)
        refine mt_ial (n := 8) hT6 dX7_folds_60 rl_309 (by decide) rfl rfl (by decide) (by decide) rfl (fun g28 g29 => mpp 61 rfl ?_)
        refine mp_Tb (t := 77) (j_icmp_ne dX7_folds_61) (by decide) (fun c30 => ?_) (fun c30 => mpp 64 rfl ?_)
        · have c30 : (fv P2 309 0).toInt ≠ (fv P2 309 1).toInt := ti_ne c30
          refine mp_a (a_iconst (v := 0) dX7_folds_77 rfl) (mpp 78 rfl ?_)
          have u31 : 0 ≤ (0 : Int) ∧ (0 : Int) ≤ 1 := by omega
          exact mp_iret ⟨⟨_, rfl, u31⟩, hT6, k9, trivial⟩ dX7_folds_78 (Or.inr ⟨rfl, by decide⟩)
        · have c30 : (fv P2 309 0).toInt = (fv P2 309 1).toInt := ti_ne_n c30
          refine mp_a (a_aload_n dX7_folds_64 rfl) (mpp 65 rfl ?_)
          refine mt_getU (i := 31) (k := 12) (A := 309) hT6 dX7_folds_65 rfl rl_301 (by decide) rfl (by decide) rfl un_25 (mpp 68 rfl ?_)
          refine mp_a (a_iconst (v := 0) dX7_folds_68 rfl) (mpp 69 rfl ?_)
          refine mt_ial (n := 8) hT6 dX7_folds_69 rl_309 (by decide) rfl rfl (by decide) (by decide) rfl (fun g32 g33 => mpp 70 rfl ?_)
          refine mp_Tb (t := 77) (j_if_eq dX7_folds_70) (by decide) (fun c34 => ?_) (fun c34 => mpp 73 rfl ?_)
          · have c34 : (fv P2 309 0).toInt = 0 := ti_eq c34
            refine mp_a (a_iconst (v := 0) dX7_folds_77 rfl) (mpp 78 rfl ?_)
            have u35 : 0 ≤ (0 : Int) ∧ (0 : Int) ≤ 1 := by omega
            exact mp_iret ⟨⟨_, rfl, u35⟩, hT6, k9, trivial⟩ dX7_folds_78 (Or.inr ⟨rfl, by decide⟩)
          · have c34 : (fv P2 309 0).toInt ≠ 0 := ti_eq_n c34
            refine mp_a (a_iconst (v := 1) dX7_folds_73 rfl) (mpp 74 rfl ?_)
            refine mp_a (a_goto (t := 78) dX7_folds_74 (by decide)) ?_
            have u36 : 0 ≤ (1 : Int) ∧ (1 : Int) ≤ 1 := by omega
            exact mp_iret ⟨⟨_, rfl, u36⟩, hT6, k9, trivial⟩ dX7_folds_78 (Or.inr ⟨rfl, by decide⟩)
  · have c14 : (fv P2 301 14).toInt = 0 := ti_ne_n c14
    refine mp_a (a_aload_n dX7_folds_12 rfl) (mpp 13 rfl ?_)
    have g37 : (0 : Int) ≤ (fv P2 301 13).toInt ∧ (fv P2 301 13).toInt ≤ 8 := Typ.rng hT6 rl_301 (by decide) (by decide) rfl
    refine mt_getI (i := 165) (k := 13) hT6 dX7_folds_13 rfl rl_301 (by decide) rfl (by decide) rfl (fun g38 g39 => mpp 16 rfl ?_)
    refine mp_a (a_iconst (v := 1) dX7_folds_16 rfl) (mpp 17 rfl ?_)
    refine mp_Tb (t := 24) (j_icmp_ne dX7_folds_17) (by decide) (fun c40 => ?_) (fun c40 => mpp 20 rfl ?_)
    · have c40 : (fv P2 301 13).toInt ≠ 1 := ti_ne c40
      refine mp_a (a_iconst (v := 0) dX7_folds_24 rfl) (mpp 25 rfl ?_)
      have u41 : 0 ≤ (0 : Int) ∧ (0 : Int) ≤ 1 := by omega
      exact mp_iret ⟨⟨_, rfl, u41⟩, hT6, k9, trivial⟩ dX7_folds_25 (Or.inr ⟨rfl, by decide⟩)
    · have c40 : (fv P2 301 13).toInt = 1 := ti_ne_n c40
      refine mp_a (a_iconst (v := 1) dX7_folds_20 rfl) (mpp 21 rfl ?_)
      refine mp_a (a_goto (t := 25) dX7_folds_21 (by decide)) ?_
      have u42 : 0 ≤ (1 : Int) ∧ (1 : Int) ≤ 1 := by omega
      exact mp_iret ⟨⟨_, rfl, u42⟩, hT6, k9, trivial⟩ dX7_folds_25 (Or.inr ⟨rfl, by decide⟩)

set_option maxHeartbeats 4000000 in
theorem c_M_foldsNow {Po : mP} {t1 : Int32} (hT : Typ Po)  (hp0 : 0 ≤ t1.toInt) (hp1 : t1.toInt ≤ 7)  : EvP 6 163 [.ref 301, .int t1] Po (fun r P' => (∃ x : Int32, r = some (.int x) ∧ (0 ≤ x.toInt ∧ x.toInt ≤ 1)) ∧ Typ P' ∧ KW [1101, 1102, 1536, 1600] Po P' ∧ True) := by
  refine EvP.of qm_163 (Nat.le_of_ble_eq_true rfl) rfl ?_
  show MEvP _ none q_163 0 [(0, .ref 301), (1, .int t1)] [] _ 0 0 _
  refine mp_a (a_aload_n dX7_foldsNow_0 rfl) (mpp 1 rfl ?_)
  refine mp_a (a_iload_n dX7_foldsNow_1 rfl) (mpp 2 rfl ?_)
  have p1 : 0 ≤ t1.toInt := by omega
  have p2 : t1.toInt ≤ 7 := by omega
  refine mt_callv (i := 196) (q' := q_164) (As := [.int t1]) (rest := []) hT dX7_foldsNow_2 rfl qm_164 (by decide) rfl rl_301 (by decide) rfl (Nat.le_of_ble_eq_true rfl) rfl ⟨rfl, rfl⟩ ⟨Nat.le_of_ble_eq_true rfl, Nat.le_of_ble_eq_true rfl⟩ (EvP.mono (by decide) (c_M_lays hT p1 p2 )) (fun r3 P4 g5 => mpp 5 rfl ?_)
  obtain ⟨⟨rfl, g7⟩, hT8, k9, R10⟩ := g5
  have k11 : KW [1101, 1102, 1536, 1600] Po P4 := KW.trans KW.refl k9 rfl
  show MEvP _ none q_163 5 [(0, .ref 301), (1, .int t1)] [] _ _ _ _
  refine mp_a (a_aload_n dX7_foldsNow_5 rfl) (mpp 6 rfl ?_)
  refine mt_callv (i := 199) (q' := q_165) (As := []) (rest := []) hT8 dX7_foldsNow_6 rfl qm_165 (by decide) rfl rl_301 (by decide) rfl (Nat.le_of_ble_eq_true rfl) rfl ⟨rfl, rfl⟩ ⟨Nat.le_of_ble_eq_true rfl, Nat.le_of_ble_eq_true rfl⟩ (EvP.mono (by decide) (c_M_folds hT8 )) (fun r13 P14 g15 => mpp 9 rfl ?_)
  obtain ⟨⟨x16, rfl, g17⟩, hT18, k19, R20⟩ := g15
  have k21 : KW [1101, 1102, 1536, 1600] Po P14 := KW.trans k11 k19 rfl
  have wx16 := ti_full x16
  have g17 : 0 ≤ x16.toInt ∧ x16.toInt ≤ 1 := g17
  show MEvP _ none q_163 9 [(0, .ref 301), (1, .int t1)] [.int x16] _ _ _ _
  have u23 : 0 ≤ x16.toInt ∧ x16.toInt ≤ 1 := by omega
  exact mp_iret ⟨⟨_, rfl, u23⟩, hT18, k21, trivial⟩ dX7_foldsNow_9 (Or.inr ⟨rfl, ti_01 (by omega)⟩)

set_option maxHeartbeats 4000000 in
theorem c_M_evenAngles_l4 {Po : mP} {t1 : Int32} (hT : Typ Po)  (hp0 : 0 ≤ t1.toInt) (hp1 : t1.toInt ≤ 7)  : ∀ (n : Nat) (v2 : Int32) (v3 : Int32), (0 ≤ v3.toInt) → (2147483647 - v3.toInt).toNat = n → MEvP 3 none q_161 4 [(0, .ref 301), (1, .int t1), (2, .int v2), (3, .int v3)] [] Po 0 0 (fun r P' => (∃ x : Int32, r = some (.int x) ∧ (True)) ∧ P' = Po) := by
  intro n
  induction n using Nat.strongRecOn with | _ n ih => ?_
  intro v2 v3 i_0 hm
  have w_t1 := ti_full t1
  have w_v2 := ti_full v2
  have w_v3 := ti_full v3
  refine mp_a (a_iload_n dX7_evenAngles_4 rfl) (mpp 5 rfl ?_)
  refine mp_a (a_aload_n dX7_evenAngles_5 rfl) (mpp 6 rfl ?_)
  refine mp_a (a_iload_n dX7_evenAngles_6 rfl) (mpp 7 rfl ?_)
  refine mp_a (a_iconst (v := 1) dX7_evenAngles_7 rfl) (mpp 8 rfl ?_)
  have p1 : 0 ≤ t1.toInt := by omega
  have p2 : t1.toInt ≤ 7 := by omega
  have p3 : 0 ≤ (1 : Int) := by omega
  have p4 : (1 : Int) ≤ 18 := by omega
  refine mt_callv (i := 78) (q' := q_137) (As := [.int t1, .int 1]) (rest := [.int v3]) hT dX7_evenAngles_8 rfl qm_137 (by decide) rfl rl_301 (by decide) rfl (Nat.le_of_ble_eq_true rfl) rfl ⟨rfl, rfl⟩ ⟨Nat.le_of_ble_eq_true rfl, Nat.le_of_ble_eq_true rfl⟩ (EvP.mono (by decide) (c_M_of_c1 hT p1 p2 p3 p4 )) (fun r5 P6 g7 => mpp 11 rfl ?_)
  obtain ⟨⟨x8, rfl, g9⟩, e10⟩ := g7
  have e10 := e10.symm
  subst e10
  have wx8 := ti_full x8
  have g9 : x8.toInt = (fv Po 302 (4 + 19 * t1.toInt.toNat)).toInt ∧ 0 ≤ x8.toInt ∧ x8.toInt ≤ 8 := g9
  have g11 := ti_full (fv Po 302 (4 + 19 * t1.toInt.toNat))
  show MEvP _ none q_161 11 [(0, .ref 301), (1, .int t1), (2, .int v2), (3, .int v3)] [.int x8, .int v3] _ _ _ _
  refine mp_Tb (t := 29) (j_icmp_ge dX7_evenAngles_11) (by decide) (fun c12 => ?_) (fun c12 => mpp 14 rfl ?_)
  · have c12 : v3.toInt ≥ x8.toInt := ti_ge c12
    refine mp_a (a_iload_n dX7_evenAngles_29 rfl) (mpp 30 rfl ?_)
    exact mp_iret ⟨⟨_, rfl, trivial⟩, rfl⟩ dX7_evenAngles_30 (Or.inl rfl)
  · have c12 : v3.toInt < x8.toInt := ti_ge_n c12
    refine mp_a (a_iload_n dX7_evenAngles_14 rfl) (mpp 15 rfl ?_)
    refine mp_a (a_aload_n dX7_evenAngles_15 rfl) (mpp 16 rfl ?_)
    refine mp_a (a_iload_n dX7_evenAngles_16 rfl) (mpp 17 rfl ?_)
    refine mp_a (a_iload_n dX7_evenAngles_17 rfl) (mpp 18 rfl ?_)
    have p13 : 0 ≤ t1.toInt := by omega
    have p14 : t1.toInt ≤ 7 := by omega
    have p15 : 0 ≤ v3.toInt := by omega
    have p16 : v3.toInt ≤ 7 := by omega
    refine mt_callv (i := 142) (q' := q_152) (As := [.int t1, .int v3]) (rest := [.int v2]) hT dX7_evenAngles_18 rfl qm_152 (by decide) rfl rl_301 (by decide) rfl (Nat.le_of_ble_eq_true rfl) rfl ⟨rfl, rfl⟩ ⟨Nat.le_of_ble_eq_true rfl, Nat.le_of_ble_eq_true rfl⟩ (EvP.mono (by decide) (c_M_sizeOf hT p13 p14 p15 p16 )) (fun r17 P18 g19 => mpp 21 rfl ?_)
    obtain ⟨⟨x20, rfl, g21⟩, e22⟩ := g19
    have e22 := e22.symm
    subst e22
    have wx20 := ti_full x20
    show MEvP _ none q_161 21 [(0, .ref 301), (1, .int t1), (2, .int v2), (3, .int v3)] [.int x20, .int v2] _ _ _ _
    obtain ⟨z23, h24⟩ := ti_ex (v2 + x20 : Int32)
    have wz23 := ti_full z23
    refine mp_t (s_iadd (v := z23) dX7_evenAngles_21 h24) (mpp 22 rfl ?_)
    try have e25 : z23.toInt = v2.toInt + x20.toInt := ti_addz h24 rfl rfl (by omega) (by omega)
    refine mp_a (a_istore_n (L' := [(2, .int z23), (0, .ref 301), (1, .int t1), (3, .int v3)]) dX7_evenAngles_22 (by decide) rfl) (mpp 23 rfl ?_)
    obtain ⟨z26, h27⟩ := ti_ex (v3 + 2 : Int32)
    have wz26 := ti_full z26
    refine mp_a (a_iinc (v := z26) (L' := [(3, .int z26), (2, .int z23), (0, .ref 301), (1, .int t1)]) dX7_evenAngles_23 (by decide) rfl h27 rfl) (mpp 26 rfl ?_)
    try have e28 : z26.toInt = v3.toInt + 2 := ti_addz h27 rfl rfl (by omega) (by omega)
    refine mp_a (a_goto (t := 4) dX7_evenAngles_26 (by decide)) ?_
    refine MEvP.less (L := [(0, .ref 301), (1, .int t1), (2, .int z23), (3, .int z26)]) rfl rfl ⟨rfl, rfl, rfl, rfl, trivial⟩ ?_
    have i29 : 0 ≤ z26.toInt := by omega
    exact ih _ (by omega) _ _ i29 rfl

set_option maxHeartbeats 4000000 in
theorem c_M_evenAngles {Po : mP} {t1 : Int32} (hT : Typ Po)  (hp0 : 0 ≤ t1.toInt) (hp1 : t1.toInt ≤ 7)  : EvP 4 161 [.ref 301, .int t1] Po (fun r P' => (∃ x : Int32, r = some (.int x) ∧ (True)) ∧ P' = Po) := by
  refine EvP.of qm_161 (Nat.le_of_ble_eq_true rfl) rfl ?_
  show MEvP _ none q_161 0 [(0, .ref 301), (1, .int t1)] [] _ 0 0 _
  refine mp_a (a_iconst (v := 0) dX7_evenAngles_0 rfl) (mpp 1 rfl ?_)
  refine mp_a (a_istore_n (L' := [(2, .int 0), (0, .ref 301), (1, .int t1)]) dX7_evenAngles_1 (by decide) rfl) (mpp 2 rfl ?_)
  refine mp_a (a_iconst (v := 0) dX7_evenAngles_2 rfl) (mpp 3 rfl ?_)
  refine mp_a (a_istore_n (L' := [(3, .int 0), (2, .int 0), (0, .ref 301), (1, .int t1)]) dX7_evenAngles_3 (by decide) rfl) (mpp 4 rfl ?_)
  refine MEvP.less (L := [(0, .ref 301), (1, .int t1), (2, .int 0), (3, .int 0)]) rfl rfl ⟨rfl, rfl, rfl, rfl, trivial⟩ ?_
  have i1 : 0 ≤ (0 : Int) := by omega
  exact c_M_evenAngles_l4 hT  hp0 hp1 _ _ _ i1 rfl

set_option maxHeartbeats 4000000 in
theorem c_M_hasSharp_l9 {Po : mP} {t1 : Int32} (hT : Typ Po)  (hp0 : 0 ≤ t1.toInt) (hp1 : t1.toInt ≤ 7)  : ∀ (n : Nat) (v2 : Int32) (v3 : Int32), (v2.toInt ≤ 8) → (0 ≤ v3.toInt) → (2147483647 - v3.toInt).toNat = n → MEvP 3 none q_162 9 [(0, .ref 301), (1, .int t1), (2, .int v2), (3, .int v3)] [] Po 0 0 (fun r P' => (∃ x : Int32, r = some (.int x) ∧ (0 ≤ x.toInt ∧ x.toInt ≤ 1)) ∧ P' = Po) := by
  intro n
  induction n using Nat.strongRecOn with | _ n ih => ?_
  intro v2 v3 i_0 i_1 hm
  have w_t1 := ti_full t1
  have w_v2 := ti_full v2
  have w_v3 := ti_full v3
  refine mp_a (a_iload_n dX7_hasSharp_9 rfl) (mpp 10 rfl ?_)
  refine mp_a (a_iload_n dX7_hasSharp_10 rfl) (mpp 11 rfl ?_)
  refine mp_Tb (t := 89) (j_icmp_ge dX7_hasSharp_11) (by decide) (fun c1 => ?_) (fun c1 => mpp 14 rfl ?_)
  · have c1 : v3.toInt ≥ v2.toInt := ti_ge c1
    refine mp_a (a_iconst (v := 0) dX7_hasSharp_89 rfl) (mpp 90 rfl ?_)
    have u2 : 0 ≤ (0 : Int) ∧ (0 : Int) ≤ 1 := by omega
    exact mp_iret ⟨⟨_, rfl, u2⟩, rfl⟩ dX7_hasSharp_90 (Or.inr ⟨rfl, by decide⟩)
  · have c1 : v3.toInt < v2.toInt := ti_ge_n c1
    refine mp_a (a_aload_n dX7_hasSharp_14 rfl) (mpp 15 rfl ?_)
    refine mp_a (a_iload_n dX7_hasSharp_15 rfl) (mpp 16 rfl ?_)
    refine mp_a (a_iload_n dX7_hasSharp_16 rfl) (mpp 17 rfl ?_)
    refine mp_a (a_iload_n dX7_hasSharp_17 rfl) (mpp 18 rfl ?_)
    obtain ⟨z3, h4⟩ := ti_ex (v3 + v2 : Int32)
    have wz3 := ti_full z3
    refine mp_t (s_iadd (v := z3) dX7_hasSharp_18 h4) (mpp 19 rfl ?_)
    try have e5 : z3.toInt = v3.toInt + v2.toInt := ti_addz h4 rfl rfl (by omega) (by omega)
    refine mp_a (a_iconst (v := 1) dX7_hasSharp_19 rfl) (mpp 20 rfl ?_)
    obtain ⟨z6, h7⟩ := ti_ex (z3 - 1 : Int32)
    have wz6 := ti_full z6
    refine mp_t (s_isub (v := z6) dX7_hasSharp_20 h7) (mpp 21 rfl ?_)
    try have e8 : z6.toInt = z3.toInt - 1 := ti_subz h7 rfl rfl (by omega) (by omega)
    refine mp_a (a_iload_n dX7_hasSharp_21 rfl) (mpp 22 rfl ?_)
    obtain ⟨z9, h10⟩ := ti_ex (z6 - z6 / v2 * v2 : Int32)
    have wz9 := ti_full z9
    have n11 : ¬ v2 = 0 := ti_n0 (by omega)
    try have e12 : 0 ≤ z9.toInt ∧ z9.toInt < v2.toInt := ti_rem h10 (show (0 : Int) ≤ z6.toInt by omega) (show (0 : Int) < v2.toInt by omega)
    refine mp_t (s_irem (v := z9) dX7_hasSharp_22 n11 h10) (mpp 23 rfl ?_)
    have p13 : 0 ≤ t1.toInt := by omega
    have p14 : t1.toInt ≤ 7 := by omega
    have p15 : 0 ≤ z9.toInt := by omega
    have p16 : z9.toInt ≤ 7 := by omega
    refine mt_callv (i := 142) (q' := q_152) (As := [.int t1, .int z9]) (rest := []) hT dX7_hasSharp_23 rfl qm_152 (by decide) rfl rl_301 (by decide) rfl (Nat.le_of_ble_eq_true rfl) rfl ⟨rfl, rfl⟩ ⟨Nat.le_of_ble_eq_true rfl, Nat.le_of_ble_eq_true rfl⟩ (EvP.mono (by decide) (c_M_sizeOf hT p13 p14 p15 p16 )) (fun r17 P18 g19 => mpp 26 rfl ?_)
    obtain ⟨⟨x20, rfl, g21⟩, e22⟩ := g19
    have e22 := e22.symm
    subst e22
    have wx20 := ti_full x20
    show MEvP _ none q_162 26 [(0, .ref 301), (1, .int t1), (2, .int v2), (3, .int v3)] [.int x20] _ _ _ _
    refine mp_a (a_istore (L' := [(4, .int x20), (0, .ref 301), (1, .int t1), (2, .int v2), (3, .int v3)]) dX7_hasSharp_26 (by decide) rfl) (mpp 28 rfl ?_)
    refine mp_a (a_aload_n dX7_hasSharp_28 rfl) (mpp 29 rfl ?_)
    refine mp_a (a_iload_n dX7_hasSharp_29 rfl) (mpp 30 rfl ?_)
    refine mp_a (a_iload_n dX7_hasSharp_30 rfl) (mpp 31 rfl ?_)
    refine mp_a (a_iconst (v := 1) dX7_hasSharp_31 rfl) (mpp 32 rfl ?_)
    obtain ⟨z23, h24⟩ := ti_ex (v3 + 1 : Int32)
    have wz23 := ti_full z23
    refine mp_t (s_iadd (v := z23) dX7_hasSharp_32 h24) (mpp 33 rfl ?_)
    try have e25 : z23.toInt = v3.toInt + 1 := ti_addz h24 rfl rfl (by omega) (by omega)
    refine mp_a (a_iload_n dX7_hasSharp_33 rfl) (mpp 34 rfl ?_)
    obtain ⟨z26, h27⟩ := ti_ex (z23 - z23 / v2 * v2 : Int32)
    have wz26 := ti_full z26
    have n28 : ¬ v2 = 0 := ti_n0 (by omega)
    try have e29 : 0 ≤ z26.toInt ∧ z26.toInt < v2.toInt := ti_rem h27 (show (0 : Int) ≤ z23.toInt by omega) (show (0 : Int) < v2.toInt by omega)
    refine mp_t (s_irem (v := z26) dX7_hasSharp_34 n28 h27) (mpp 35 rfl ?_)
    have p30 : 0 ≤ t1.toInt := by omega
    have p31 : t1.toInt ≤ 7 := by omega
    have p32 : 0 ≤ z26.toInt := by omega
    have p33 : z26.toInt ≤ 7 := by omega
    refine mt_callv (i := 142) (q' := q_152) (As := [.int t1, .int z26]) (rest := []) hT dX7_hasSharp_35 rfl qm_152 (by decide) rfl rl_301 (by decide) rfl (Nat.le_of_ble_eq_true rfl) rfl ⟨rfl, rfl⟩ ⟨Nat.le_of_ble_eq_true rfl, Nat.le_of_ble_eq_true rfl⟩ (EvP.mono (by decide) (c_M_sizeOf hT p30 p31 p32 p33 )) (fun r34 P35 g36 => mpp 38 rfl ?_)
    obtain ⟨⟨x37, rfl, g38⟩, e39⟩ := g36
    have e39 := e39.symm
    subst e39
    have wx37 := ti_full x37
    show MEvP _ none q_162 38 [(4, .int x20), (0, .ref 301), (1, .int t1), (2, .int v2), (3, .int v3)] [.int x37] _ _ _ _
    refine mp_a (a_istore (L' := [(5, .int x37), (4, .int x20), (0, .ref 301), (1, .int t1), (2, .int v2), (3, .int v3)]) dX7_hasSharp_38 (by decide) rfl) (mpp 40 rfl ?_)
    refine mp_a (a_aload_n dX7_hasSharp_40 rfl) (mpp 41 rfl ?_)
    refine mp_a (a_iload_n dX7_hasSharp_41 rfl) (mpp 42 rfl ?_)
    refine mp_a (a_iload_n dX7_hasSharp_42 rfl) (mpp 43 rfl ?_)
    have p40 : 0 ≤ t1.toInt := by omega
    have p41 : t1.toInt ≤ 7 := by omega
    have p42 : 0 ≤ v3.toInt := by omega
    have p43 : v3.toInt ≤ 7 := by omega
    refine mt_callv (i := 142) (q' := q_152) (As := [.int t1, .int v3]) (rest := []) hT dX7_hasSharp_43 rfl qm_152 (by decide) rfl rl_301 (by decide) rfl (Nat.le_of_ble_eq_true rfl) rfl ⟨rfl, rfl⟩ ⟨Nat.le_of_ble_eq_true rfl, Nat.le_of_ble_eq_true rfl⟩ (EvP.mono (by decide) (c_M_sizeOf hT p40 p41 p42 p43 )) (fun r44 P45 g46 => mpp 46 rfl ?_)
    obtain ⟨⟨x47, rfl, g48⟩, e49⟩ := g46
    have e49 := e49.symm
    subst e49
    have wx47 := ti_full x47
    show MEvP _ none q_162 46 [(5, .int x37), (4, .int x20), (0, .ref 301), (1, .int t1), (2, .int v2), (3, .int v3)] [.int x47] _ _ _ _
    refine mp_a (a_iload dX7_hasSharp_46 rfl) (mpp 48 rfl ?_)
    refine mp_Tb (t := 83) (j_icmp_ge dX7_hasSharp_48) (by decide) (fun c50 => ?_) (fun c50 => mpp 51 rfl ?_)
    · have c50 : x47.toInt ≥ x20.toInt := ti_ge c50
      obtain ⟨z51, h52⟩ := ti_ex (v3 + 1 : Int32)
      have wz51 := ti_full z51
      refine mp_a (a_iinc (v := z51) (L' := [(3, .int z51), (5, .int x37), (4, .int x20), (0, .ref 301), (1, .int t1), (2, .int v2)]) dX7_hasSharp_83 (by decide) rfl h52 rfl) (mpp 86 rfl ?_)
      try have e53 : z51.toInt = v3.toInt + 1 := ti_addz h52 rfl rfl (by omega) (by omega)
      refine mp_a (a_goto (t := 9) dX7_hasSharp_86 (by decide)) ?_
      refine MEvP.less (L := [(0, .ref 301), (1, .int t1), (2, .int v2), (3, .int z51)]) rfl rfl ⟨rfl, rfl, rfl, rfl, trivial⟩ ?_
      have i54 : v2.toInt ≤ 8 := by omega
      have i55 : 0 ≤ z51.toInt := by omega
      exact ih _ (by omega) _ _ i54 i55 rfl
    · have c50 : x47.toInt < x20.toInt := ti_ge_n c50
      refine mp_a (a_aload_n dX7_hasSharp_51 rfl) (mpp 52 rfl ?_)
      refine mp_a (a_iload_n dX7_hasSharp_52 rfl) (mpp 53 rfl ?_)
      refine mp_a (a_iload_n dX7_hasSharp_53 rfl) (mpp 54 rfl ?_)
      have p56 : 0 ≤ t1.toInt := by omega
      have p57 : t1.toInt ≤ 7 := by omega
      have p58 : 0 ≤ v3.toInt := by omega
      have p59 : v3.toInt ≤ 7 := by omega
      refine mt_callv (i := 142) (q' := q_152) (As := [.int t1, .int v3]) (rest := []) hT dX7_hasSharp_54 rfl qm_152 (by decide) rfl rl_301 (by decide) rfl (Nat.le_of_ble_eq_true rfl) rfl ⟨rfl, rfl⟩ ⟨Nat.le_of_ble_eq_true rfl, Nat.le_of_ble_eq_true rfl⟩ (EvP.mono (by decide) (c_M_sizeOf hT p56 p57 p58 p59 )) (fun r60 P61 g62 => mpp 57 rfl ?_)
      obtain ⟨⟨x63, rfl, g64⟩, e65⟩ := g62
      have e65 := e65.symm
      subst e65
      have wx63 := ti_full x63
      show MEvP _ none q_162 57 [(5, .int x37), (4, .int x20), (0, .ref 301), (1, .int t1), (2, .int v2), (3, .int v3)] [.int x63] _ _ _ _
      refine mp_a (a_iload dX7_hasSharp_57 rfl) (mpp 59 rfl ?_)
      refine mp_Tb (t := 83) (j_icmp_ge dX7_hasSharp_59) (by decide) (fun c66 => ?_) (fun c66 => mpp 62 rfl ?_)
      · have c66 : x63.toInt ≥ x37.toInt := ti_ge c66
        obtain ⟨z67, h68⟩ := ti_ex (v3 + 1 : Int32)
        have wz67 := ti_full z67
        refine mp_a (a_iinc (v := z67) (L' := [(3, .int z67), (5, .int x37), (4, .int x20), (0, .ref 301), (1, .int t1), (2, .int v2)]) dX7_hasSharp_83 (by decide) rfl h68 rfl) (mpp 86 rfl ?_)
        try have e69 : z67.toInt = v3.toInt + 1 := ti_addz h68 rfl rfl (by omega) (by omega)
        refine mp_a (a_goto (t := 9) dX7_hasSharp_86 (by decide)) ?_
        refine MEvP.less (L := [(0, .ref 301), (1, .int t1), (2, .int v2), (3, .int z67)]) rfl rfl ⟨rfl, rfl, rfl, rfl, trivial⟩ ?_
        have i70 : v2.toInt ≤ 8 := by omega
        have i71 : 0 ≤ z67.toInt := by omega
        exact ih _ (by omega) _ _ i70 i71 rfl
      · have c66 : x63.toInt < x37.toInt := ti_ge_n c66
        refine mp_a (a_aload_n dX7_hasSharp_62 rfl) (mpp 63 rfl ?_)
        refine mp_a (a_iload_n dX7_hasSharp_63 rfl) (mpp 64 rfl ?_)
        refine mp_a (a_iload_n dX7_hasSharp_64 rfl) (mpp 65 rfl ?_)
        have p72 : 0 ≤ t1.toInt := by omega
        have p73 : t1.toInt ≤ 7 := by omega
        have p74 : 0 ≤ v3.toInt := by omega
        have p75 : v3.toInt ≤ 7 := by omega
        refine mt_callv (i := 92) (q' := q_146) (As := [.int t1, .int v3]) (rest := []) hT dX7_hasSharp_65 rfl qm_146 (by decide) rfl rl_301 (by decide) rfl (Nat.le_of_ble_eq_true rfl) rfl ⟨rfl, rfl⟩ ⟨Nat.le_of_ble_eq_true rfl, Nat.le_of_ble_eq_true rfl⟩ (EvP.mono (by decide) (c_M_creaseOf hT p72 p73 p74 p75 )) (fun r76 P77 g78 => mpp 68 rfl ?_)
        obtain ⟨⟨x79, rfl, g80⟩, e81⟩ := g78
        have e81 := e81.symm
        subst e81
        have wx79 := ti_full x79
        have g80 : x79.toInt = (fv Po 302 (14 + 19 * t1.toInt.toNat + v3.toInt.toNat)).toInt := g80
        show MEvP _ none q_162 68 [(5, .int x37), (4, .int x20), (0, .ref 301), (1, .int t1), (2, .int v2), (3, .int v3)] [.int x79] _ _ _ _
        refine mp_a (a_aload_n dX7_hasSharp_68 rfl) (mpp 69 rfl ?_)
        refine mp_a (a_iload_n dX7_hasSharp_69 rfl) (mpp 70 rfl ?_)
        refine mp_a (a_iload_n dX7_hasSharp_70 rfl) (mpp 71 rfl ?_)
        refine mp_a (a_iconst (v := 1) dX7_hasSharp_71 rfl) (mpp 72 rfl ?_)
        obtain ⟨z82, h83⟩ := ti_ex (v3 + 1 : Int32)
        have wz82 := ti_full z82
        refine mp_t (s_iadd (v := z82) dX7_hasSharp_72 h83) (mpp 73 rfl ?_)
        try have e84 : z82.toInt = v3.toInt + 1 := ti_addz h83 rfl rfl (by omega) (by omega)
        refine mp_a (a_iload_n dX7_hasSharp_73 rfl) (mpp 74 rfl ?_)
        obtain ⟨z85, h86⟩ := ti_ex (z82 - z82 / v2 * v2 : Int32)
        have wz85 := ti_full z85
        have n87 : ¬ v2 = 0 := ti_n0 (by omega)
        try have e88 : 0 ≤ z85.toInt ∧ z85.toInt < v2.toInt := ti_rem h86 (show (0 : Int) ≤ z82.toInt by omega) (show (0 : Int) < v2.toInt by omega)
        refine mp_t (s_irem (v := z85) dX7_hasSharp_74 n87 h86) (mpp 75 rfl ?_)
        have p89 : 0 ≤ t1.toInt := by omega
        have p90 : t1.toInt ≤ 7 := by omega
        have p91 : 0 ≤ z85.toInt := by omega
        have p92 : z85.toInt ≤ 7 := by omega
        refine mt_callv (i := 92) (q' := q_146) (As := [.int t1, .int z85]) (rest := [.int x79]) hT dX7_hasSharp_75 rfl qm_146 (by decide) rfl rl_301 (by decide) rfl (Nat.le_of_ble_eq_true rfl) rfl ⟨rfl, rfl⟩ ⟨Nat.le_of_ble_eq_true rfl, Nat.le_of_ble_eq_true rfl⟩ (EvP.mono (by decide) (c_M_creaseOf hT p89 p90 p91 p92 )) (fun r93 P94 g95 => mpp 78 rfl ?_)
        obtain ⟨⟨x96, rfl, g97⟩, e98⟩ := g95
        have e98 := e98.symm
        subst e98
        have wx96 := ti_full x96
        have g97 : x96.toInt = (fv Po 302 (14 + 19 * t1.toInt.toNat + z85.toInt.toNat)).toInt := g97
        show MEvP _ none q_162 78 [(5, .int x37), (4, .int x20), (0, .ref 301), (1, .int t1), (2, .int v2), (3, .int v3)] [.int x96, .int x79] _ _ _ _
        refine mp_Tb (t := 83) (j_icmp_ne dX7_hasSharp_78) (by decide) (fun c99 => ?_) (fun c99 => mpp 81 rfl ?_)
        · have c99 : x79.toInt ≠ x96.toInt := ti_ne c99
          obtain ⟨z100, h101⟩ := ti_ex (v3 + 1 : Int32)
          have wz100 := ti_full z100
          refine mp_a (a_iinc (v := z100) (L' := [(3, .int z100), (5, .int x37), (4, .int x20), (0, .ref 301), (1, .int t1), (2, .int v2)]) dX7_hasSharp_83 (by decide) rfl h101 rfl) (mpp 86 rfl ?_)
          try have e102 : z100.toInt = v3.toInt + 1 := ti_addz h101 rfl rfl (by omega) (by omega)
          refine mp_a (a_goto (t := 9) dX7_hasSharp_86 (by decide)) ?_
          refine MEvP.less (L := [(0, .ref 301), (1, .int t1), (2, .int v2), (3, .int z100)]) rfl rfl ⟨rfl, rfl, rfl, rfl, trivial⟩ ?_
          have i103 : v2.toInt ≤ 8 := by omega
          have i104 : 0 ≤ z100.toInt := by omega
          exact ih _ (by omega) _ _ i103 i104 rfl
        · have c99 : x79.toInt = x96.toInt := ti_ne_n c99
          refine mp_a (a_iconst (v := 1) dX7_hasSharp_81 rfl) (mpp 82 rfl ?_)
          have u105 : 0 ≤ (1 : Int) ∧ (1 : Int) ≤ 1 := by omega
          exact mp_iret ⟨⟨_, rfl, u105⟩, rfl⟩ dX7_hasSharp_82 (Or.inr ⟨rfl, by decide⟩)

set_option maxHeartbeats 4000000 in
theorem c_M_hasSharp {Po : mP} {t1 : Int32} (hT : Typ Po)  (hp0 : 0 ≤ t1.toInt) (hp1 : t1.toInt ≤ 7)  : EvP 4 162 [.ref 301, .int t1] Po (fun r P' => (∃ x : Int32, r = some (.int x) ∧ (0 ≤ x.toInt ∧ x.toInt ≤ 1)) ∧ P' = Po) := by
  refine EvP.of qm_162 (Nat.le_of_ble_eq_true rfl) rfl ?_
  show MEvP _ none q_162 0 [(0, .ref 301), (1, .int t1)] [] _ 0 0 _
  refine mp_a (a_aload_n dX7_hasSharp_0 rfl) (mpp 1 rfl ?_)
  refine mp_a (a_iload_n dX7_hasSharp_1 rfl) (mpp 2 rfl ?_)
  refine mp_a (a_iconst (v := 1) dX7_hasSharp_2 rfl) (mpp 3 rfl ?_)
  have p1 : 0 ≤ t1.toInt := by omega
  have p2 : t1.toInt ≤ 7 := by omega
  have p3 : 0 ≤ (1 : Int) := by omega
  have p4 : (1 : Int) ≤ 18 := by omega
  refine mt_callv (i := 78) (q' := q_137) (As := [.int t1, .int 1]) (rest := []) hT dX7_hasSharp_3 rfl qm_137 (by decide) rfl rl_301 (by decide) rfl (Nat.le_of_ble_eq_true rfl) rfl ⟨rfl, rfl⟩ ⟨Nat.le_of_ble_eq_true rfl, Nat.le_of_ble_eq_true rfl⟩ (EvP.mono (by decide) (c_M_of_c1 hT p1 p2 p3 p4 )) (fun r5 P6 g7 => mpp 6 rfl ?_)
  obtain ⟨⟨x8, rfl, g9⟩, e10⟩ := g7
  have e10 := e10.symm
  subst e10
  have wx8 := ti_full x8
  have g9 : x8.toInt = (fv Po 302 (4 + 19 * t1.toInt.toNat)).toInt ∧ 0 ≤ x8.toInt ∧ x8.toInt ≤ 8 := g9
  have g11 := ti_full (fv Po 302 (4 + 19 * t1.toInt.toNat))
  show MEvP _ none q_162 6 [(0, .ref 301), (1, .int t1)] [.int x8] _ _ _ _
  refine mp_a (a_istore_n (L' := [(2, .int x8), (0, .ref 301), (1, .int t1)]) dX7_hasSharp_6 (by decide) rfl) (mpp 7 rfl ?_)
  refine mp_a (a_iconst (v := 0) dX7_hasSharp_7 rfl) (mpp 8 rfl ?_)
  refine mp_a (a_istore_n (L' := [(3, .int 0), (2, .int x8), (0, .ref 301), (1, .int t1)]) dX7_hasSharp_8 (by decide) rfl) (mpp 9 rfl ?_)
  refine MEvP.less (L := [(0, .ref 301), (1, .int t1), (2, .int x8), (3, .int 0)]) rfl rfl ⟨rfl, rfl, rfl, rfl, trivial⟩ ?_
  have i12 : x8.toInt ≤ 8 := by omega
  have i13 : 0 ≤ (0 : Int) := by omega
  exact c_M_hasSharp_l9 hT  hp0 hp1 _ _ _ i12 i13 rfl

set_option maxHeartbeats 4000000 in
theorem c_M_whyNot {Po : mP} {t1 : Int32} (hT : Typ Po)  (hp0 : 0 ≤ t1.toInt) (hp1 : t1.toInt ≤ 7)  : EvP 7 160 [.ref 301, .int t1] Po (fun r P' => (∃ x : Int32, r = some (.int x) ∧ (x.toInt ≠ 4 ∨ UD Po t1.toInt.toNat 0)) ∧ Typ P' ∧ KW [1101, 1102, 1536, 1600] Po P' ∧ True) := by
  refine EvP.of qm_160 (Nat.le_of_ble_eq_true rfl) rfl ?_
  show MEvP _ none q_160 0 [(0, .ref 301), (1, .int t1)] [] _ 0 0 _
  refine mp_a (a_aload_n dX7_whyNot_0 rfl) (mpp 1 rfl ?_)
  refine mp_a (a_iload_n dX7_whyNot_1 rfl) (mpp 2 rfl ?_)
  refine mp_a (a_iconst (v := 0) dX7_whyNot_2 rfl) (mpp 3 rfl ?_)
  have p1 : 0 ≤ t1.toInt := by omega
  have p2 : t1.toInt ≤ 7 := by omega
  refine mt_callv (i := 136) (q' := q_149) (As := [.int t1, .int 0]) (rest := []) hT dX7_whyNot_3 rfl qm_149 (by decide) rfl rl_301 (by decide) rfl (Nat.le_of_ble_eq_true rfl) rfl ⟨rfl, rfl⟩ ⟨Nat.le_of_ble_eq_true rfl, Nat.le_of_ble_eq_true rfl⟩ (EvP.mono (by decide) (c_M_countOf hT p1 p2 )) (fun r3 P4 g5 => mpp 6 rfl ?_)
  obtain ⟨⟨x6, rfl, g7⟩, e8⟩ := g5
  have e8 := e8.symm
  subst e8
  have wx6 := ti_full x6
  have g7 : (x6.toInt ≤ 0 ∨ UD Po t1.toInt.toNat (0 : Int)) ∧ 0 ≤ x6.toInt ∧ x6.toInt ≤ 8 := g7
  show MEvP _ none q_160 6 [(0, .ref 301), (1, .int t1)] [.int x6] _ _ _ _
  refine mp_Tb (t := 11) (j_if_le dX7_whyNot_6) (by decide) (fun c9 => ?_) (fun c9 => mpp 9 rfl ?_)
  · have c9 : x6.toInt ≤ 0 := ti_le c9
    refine mp_a (a_aload_n dX7_whyNot_11 rfl) (mpp 12 rfl ?_)
    refine mp_a (a_iload_n dX7_whyNot_12 rfl) (mpp 13 rfl ?_)
    have p10 : 0 ≤ t1.toInt := by omega
    have p11 : t1.toInt ≤ 7 := by omega
    refine mt_callv (i := 81) (q' := q_138) (As := [.int t1]) (rest := []) hT dX7_whyNot_13 rfl qm_138 (by decide) rfl rl_301 (by decide) rfl (Nat.le_of_ble_eq_true rfl) rfl ⟨rfl, rfl⟩ ⟨Nat.le_of_ble_eq_true rfl, Nat.le_of_ble_eq_true rfl⟩ (EvP.mono (by decide) (c_M_isCorner hT p10 p11 )) (fun r12 P13 g14 => mpp 16 rfl ?_)
    obtain ⟨⟨x15, rfl, g16⟩, e17⟩ := g14
    have e17 := e17.symm
    subst e17
    have wx15 := ti_full x15
    have g16 : 0 ≤ x15.toInt ∧ x15.toInt ≤ 1 ∧ ((x15.toInt = 1 ∧ (fv Po 302 (3 + 19 * t1.toInt.toNat)).toInt = 1) ∨ (x15.toInt = 0 ∧ (fv Po 302 (3 + 19 * t1.toInt.toNat)).toInt = 0)) := g16
    have g18 := ti_full (fv Po 302 (3 + 19 * t1.toInt.toNat))
    show MEvP _ none q_160 16 [(0, .ref 301), (1, .int t1)] [.int x15] _ _ _ _
    refine mp_Tb (t := 68) (j_if_eq dX7_whyNot_16) (by decide) (fun c19 => ?_) (fun c19 => mpp 19 rfl ?_)
    · have c19 : x15.toInt = 0 := ti_eq c19
      refine mp_a (a_aload_n dX7_whyNot_68 rfl) (mpp 69 rfl ?_)
      refine mp_a (a_iload_n dX7_whyNot_69 rfl) (mpp 70 rfl ?_)
      have p20 : 0 ≤ t1.toInt := by omega
      have p21 : t1.toInt ≤ 7 := by omega
      refine mt_callv (i := 209) (q' := q_163) (As := [.int t1]) (rest := []) hT dX7_whyNot_70 rfl qm_163 (by decide) rfl rl_301 (by decide) rfl (Nat.le_of_ble_eq_true rfl) rfl ⟨rfl, rfl⟩ ⟨Nat.le_of_ble_eq_true rfl, Nat.le_of_ble_eq_true rfl⟩ (EvP.mono (by decide) (c_M_foldsNow hT p20 p21 )) (fun r22 P23 g24 => mpp 73 rfl ?_)
      obtain ⟨⟨x25, rfl, g26⟩, hT27, k28, R29⟩ := g24
      have k30 : KW [1101, 1102, 1536, 1600] Po P23 := KW.trans KW.refl k28 rfl
      have wx25 := ti_full x25
      have g26 : 0 ≤ x25.toInt ∧ x25.toInt ≤ 1 := g26
      show MEvP _ none q_160 73 [(0, .ref 301), (1, .int t1)] [.int x25] _ _ _ _
      refine mp_Tb (t := 80) (j_if_eq dX7_whyNot_73) (by decide) (fun c32 => ?_) (fun c32 => mpp 76 rfl ?_)
      · have c32 : x25.toInt = 0 := ti_eq c32
        refine mp_a (a_iconst (v := 5) dX7_whyNot_80 rfl) (mpp 81 rfl ?_)
        have u33 : (5 : Int) ≠ 4 ∨ UD Po t1.toInt.toNat 0 := Or.inl (by omega)
        exact mp_iret ⟨⟨_, rfl, u33⟩, hT27, k30, trivial⟩ dX7_whyNot_81 (Or.inl rfl)
      · have c32 : x25.toInt ≠ 0 := ti_eq_n c32
        refine mp_a (a_iconst (v := 0) dX7_whyNot_76 rfl) (mpp 77 rfl ?_)
        refine mp_a (a_goto (t := 81) dX7_whyNot_77 (by decide)) ?_
        have u34 : (0 : Int) ≠ 4 ∨ UD Po t1.toInt.toNat 0 := Or.inl (by omega)
        exact mp_iret ⟨⟨_, rfl, u34⟩, hT27, k30, trivial⟩ dX7_whyNot_81 (Or.inl rfl)
    · have c19 : x15.toInt ≠ 0 := ti_eq_n c19
      refine mp_a (a_aload_n dX7_whyNot_19 rfl) (mpp 20 rfl ?_)
      refine mp_a (a_iload_n dX7_whyNot_20 rfl) (mpp 21 rfl ?_)
      refine mp_a (a_iconst (v := 1) dX7_whyNot_21 rfl) (mpp 22 rfl ?_)
      have p35 : 0 ≤ t1.toInt := by omega
      have p36 : t1.toInt ≤ 7 := by omega
      refine mt_callv (i := 136) (q' := q_149) (As := [.int t1, .int 1]) (rest := []) hT dX7_whyNot_22 rfl qm_149 (by decide) rfl rl_301 (by decide) rfl (Nat.le_of_ble_eq_true rfl) rfl ⟨rfl, rfl⟩ ⟨Nat.le_of_ble_eq_true rfl, Nat.le_of_ble_eq_true rfl⟩ (EvP.mono (by decide) (c_M_countOf hT p35 p36 )) (fun r37 P38 g39 => mpp 25 rfl ?_)
      obtain ⟨⟨x40, rfl, g41⟩, e42⟩ := g39
      have e42 := e42.symm
      subst e42
      have wx40 := ti_full x40
      have g41 : (x40.toInt ≤ 0 ∨ UD Po t1.toInt.toNat (1 : Int)) ∧ 0 ≤ x40.toInt ∧ x40.toInt ≤ 8 := g41
      show MEvP _ none q_160 25 [(0, .ref 301), (1, .int t1)] [.int x40] _ _ _ _
      refine mp_a (a_aload_n dX7_whyNot_25 rfl) (mpp 26 rfl ?_)
      refine mp_a (a_iload_n dX7_whyNot_26 rfl) (mpp 27 rfl ?_)
      refine mp_a (a_iconst (v := 2) dX7_whyNot_27 rfl) (mpp 28 rfl ?_)
      have p43 : 0 ≤ t1.toInt := by omega
      have p44 : t1.toInt ≤ 7 := by omega
      refine mt_callv (i := 136) (q' := q_149) (As := [.int t1, .int 2]) (rest := [.int x40]) hT dX7_whyNot_28 rfl qm_149 (by decide) rfl rl_301 (by decide) rfl (Nat.le_of_ble_eq_true rfl) rfl ⟨rfl, rfl⟩ ⟨Nat.le_of_ble_eq_true rfl, Nat.le_of_ble_eq_true rfl⟩ (EvP.mono (by decide) (c_M_countOf hT p43 p44 )) (fun r45 P46 g47 => mpp 31 rfl ?_)
      obtain ⟨⟨x48, rfl, g49⟩, e50⟩ := g47
      have e50 := e50.symm
      subst e50
      have wx48 := ti_full x48
      have g49 : (x48.toInt ≤ 0 ∨ UD Po t1.toInt.toNat (2 : Int)) ∧ 0 ≤ x48.toInt ∧ x48.toInt ≤ 8 := g49
      show MEvP _ none q_160 31 [(0, .ref 301), (1, .int t1)] [.int x48, .int x40] _ _ _ _
      obtain ⟨z51, h52⟩ := ti_ex (x40 - x48 : Int32)
      have wz51 := ti_full z51
      refine mp_t (s_isub (v := z51) dX7_whyNot_31 h52) (mpp 32 rfl ?_)
      try have e53 : z51.toInt = x40.toInt - x48.toInt := ti_subz h52 rfl rfl (by omega) (by omega)
      refine mp_a (a_istore_n (L' := [(2, .int z51), (0, .ref 301), (1, .int t1)]) dX7_whyNot_32 (by decide) rfl) (mpp 33 rfl ?_)
      refine mp_a (a_aload_n dX7_whyNot_33 rfl) (mpp 34 rfl ?_)
      refine mp_a (a_iload_n dX7_whyNot_34 rfl) (mpp 35 rfl ?_)
      have p54 : 0 ≤ t1.toInt := by omega
      have p55 : t1.toInt ≤ 7 := by omega
      refine mt_callv (i := 203) (q' := q_161) (As := [.int t1]) (rest := []) hT dX7_whyNot_35 rfl qm_161 (by decide) rfl rl_301 (by decide) rfl (Nat.le_of_ble_eq_true rfl) rfl ⟨rfl, rfl⟩ ⟨Nat.le_of_ble_eq_true rfl, Nat.le_of_ble_eq_true rfl⟩ (EvP.mono (by decide) (c_M_evenAngles hT p54 p55 )) (fun r56 P57 g58 => mpp 38 rfl ?_)
      obtain ⟨⟨x59, rfl, g60⟩, e61⟩ := g58
      have e61 := e61.symm
      subst e61
      have wx59 := ti_full x59
      show MEvP _ none q_160 38 [(2, .int z51), (0, .ref 301), (1, .int t1)] [.int x59] _ _ _ _
      refine mp_a (a_bipush (v := 12) dX7_whyNot_38 rfl) (mpp 40 rfl ?_)
      refine mp_Tb (t := 45) (j_icmp_eq dX7_whyNot_40) (by decide) (fun c62 => ?_) (fun c62 => mpp 43 rfl ?_)
      · have c62 : x59.toInt = 12 := ti_eq c62
        refine mp_a (a_iload_n dX7_whyNot_45 rfl) (mpp 46 rfl ?_)
        refine mp_a (a_iconst (v := 2) dX7_whyNot_46 rfl) (mpp 47 rfl ?_)
        refine mp_Tb (t := 58) (j_icmp_eq dX7_whyNot_47) (by decide) (fun c63 => ?_) (fun c63 => mpp 50 rfl ?_)
        · have c63 : z51.toInt = 2 := ti_eq c63
          refine mp_a (a_aload_n dX7_whyNot_58 rfl) (mpp 59 rfl ?_)
          refine mp_a (a_iload_n dX7_whyNot_59 rfl) (mpp 60 rfl ?_)
          have p64 : 0 ≤ t1.toInt := by omega
          have p65 : t1.toInt ≤ 7 := by omega
          refine mt_callv (i := 206) (q' := q_162) (As := [.int t1]) (rest := []) hT dX7_whyNot_60 rfl qm_162 (by decide) rfl rl_301 (by decide) rfl (Nat.le_of_ble_eq_true rfl) rfl ⟨rfl, rfl⟩ ⟨Nat.le_of_ble_eq_true rfl, Nat.le_of_ble_eq_true rfl⟩ (EvP.mono (by decide) (c_M_hasSharp hT p64 p65 )) (fun r66 P67 g68 => mpp 63 rfl ?_)
          obtain ⟨⟨x69, rfl, g70⟩, e71⟩ := g68
          have e71 := e71.symm
          subst e71
          have wx69 := ti_full x69
          have g70 : 0 ≤ x69.toInt ∧ x69.toInt ≤ 1 := g70
          show MEvP _ none q_160 63 [(2, .int z51), (0, .ref 301), (1, .int t1)] [.int x69] _ _ _ _
          refine mp_Tb (t := 68) (j_if_eq dX7_whyNot_63) (by decide) (fun c72 => ?_) (fun c72 => mpp 66 rfl ?_)
          · have c72 : x69.toInt = 0 := ti_eq c72
            refine mp_a (a_aload_n dX7_whyNot_68 rfl) (mpp 69 rfl ?_)
            refine mp_a (a_iload_n dX7_whyNot_69 rfl) (mpp 70 rfl ?_)
            have p73 : 0 ≤ t1.toInt := by omega
            have p74 : t1.toInt ≤ 7 := by omega
            refine mt_callv (i := 209) (q' := q_163) (As := [.int t1]) (rest := []) hT dX7_whyNot_70 rfl qm_163 (by decide) rfl rl_301 (by decide) rfl (Nat.le_of_ble_eq_true rfl) rfl ⟨rfl, rfl⟩ ⟨Nat.le_of_ble_eq_true rfl, Nat.le_of_ble_eq_true rfl⟩ (EvP.mono (by decide) (c_M_foldsNow hT p73 p74 )) (fun r75 P76 g77 => mpp 73 rfl ?_)
            obtain ⟨⟨x78, rfl, g79⟩, hT80, k81, R82⟩ := g77
            have k83 : KW [1101, 1102, 1536, 1600] Po P76 := KW.trans KW.refl k81 rfl
            have wx78 := ti_full x78
            have g79 : 0 ≤ x78.toInt ∧ x78.toInt ≤ 1 := g79
            show MEvP _ none q_160 73 [(2, .int z51), (0, .ref 301), (1, .int t1)] [.int x78] _ _ _ _
            refine mp_Tb (t := 80) (j_if_eq dX7_whyNot_73) (by decide) (fun c85 => ?_) (fun c85 => mpp 76 rfl ?_)
            · have c85 : x78.toInt = 0 := ti_eq c85
              refine mp_a (a_iconst (v := 5) dX7_whyNot_80 rfl) (mpp 81 rfl ?_)
              have u86 : (5 : Int) ≠ 4 ∨ UD Po t1.toInt.toNat 0 := Or.inl (by omega)
              exact mp_iret ⟨⟨_, rfl, u86⟩, hT80, k83, trivial⟩ dX7_whyNot_81 (Or.inl rfl)
            · have c85 : x78.toInt ≠ 0 := ti_eq_n c85
              refine mp_a (a_iconst (v := 0) dX7_whyNot_76 rfl) (mpp 77 rfl ?_)
              refine mp_a (a_goto (t := 81) dX7_whyNot_77 (by decide)) ?_
              have u87 : (0 : Int) ≠ 4 ∨ UD Po t1.toInt.toNat 0 := Or.inl (by omega)
              exact mp_iret ⟨⟨_, rfl, u87⟩, hT80, k83, trivial⟩ dX7_whyNot_81 (Or.inl rfl)
          · have c72 : x69.toInt ≠ 0 := ti_eq_n c72
            refine mp_a (a_iconst (v := 3) dX7_whyNot_66 rfl) (mpp 67 rfl ?_)
            have u88 : (3 : Int) ≠ 4 ∨ UD Po t1.toInt.toNat 0 := Or.inl (by omega)
            exact mp_iret ⟨⟨_, rfl, u88⟩, hT, KW.refl, trivial⟩ dX7_whyNot_67 (Or.inl rfl)
        · have c63 : z51.toInt ≠ 2 := ti_eq_n c63
          refine mp_a (a_iload_n dX7_whyNot_50 rfl) (mpp 51 rfl ?_)
          refine mp_a (a_bipush (v := -2) dX7_whyNot_51 rfl) (mpp 53 rfl ?_)
          refine mp_Tb (t := 58) (j_icmp_eq dX7_whyNot_53) (by decide) (fun c89 => ?_) (fun c89 => mpp 56 rfl ?_)
          · have c89 : z51.toInt = (-2) := ti_eq c89
            refine mp_a (a_aload_n dX7_whyNot_58 rfl) (mpp 59 rfl ?_)
            refine mp_a (a_iload_n dX7_whyNot_59 rfl) (mpp 60 rfl ?_)
            have p90 : 0 ≤ t1.toInt := by omega
            have p91 : t1.toInt ≤ 7 := by omega
            refine mt_callv (i := 206) (q' := q_162) (As := [.int t1]) (rest := []) hT dX7_whyNot_60 rfl qm_162 (by decide) rfl rl_301 (by decide) rfl (Nat.le_of_ble_eq_true rfl) rfl ⟨rfl, rfl⟩ ⟨Nat.le_of_ble_eq_true rfl, Nat.le_of_ble_eq_true rfl⟩ (EvP.mono (by decide) (c_M_hasSharp hT p90 p91 )) (fun r92 P93 g94 => mpp 63 rfl ?_)
            obtain ⟨⟨x95, rfl, g96⟩, e97⟩ := g94
            have e97 := e97.symm
            subst e97
            have wx95 := ti_full x95
            have g96 : 0 ≤ x95.toInt ∧ x95.toInt ≤ 1 := g96
            show MEvP _ none q_160 63 [(2, .int z51), (0, .ref 301), (1, .int t1)] [.int x95] _ _ _ _
            refine mp_Tb (t := 68) (j_if_eq dX7_whyNot_63) (by decide) (fun c98 => ?_) (fun c98 => mpp 66 rfl ?_)
            · have c98 : x95.toInt = 0 := ti_eq c98
              refine mp_a (a_aload_n dX7_whyNot_68 rfl) (mpp 69 rfl ?_)
              refine mp_a (a_iload_n dX7_whyNot_69 rfl) (mpp 70 rfl ?_)
              have p99 : 0 ≤ t1.toInt := by omega
              have p100 : t1.toInt ≤ 7 := by omega
              refine mt_callv (i := 209) (q' := q_163) (As := [.int t1]) (rest := []) hT dX7_whyNot_70 rfl qm_163 (by decide) rfl rl_301 (by decide) rfl (Nat.le_of_ble_eq_true rfl) rfl ⟨rfl, rfl⟩ ⟨Nat.le_of_ble_eq_true rfl, Nat.le_of_ble_eq_true rfl⟩ (EvP.mono (by decide) (c_M_foldsNow hT p99 p100 )) (fun r101 P102 g103 => mpp 73 rfl ?_)
              obtain ⟨⟨x104, rfl, g105⟩, hT106, k107, R108⟩ := g103
              have k109 : KW [1101, 1102, 1536, 1600] Po P102 := KW.trans KW.refl k107 rfl
              have wx104 := ti_full x104
              have g105 : 0 ≤ x104.toInt ∧ x104.toInt ≤ 1 := g105
              show MEvP _ none q_160 73 [(2, .int z51), (0, .ref 301), (1, .int t1)] [.int x104] _ _ _ _
              refine mp_Tb (t := 80) (j_if_eq dX7_whyNot_73) (by decide) (fun c111 => ?_) (fun c111 => mpp 76 rfl ?_)
              · have c111 : x104.toInt = 0 := ti_eq c111
                refine mp_a (a_iconst (v := 5) dX7_whyNot_80 rfl) (mpp 81 rfl ?_)
                have u112 : (5 : Int) ≠ 4 ∨ UD Po t1.toInt.toNat 0 := Or.inl (by omega)
                exact mp_iret ⟨⟨_, rfl, u112⟩, hT106, k109, trivial⟩ dX7_whyNot_81 (Or.inl rfl)
              · have c111 : x104.toInt ≠ 0 := ti_eq_n c111
                refine mp_a (a_iconst (v := 0) dX7_whyNot_76 rfl) (mpp 77 rfl ?_)
                refine mp_a (a_goto (t := 81) dX7_whyNot_77 (by decide)) ?_
                have u113 : (0 : Int) ≠ 4 ∨ UD Po t1.toInt.toNat 0 := Or.inl (by omega)
                exact mp_iret ⟨⟨_, rfl, u113⟩, hT106, k109, trivial⟩ dX7_whyNot_81 (Or.inl rfl)
            · have c98 : x95.toInt ≠ 0 := ti_eq_n c98
              refine mp_a (a_iconst (v := 3) dX7_whyNot_66 rfl) (mpp 67 rfl ?_)
              have u114 : (3 : Int) ≠ 4 ∨ UD Po t1.toInt.toNat 0 := Or.inl (by omega)
              exact mp_iret ⟨⟨_, rfl, u114⟩, hT, KW.refl, trivial⟩ dX7_whyNot_67 (Or.inl rfl)
          · have c89 : z51.toInt ≠ (-2) := ti_eq_n c89
            refine mp_a (a_iconst (v := 2) dX7_whyNot_56 rfl) (mpp 57 rfl ?_)
            have u115 : (2 : Int) ≠ 4 ∨ UD Po t1.toInt.toNat 0 := Or.inl (by omega)
            exact mp_iret ⟨⟨_, rfl, u115⟩, hT, KW.refl, trivial⟩ dX7_whyNot_57 (Or.inl rfl)
      · have c62 : x59.toInt ≠ 12 := ti_eq_n c62
        refine mp_a (a_iconst (v := 1) dX7_whyNot_43 rfl) (mpp 44 rfl ?_)
        have u116 : (1 : Int) ≠ 4 ∨ UD Po t1.toInt.toNat 0 := Or.inl (by omega)
        exact mp_iret ⟨⟨_, rfl, u116⟩, hT, KW.refl, trivial⟩ dX7_whyNot_44 (Or.inl rfl)
  · have c9 : x6.toInt > 0 := ti_le_n c9
    refine mp_a (a_iconst (v := 4) dX7_whyNot_9 rfl) (mpp 10 rfl ?_)
    have u117 : (4 : Int) ≠ 4 ∨ UD Po t1.toInt.toNat 0 := Or.inr (g7.1.resolve_left (by omega))
    exact mp_iret ⟨⟨_, rfl, u117⟩, hT, KW.refl, trivial⟩ dX7_whyNot_10 (Or.inl rfl)

set_option maxHeartbeats 4000000 in
theorem c_M_lowestOpen_l2 {Po : mP} {t1 : Int32} (hT : Typ Po)  (hp0 : 0 ≤ t1.toInt) (hp1 : t1.toInt ≤ 7) (hp2 : UD Po t1.toInt.toNat 0)  : ∀ (n : Nat) (v2 : Int32), (UDf Po t1.toInt.toNat v2.toInt.toNat) → (v2.toInt ≤ 7) → (0 ≤ v2.toInt) → (2147483647 - v2.toInt).toNat = n → MEvP 3 none q_189 2 [(0, .ref 301), (1, .int t1), (2, .int v2)] [] Po 0 0 (fun r P' => (∃ x : Int32, r = some (.int x) ∧ (True)) ∧ P' = Po) := by
  intro n
  induction n using Nat.strongRecOn with | _ n ih => ?_
  intro v2 i_0 i_1 i_2 hm
  have w_t1 := ti_full t1
  have w_v2 := ti_full v2
  refine mp_a (a_aload_n dX7_lowestOpen_2 rfl) (mpp 3 rfl ?_)
  refine mp_a (a_iload_n dX7_lowestOpen_3 rfl) (mpp 4 rfl ?_)
  refine mp_a (a_iload_n dX7_lowestOpen_4 rfl) (mpp 5 rfl ?_)
  have p1 : 0 ≤ t1.toInt := by omega
  have p2 : t1.toInt ≤ 7 := by omega
  have p3 : 0 ≤ v2.toInt := by omega
  have p4 : v2.toInt ≤ 7 := by omega
  refine mt_callv (i := 92) (q' := q_146) (As := [.int t1, .int v2]) (rest := []) hT dX7_lowestOpen_5 rfl qm_146 (by decide) rfl rl_301 (by decide) rfl (Nat.le_of_ble_eq_true rfl) rfl ⟨rfl, rfl⟩ ⟨Nat.le_of_ble_eq_true rfl, Nat.le_of_ble_eq_true rfl⟩ (EvP.mono (by decide) (c_M_creaseOf hT p1 p2 p3 p4 )) (fun r5 P6 g7 => mpp 8 rfl ?_)
  obtain ⟨⟨x8, rfl, g9⟩, e10⟩ := g7
  have e10 := e10.symm
  subst e10
  have wx8 := ti_full x8
  have g9 : x8.toInt = (fv Po 302 (14 + 19 * t1.toInt.toNat + v2.toInt.toNat)).toInt := g9
  show MEvP _ none q_189 8 [(0, .ref 301), (1, .int t1), (2, .int v2)] [.int x8] _ _ _ _
  refine mp_Tb (t := 17) (j_if_eq dX7_lowestOpen_8) (by decide) (fun c11 => ?_) (fun c11 => mpp 11 rfl ?_)
  · have c11 : x8.toInt = 0 := ti_eq c11
    refine mp_a (a_iload_n dX7_lowestOpen_17 rfl) (mpp 18 rfl ?_)
    exact mp_iret ⟨⟨_, rfl, trivial⟩, rfl⟩ dX7_lowestOpen_18 (Or.inl rfl)
  · have c11 : x8.toInt ≠ 0 := ti_eq_n c11
    obtain ⟨z12, h13⟩ := ti_ex (v2 + 1 : Int32)
    have wz12 := ti_full z12
    refine mp_a (a_iinc (v := z12) (L' := [(2, .int z12), (0, .ref 301), (1, .int t1)]) dX7_lowestOpen_11 (by decide) rfl h13 rfl) (mpp 14 rfl ?_)
    try have e14 : z12.toInt = v2.toInt + 1 := ti_addz h13 rfl rfl (by omega) (by omega)
    refine mp_a (a_goto (t := 2) dX7_lowestOpen_14 (by decide)) ?_
    refine MEvP.less (L := [(0, .ref 301), (1, .int t1), (2, .int z12)]) rfl rfl ⟨rfl, rfl, rfl, trivial⟩ ?_
    have i15 : UDf Po t1.toInt.toNat z12.toInt.toNat := UDf.next i_0 (by omega) (by omega)
    have i16 : z12.toInt ≤ 7 := by obtain ⟨j, h1, h2, -⟩ := i15; omega
    have i17 : 0 ≤ z12.toInt := by omega
    exact ih _ (by omega) _ i15 i16 i17 rfl

set_option maxHeartbeats 4000000 in
theorem c_M_lowestOpen {Po : mP} {t1 : Int32} (hT : Typ Po)  (hp0 : 0 ≤ t1.toInt) (hp1 : t1.toInt ≤ 7) (hp2 : UD Po t1.toInt.toNat 0)  : EvP 4 189 [.ref 301, .int t1] Po (fun r P' => (∃ x : Int32, r = some (.int x) ∧ (True)) ∧ P' = Po) := by
  refine EvP.of qm_189 (Nat.le_of_ble_eq_true rfl) rfl ?_
  show MEvP _ none q_189 0 [(0, .ref 301), (1, .int t1)] [] _ 0 0 _
  refine mp_a (a_iconst (v := 0) dX7_lowestOpen_0 rfl) (mpp 1 rfl ?_)
  refine mp_a (a_istore_n (L' := [(2, .int 0), (0, .ref 301), (1, .int t1)]) dX7_lowestOpen_1 (by decide) rfl) (mpp 2 rfl ?_)
  refine MEvP.less (L := [(0, .ref 301), (1, .int t1), (2, .int 0)]) rfl rfl ⟨rfl, rfl, rfl, trivial⟩ ?_
  have i1 : UDf Po t1.toInt.toNat (0 : Int).toNat := UDf.start hp2 (by decide)
  have i2 : (0 : Int) ≤ 7 := by obtain ⟨j, h1, h2, -⟩ := i1; omega
  have i3 : 0 ≤ (0 : Int) := by omega
  exact c_M_lowestOpen_l2 hT  hp0 hp1 hp2 _ _ i1 i2 i3 rfl

