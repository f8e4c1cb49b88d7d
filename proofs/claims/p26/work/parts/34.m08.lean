/-! methods on typed pools, 8 (written by a program) -/
set_option maxHeartbeats 4000000 in
theorem c_CP_sum_NPiece {Po : mP} {a0_ : Nat} (hT : Typ Po)  (ha0 : rl a0_ = 33) : EvP 2 23 [.ref a0_] Po (fun r P' => (∃ x : Int32, r = some (.int x) ∧ (True)) ∧ P' = Po) := by
  refine EvP.of qm_23 (Nat.le_of_ble_eq_true rfl) rfl ?_
  show MEvP _ none q_23 0 [(0, .ref a0_)] [] _ 0 0 _
  refine mp_a (a_iconst (v := 0) dX2_sum_0 rfl) (mpp 1 rfl ?_)
  refine mp_a (a_istore_n (L' := [(1, .int 0), (0, .ref a0_)]) dX2_sum_1 (by decide) rfl) (mpp 2 rfl ?_)
  refine mp_a (a_iconst (v := 0) dX2_sum_2 rfl) (mpp 3 rfl ?_)
  refine mp_a (a_istore_n (L' := [(2, .int 0), (1, .int 0), (0, .ref a0_)]) dX2_sum_3 (by decide) rfl) (mpp 4 rfl ?_)
  refine MEvP.less (L := [(0, .ref a0_), (1, .int 0), (2, .int 0)]) rfl rfl ⟨rfl, rfl, rfl, trivial⟩ ?_
  have i1 : 0 ≤ (0 : Int) := by omega
  exact c_CP_sum_NPiece_l4 hT  ha0 _ _ _ i1 rfl

set_option maxHeartbeats 4000000 in
theorem c_F_piece {Po : mP} {t1 : Int32} {t2 : Int32} (hT : Typ Po)   : EvP 4 58 [.ref 0, .int t1, .int t2] Po (fun r P' => (∃ x : Int32, r = some (.int x) ∧ (True)) ∧ P' = Po) := by
  refine EvP.of qm_58 (Nat.le_of_ble_eq_true rfl) rfl ?_
  show MEvP _ none q_58 0 [(0, .ref 0), (1, .int t1), (2, .int t2)] [] _ 0 0 _
  refine mp_a (a_aload_n dX6_piece_0 rfl) (mpp 1 rfl ?_)
  refine mt_getU (i := 10) (k := 0) (A := 1) hT dX6_piece_1 rfl rl_0 (by decide) rfl (by decide) rfl un_31 (mpp 4 rfl ?_)
  refine mp_a (a_iload_n dX6_piece_4 rfl) (mpp 5 rfl ?_)
  refine mt_callv (i := 94) (q' := q_9) (As := [.int t1]) (rest := []) hT dX6_piece_5 rfl qm_9 (by decide) rfl rl_1 (by decide) rfl (Nat.le_of_ble_eq_true rfl) rfl ⟨rfl, rfl⟩ ⟨Nat.le_of_ble_eq_true rfl, Nat.le_of_ble_eq_true rfl⟩ (EvP.mono (by decide) (c_CS_pieceAt_NState hT )) (fun r1 P2 g3 => mpp 8 rfl ?_)
  obtain ⟨g3, e4⟩ := g3
  have e4 := e4.symm
  subst e4
  rcases g3 with rfl | ⟨b5, rfl, q6, q6r⟩
  · show MEvP _ none q_58 8 [(0, .ref 0), (1, .int t1), (2, .int t2)] [.null] _ _ _ _
    refine mp_a (a_astore_nN (L' := [(3, .null), (0, .ref 0), (1, .int t1), (2, .int t2)]) dX6_piece_8 (by decide) rfl) (mpp 9 rfl ?_)
    refine mp_a (a_aload_nN dX6_piece_9 rfl) (mpp 10 rfl ?_)
    refine mp_t (s_ifnonnullN dX6_piece_10) (mpp 13 rfl ?_)
    refine mp_a (a_sipush (v := -1001) dX6_piece_13 rfl) (mpp 16 rfl ?_)
    exact mp_iret ⟨⟨_, rfl, trivial⟩, rfl⟩ dX6_piece_16 (Or.inl rfl)
  · show MEvP _ none q_58 8 [(0, .ref 0), (1, .int t1), (2, .int t2)] [.ref b5] _ _ _ _
    refine mp_a (a_astore_n (L' := [(3, .ref b5), (0, .ref 0), (1, .int t1), (2, .int t2)]) dX6_piece_8 (by decide) rfl) (mpp 9 rfl ?_)
    refine mp_a (a_aload_n dX6_piece_9 rfl) (mpp 10 rfl ?_)
    refine mp_t (s_ifnonnullR (t := 17) dX6_piece_10 (by decide)) ?_
    refine mp_a (a_iload_n dX6_piece_17 rfl) (mpp 18 rfl ?_)
    have c7 : (t2.toInt < 0 ∨ 8 < t2.toInt) ∨ t2.toInt = 0 ∨ t2.toInt = 1 ∨ t2.toInt = 2 ∨ t2.toInt = 3 ∨ t2.toInt = 4 ∨ t2.toInt = 5 ∨ t2.toInt = 6 ∨ t2.toInt = 7 ∨ t2.toInt = 8 := by omega
    rcases c7 with c7 | c7 | c7 | c7 | c7 | c7 | c7 | c7 | c7 | c7
    · refine mp_t (s_tabOut (t := 124) dX6_piece_18 c7 (by decide)) ?_
      refine mp_a (a_sipush (v := -1002) dX6_piece_124 rfl) (mpp 127 rfl ?_)
      exact mp_iret ⟨⟨_, rfl, trivial⟩, rfl⟩ dX6_piece_127 (Or.inl rfl)
    · refine mp_t (s_tabIn (t := 68) (off := 50) dX6_piece_18 (by omega) (by rw [c7]; rfl) (by decide)) ?_
      refine mp_a (a_aload_n dX6_piece_68 rfl) (mpp 69 rfl ?_)
      have g8 := ti_full (fv Po b5 0)
      refine mt_getI (i := 130) (k := 0) hT dX6_piece_69 rfl q6 (by decide) rfl (by decide) rfl (fun g9 g10 => mpp 72 rfl ?_)
      exact mp_iret ⟨⟨_, rfl, trivial⟩, rfl⟩ dX6_piece_72 (Or.inl rfl)
    · refine mp_t (s_tabIn (t := 73) (off := 55) dX6_piece_18 (by omega) (by rw [c7]; rfl) (by decide)) ?_
      refine mp_a (a_aload_n dX6_piece_73 rfl) (mpp 74 rfl ?_)
      have g11 : (0 : Int) ≤ (fv Po b5 1).toInt ∧ (fv Po b5 1).toInt ≤ 8 := Typ.rng hT q6 (by decide) (by decide) rfl
      refine mt_getI (i := 143) (k := 1) hT dX6_piece_74 rfl q6 (by decide) rfl (by decide) rfl (fun g12 g13 => mpp 77 rfl ?_)
      exact mp_iret ⟨⟨_, rfl, trivial⟩, rfl⟩ dX6_piece_77 (Or.inl rfl)
    · refine mp_t (s_tabIn (t := 78) (off := 60) dX6_piece_18 (by omega) (by rw [c7]; rfl) (by decide)) ?_
      refine mp_a (a_aload_n dX6_piece_78 rfl) (mpp 79 rfl ?_)
      refine mt_callv (i := 123) (q' := q_25) (As := []) (rest := []) hT dX6_piece_79 rfl qm_25 (by decide) rfl q6 (by decide) rfl (Nat.le_of_ble_eq_true rfl) rfl ⟨rfl, rfl⟩ ⟨Nat.le_of_ble_eq_true rfl, Nat.le_of_ble_eq_true rfl⟩ (EvP.mono (by decide) (c_CP_creaseCount_NPiece hT q6)) (fun r14 P15 g16 => mpp 82 rfl ?_)
      obtain ⟨⟨x17, rfl, g18⟩, e19⟩ := g16
      have e19 := e19.symm
      subst e19
      have wx17 := ti_full x17
      have g18 : -1 ≤ x17.toInt ∧ x17.toInt ≤ (fv Po b5 1).toInt := g18
      have g20 : (0 : Int) ≤ (fv Po b5 1).toInt ∧ (fv Po b5 1).toInt ≤ 8 := Typ.rng hT q6 (by decide) (by decide) rfl
      show MEvP _ none q_58 82 [(3, .ref b5), (0, .ref 0), (1, .int t1), (2, .int t2)] [.int x17] _ _ _ _
      exact mp_iret ⟨⟨_, rfl, trivial⟩, rfl⟩ dX6_piece_82 (Or.inl rfl)
    · refine mp_t (s_tabIn (t := 83) (off := 65) dX6_piece_18 (by omega) (by rw [c7]; rfl) (by decide)) ?_
      refine mp_a (a_aload_n dX6_piece_83 rfl) (mpp 84 rfl ?_)
      refine mp_a (a_iconst (v := 1) dX6_piece_84 rfl) (mpp 85 rfl ?_)
      refine mt_callv (i := 126) (q' := q_32) (As := [.int 1]) (rest := []) hT dX6_piece_85 rfl qm_32 (by decide) rfl q6 (by decide) rfl (Nat.le_of_ble_eq_true rfl) rfl ⟨rfl, rfl⟩ ⟨Nat.le_of_ble_eq_true rfl, Nat.le_of_ble_eq_true rfl⟩ (EvP.mono (by decide) (c_CP_countOf_NPiece hT q6)) (fun r21 P22 g23 => mpp 88 rfl ?_)
      obtain ⟨⟨x24, rfl, g25⟩, e26⟩ := g23
      have e26 := e26.symm
      subst e26
      have wx24 := ti_full x24
      have g25 : 0 ≤ x24.toInt ∧ x24.toInt ≤ 8 := g25
      show MEvP _ none q_58 88 [(3, .ref b5), (0, .ref 0), (1, .int t1), (2, .int t2)] [.int x24] _ _ _ _
      exact mp_iret ⟨⟨_, rfl, trivial⟩, rfl⟩ dX6_piece_88 (Or.inl rfl)
    · refine mp_t (s_tabIn (t := 89) (off := 71) dX6_piece_18 (by omega) (by rw [c7]; rfl) (by decide)) ?_
      refine mp_a (a_aload_n dX6_piece_89 rfl) (mpp 90 rfl ?_)
      refine mp_a (a_iconst (v := 2) dX6_piece_90 rfl) (mpp 91 rfl ?_)
      refine mt_callv (i := 126) (q' := q_32) (As := [.int 2]) (rest := []) hT dX6_piece_91 rfl qm_32 (by decide) rfl q6 (by decide) rfl (Nat.le_of_ble_eq_true rfl) rfl ⟨rfl, rfl⟩ ⟨Nat.le_of_ble_eq_true rfl, Nat.le_of_ble_eq_true rfl⟩ (EvP.mono (by decide) (c_CP_countOf_NPiece hT q6)) (fun r27 P28 g29 => mpp 94 rfl ?_)
      obtain ⟨⟨x30, rfl, g31⟩, e32⟩ := g29
      have e32 := e32.symm
      subst e32
      have wx30 := ti_full x30
      have g31 : 0 ≤ x30.toInt ∧ x30.toInt ≤ 8 := g31
      show MEvP _ none q_58 94 [(3, .ref b5), (0, .ref 0), (1, .int t1), (2, .int t2)] [.int x30] _ _ _ _
      exact mp_iret ⟨⟨_, rfl, trivial⟩, rfl⟩ dX6_piece_94 (Or.inl rfl)
    · refine mp_t (s_tabIn (t := 95) (off := 77) dX6_piece_18 (by omega) (by rw [c7]; rfl) (by decide)) ?_
      refine mp_a (a_aload_n dX6_piece_95 rfl) (mpp 96 rfl ?_)
      refine mp_a (a_iconst (v := 0) dX6_piece_96 rfl) (mpp 97 rfl ?_)
      refine mt_callv (i := 126) (q' := q_32) (As := [.int 0]) (rest := []) hT dX6_piece_97 rfl qm_32 (by decide) rfl q6 (by decide) rfl (Nat.le_of_ble_eq_true rfl) rfl ⟨rfl, rfl⟩ ⟨Nat.le_of_ble_eq_true rfl, Nat.le_of_ble_eq_true rfl⟩ (EvP.mono (by decide) (c_CP_countOf_NPiece hT q6)) (fun r33 P34 g35 => mpp 100 rfl ?_)
      obtain ⟨⟨x36, rfl, g37⟩, e38⟩ := g35
      have e38 := e38.symm
      subst e38
      have wx36 := ti_full x36
      have g37 : 0 ≤ x36.toInt ∧ x36.toInt ≤ 8 := g37
      show MEvP _ none q_58 100 [(3, .ref b5), (0, .ref 0), (1, .int t1), (2, .int t2)] [.int x36] _ _ _ _
      exact mp_iret ⟨⟨_, rfl, trivial⟩, rfl⟩ dX6_piece_100 (Or.inl rfl)
    · refine mp_t (s_tabIn (t := 101) (off := 83) dX6_piece_18 (by omega) (by rw [c7]; rfl) (by decide)) ?_
      refine mp_a (a_aload_n dX6_piece_101 rfl) (mpp 102 rfl ?_)
      refine mt_callv (i := 175) (q' := q_23) (As := []) (rest := []) hT dX6_piece_102 rfl qm_23 (by decide) rfl q6 (by decide) rfl (Nat.le_of_ble_eq_true rfl) rfl ⟨rfl, rfl⟩ ⟨Nat.le_of_ble_eq_true rfl, Nat.le_of_ble_eq_true rfl⟩ (EvP.mono (by decide) (c_CP_sum_NPiece hT q6)) (fun r39 P40 g41 => mpp 105 rfl ?_)
      obtain ⟨⟨x42, rfl, g43⟩, e44⟩ := g41
      have e44 := e44.symm
      subst e44
      have wx42 := ti_full x42
      show MEvP _ none q_58 105 [(3, .ref b5), (0, .ref 0), (1, .int t1), (2, .int t2)] [.int x42] _ _ _ _
      exact mp_iret ⟨⟨_, rfl, trivial⟩, rfl⟩ dX6_piece_105 (Or.inl rfl)
    · refine mp_t (s_tabIn (t := 106) (off := 88) dX6_piece_18 (by omega) (by rw [c7]; rfl) (by decide)) ?_
      refine mp_a (a_aload_n dX6_piece_106 rfl) (mpp 107 rfl ?_)
      have g45 : (0 : Int) ≤ (fv Po b5 2).toInt ∧ (fv Po b5 2).toInt ≤ 1 := Typ.rng hT q6 (by decide) (by decide) rfl
      refine mt_getI (i := 104) (k := 2) hT dX6_piece_107 rfl q6 (by decide) rfl (by decide) rfl (fun g46 g47 => mpp 110 rfl ?_)
      refine mp_Tb (t := 117) (j_if_eq dX6_piece_110) (by decide) (fun c48 => ?_) (fun c48 => mpp 113 rfl ?_)
      · have c48 : (fv Po b5 2).toInt = 0 := ti_eq c48
        refine mp_a (a_iconst (v := 0) dX6_piece_117 rfl) (mpp 118 rfl ?_)
        exact mp_iret ⟨⟨_, rfl, trivial⟩, rfl⟩ dX6_piece_118 (Or.inl rfl)
      · have c48 : (fv Po b5 2).toInt ≠ 0 := ti_eq_n c48
        refine mp_a (a_iconst (v := 1) dX6_piece_113 rfl) (mpp 114 rfl ?_)
        refine mp_a (a_goto (t := 118) dX6_piece_114 (by decide)) ?_
        exact mp_iret ⟨⟨_, rfl, trivial⟩, rfl⟩ dX6_piece_118 (Or.inl rfl)
    · refine mp_t (s_tabIn (t := 119) (off := 101) dX6_piece_18 (by omega) (by rw [c7]; rfl) (by decide)) ?_
      refine mp_a (a_aload_n dX6_piece_119 rfl) (mpp 120 rfl ?_)
      refine mt_callv (i := 170) (q' := q_10) (As := []) (rest := []) hT dX6_piece_120 rfl qm_10 (by decide) rfl q6 (by decide) rfl (Nat.le_of_ble_eq_true rfl) rfl ⟨rfl, rfl⟩ ⟨Nat.le_of_ble_eq_true rfl, Nat.le_of_ble_eq_true rfl⟩ (EvP.mono (by decide) (c_CP_width_NPiece hT q6)) (fun r49 P50 g51 => mpp 123 rfl ?_)
      obtain ⟨⟨x52, rfl, g53⟩, e54⟩ := g51
      have e54 := e54.symm
      subst e54
      have wx52 := ti_full x52
      show MEvP _ none q_58 123 [(3, .ref b5), (0, .ref 0), (1, .int t1), (2, .int t2)] [.int x52] _ _ _ _
      exact mp_iret ⟨⟨_, rfl, trivial⟩, rfl⟩ dX6_piece_123 (Or.inl rfl)

set_option maxHeartbeats 4000000 in
theorem c_F_size {Po : mP} {t1 : Int32} {t2 : Int32} (hT : Typ Po)   : EvP 2 59 [.ref 0, .int t1, .int t2] Po (fun r P' => (∃ x : Int32, r = some (.int x) ∧ (True)) ∧ P' = Po) := by
  refine EvP.of qm_59 (Nat.le_of_ble_eq_true rfl) rfl ?_
  show MEvP _ none q_59 0 [(0, .ref 0), (1, .int t1), (2, .int t2)] [] _ 0 0 _
  refine mp_a (a_aload_n dX6_size_0 rfl) (mpp 1 rfl ?_)
  refine mt_getU (i := 10) (k := 0) (A := 1) hT dX6_size_1 rfl rl_0 (by decide) rfl (by decide) rfl un_31 (mpp 4 rfl ?_)
  refine mp_a (a_iload_n dX6_size_4 rfl) (mpp 5 rfl ?_)
  refine mt_callv (i := 94) (q' := q_9) (As := [.int t1]) (rest := []) hT dX6_size_5 rfl qm_9 (by decide) rfl rl_1 (by decide) rfl (Nat.le_of_ble_eq_true rfl) rfl ⟨rfl, rfl⟩ ⟨Nat.le_of_ble_eq_true rfl, Nat.le_of_ble_eq_true rfl⟩ (EvP.mono (by decide) (c_CS_pieceAt_NState hT )) (fun r1 P2 g3 => mpp 8 rfl ?_)
  obtain ⟨g3, e4⟩ := g3
  have e4 := e4.symm
  subst e4
  rcases g3 with rfl | ⟨b5, rfl, q6, q6r⟩
  · show MEvP _ none q_59 8 [(0, .ref 0), (1, .int t1), (2, .int t2)] [.null] _ _ _ _
    refine mp_a (a_astore_nN (L' := [(3, .null), (0, .ref 0), (1, .int t1), (2, .int t2)]) dX6_size_8 (by decide) rfl) (mpp 9 rfl ?_)
    refine mp_a (a_aload_nN dX6_size_9 rfl) (mpp 10 rfl ?_)
    refine mp_t (s_ifnullN (t := 25) dX6_size_10 (by decide)) ?_
    refine mp_a (a_sipush (v := -1001) dX6_size_25 rfl) (mpp 28 rfl ?_)
    exact mp_iret ⟨⟨_, rfl, trivial⟩, rfl⟩ dX6_size_28 (Or.inl rfl)
  · show MEvP _ none q_59 8 [(0, .ref 0), (1, .int t1), (2, .int t2)] [.ref b5] _ _ _ _
    refine mp_a (a_astore_n (L' := [(3, .ref b5), (0, .ref 0), (1, .int t1), (2, .int t2)]) dX6_size_8 (by decide) rfl) (mpp 9 rfl ?_)
    refine mp_a (a_aload_n dX6_size_9 rfl) (mpp 10 rfl ?_)
    refine mp_t (s_ifnullR dX6_size_10) (mpp 13 rfl ?_)
    refine mp_a (a_iload_n dX6_size_13 rfl) (mpp 14 rfl ?_)
    refine mp_Tb (t := 25) (j_if_lt dX6_size_14) (by decide) (fun c7 => ?_) (fun c7 => mpp 17 rfl ?_)
    · have c7 : t2.toInt < 0 := ti_lt c7
      refine mp_a (a_sipush (v := -1001) dX6_size_25 rfl) (mpp 28 rfl ?_)
      exact mp_iret ⟨⟨_, rfl, trivial⟩, rfl⟩ dX6_size_28 (Or.inl rfl)
    · have c7 : t2.toInt ≥ 0 := ti_lt_n c7
      refine mp_a (a_iload_n dX6_size_17 rfl) (mpp 18 rfl ?_)
      refine mp_a (a_aload_n dX6_size_18 rfl) (mpp 19 rfl ?_)
      have g8 : (0 : Int) ≤ (fv Po b5 1).toInt ∧ (fv Po b5 1).toInt ≤ 8 := Typ.rng hT q6 (by decide) (by decide) rfl
      refine mt_getI (i := 143) (k := 1) hT dX6_size_19 rfl q6 (by decide) rfl (by decide) rfl (fun g9 g10 => mpp 22 rfl ?_)
      refine mp_Tb (t := 29) (j_icmp_lt dX6_size_22) (by decide) (fun c11 => ?_) (fun c11 => mpp 25 rfl ?_)
      · have c11 : t2.toInt < (fv Po b5 1).toInt := ti_lt c11
        refine mp_a (a_aload_n dX6_size_29 rfl) (mpp 30 rfl ?_)
        refine mt_getR (i := 178) (k := 3) hT dX6_size_30 rfl q6 (by decide) rfl (by decide) rfl (fun q12 => mpp 33 rfl ?_)
        generalize rv Po b5 3 = b13 at q12 ⊢
        refine mp_a (a_iload_n dX6_size_33 rfl) (mpp 34 rfl ?_)
        refine mp_calls (i := 112) (q' := q_12) (As := [.ref b13, .int t2]) (rest := []) dX6_size_34 rfl qm_12 (by decide) rfl (Nat.le_of_ble_eq_true rfl) rfl ⟨rfl, rfl⟩ ⟨Nat.le_of_ble_eq_true rfl, Nat.le_of_ble_eq_true rfl⟩ (EvP.mono (by decide) (c_F_at_sizes hT q12)) (fun r14 P15 g16 => mpp 37 rfl ?_)
        obtain ⟨⟨x17, rfl, g18⟩, e19⟩ := g16
        have e19 := e19.symm
        subst e19
        have wx17 := ti_full x17
        show MEvP _ none q_59 37 [(3, .ref b5), (0, .ref 0), (1, .int t1), (2, .int t2)] [.int x17] _ _ _ _
        exact mp_iret ⟨⟨_, rfl, trivial⟩, rfl⟩ dX6_size_37 (Or.inl rfl)
      · have c11 : t2.toInt ≥ (fv Po b5 1).toInt := ti_lt_n c11
        refine mp_a (a_sipush (v := -1001) dX6_size_25 rfl) (mpp 28 rfl ?_)
        exact mp_iret ⟨⟨_, rfl, trivial⟩, rfl⟩ dX6_size_28 (Or.inl rfl)

set_option maxHeartbeats 4000000 in
theorem c_F_crease {Po : mP} {t1 : Int32} {t2 : Int32} (hT : Typ Po)   : EvP 3 60 [.ref 0, .int t1, .int t2] Po (fun r P' => (∃ x : Int32, r = some (.int x) ∧ (True)) ∧ P' = Po) := by
  refine EvP.of qm_60 (Nat.le_of_ble_eq_true rfl) rfl ?_
  show MEvP _ none q_60 0 [(0, .ref 0), (1, .int t1), (2, .int t2)] [] _ 0 0 _
  refine mp_a (a_aload_n dX6_crease_0 rfl) (mpp 1 rfl ?_)
  refine mt_getU (i := 10) (k := 0) (A := 1) hT dX6_crease_1 rfl rl_0 (by decide) rfl (by decide) rfl un_31 (mpp 4 rfl ?_)
  refine mp_a (a_iload_n dX6_crease_4 rfl) (mpp 5 rfl ?_)
  refine mt_callv (i := 94) (q' := q_9) (As := [.int t1]) (rest := []) hT dX6_crease_5 rfl qm_9 (by decide) rfl rl_1 (by decide) rfl (Nat.le_of_ble_eq_true rfl) rfl ⟨rfl, rfl⟩ ⟨Nat.le_of_ble_eq_true rfl, Nat.le_of_ble_eq_true rfl⟩ (EvP.mono (by decide) (c_CS_pieceAt_NState hT )) (fun r1 P2 g3 => mpp 8 rfl ?_)
  obtain ⟨g3, e4⟩ := g3
  have e4 := e4.symm
  subst e4
  rcases g3 with rfl | ⟨b5, rfl, q6, q6r⟩
  · show MEvP _ none q_60 8 [(0, .ref 0), (1, .int t1), (2, .int t2)] [.null] _ _ _ _
    refine mp_a (a_astore_nN (L' := [(3, .null), (0, .ref 0), (1, .int t1), (2, .int t2)]) dX6_crease_8 (by decide) rfl) (mpp 9 rfl ?_)
    refine mp_a (a_aload_nN dX6_crease_9 rfl) (mpp 10 rfl ?_)
    refine mp_t (s_ifnullN (t := 21) dX6_crease_10 (by decide)) ?_
    refine mp_a (a_sipush (v := -1001) dX6_crease_21 rfl) (mpp 24 rfl ?_)
    exact mp_iret ⟨⟨_, rfl, trivial⟩, rfl⟩ dX6_crease_24 (Or.inl rfl)
  · show MEvP _ none q_60 8 [(0, .ref 0), (1, .int t1), (2, .int t2)] [.ref b5] _ _ _ _
    refine mp_a (a_astore_n (L' := [(3, .ref b5), (0, .ref 0), (1, .int t1), (2, .int t2)]) dX6_crease_8 (by decide) rfl) (mpp 9 rfl ?_)
    refine mp_a (a_aload_n dX6_crease_9 rfl) (mpp 10 rfl ?_)
    refine mp_t (s_ifnullR dX6_crease_10) (mpp 13 rfl ?_)
    refine mp_a (a_aload_n dX6_crease_13 rfl) (mpp 14 rfl ?_)
    refine mp_a (a_iload_n dX6_crease_14 rfl) (mpp 15 rfl ?_)
    refine mt_callv (i := 98) (q' := q_29) (As := [.int t2]) (rest := []) hT dX6_crease_15 rfl qm_29 (by decide) rfl q6 (by decide) rfl (Nat.le_of_ble_eq_true rfl) rfl ⟨rfl, rfl⟩ ⟨Nat.le_of_ble_eq_true rfl, Nat.le_of_ble_eq_true rfl⟩ (EvP.mono (by decide) (c_CP_hasCrease_NPiece hT q6)) (fun r7 P8 g9 => mpp 18 rfl ?_)
    obtain ⟨⟨x10, rfl, g11⟩, e12⟩ := g9
    have e12 := e12.symm
    subst e12
    have wx10 := ti_full x10
    have g11 : 0 ≤ x10.toInt ∧ x10.toInt ≤ 1 ∧ (x10.toInt = 0 ∨ (0 ≤ t2.toInt ∧ t2.toInt + 1 ≤ (fv Po b5 1).toInt)) := g11
    have g13 : (0 : Int) ≤ (fv Po b5 1).toInt ∧ (fv Po b5 1).toInt ≤ 8 := Typ.rng hT q6 (by decide) (by decide) rfl
    show MEvP _ none q_60 18 [(3, .ref b5), (0, .ref 0), (1, .int t1), (2, .int t2)] [.int x10] _ _ _ _
    refine mp_Tb (t := 25) (j_if_ne dX6_crease_18) (by decide) (fun c14 => ?_) (fun c14 => mpp 21 rfl ?_)
    · have c14 : x10.toInt ≠ 0 := ti_ne c14
      refine mp_a (a_aload_n dX6_crease_25 rfl) (mpp 26 rfl ?_)
      refine mt_getR (i := 108) (k := 4) hT dX6_crease_26 rfl q6 (by decide) rfl (by decide) rfl (fun q15 => mpp 29 rfl ?_)
      generalize rv Po b5 4 = b16 at q15 ⊢
      refine mp_a (a_iload_n dX6_crease_29 rfl) (mpp 30 rfl ?_)
      refine mp_calls (i := 112) (q' := q_12) (As := [.ref b16, .int t2]) (rest := []) dX6_crease_30 rfl qm_12 (by decide) rfl (Nat.le_of_ble_eq_true rfl) rfl ⟨rfl, rfl⟩ ⟨Nat.le_of_ble_eq_true rfl, Nat.le_of_ble_eq_true rfl⟩ (EvP.mono (by decide) (c_F_at_creases hT q15)) (fun r17 P18 g19 => mpp 33 rfl ?_)
      obtain ⟨⟨x20, rfl, g21⟩, e22⟩ := g19
      have e22 := e22.symm
      subst e22
      have wx20 := ti_full x20
      show MEvP _ none q_60 33 [(3, .ref b5), (0, .ref 0), (1, .int t1), (2, .int t2)] [.int x20] _ _ _ _
      exact mp_iret ⟨⟨_, rfl, trivial⟩, rfl⟩ dX6_crease_33 (Or.inl rfl)
    · have c14 : x10.toInt = 0 := ti_ne_n c14
      refine mp_a (a_sipush (v := -1001) dX6_crease_21 rfl) (mpp 24 rfl ?_)
      exact mp_iret ⟨⟨_, rfl, trivial⟩, rfl⟩ dX6_crease_24 (Or.inl rfl)

set_option maxHeartbeats 4000000 in
theorem c_F_why {Po : mP} {t1 : Int32} (hT : Typ Po)   : EvP 5 61 [.ref 0, .int t1] Po (fun r P' => (∃ x : Int32, r = some (.int x) ∧ (True)) ∧ Typ P' ∧ KW [640, 641, 704, 768] Po P' ∧ True) := by
  refine EvP.of qm_61 (Nat.le_of_ble_eq_true rfl) rfl ?_
  show MEvP _ none q_61 0 [(0, .ref 0), (1, .int t1)] [] _ 0 0 _
  refine mp_a (a_aload_n dX6_why_0 rfl) (mpp 1 rfl ?_)
  refine mt_getU (i := 10) (k := 0) (A := 1) hT dX6_why_1 rfl rl_0 (by decide) rfl (by decide) rfl un_31 (mpp 4 rfl ?_)
  refine mp_a (a_iload_n dX6_why_4 rfl) (mpp 5 rfl ?_)
  refine mt_callv (i := 94) (q' := q_9) (As := [.int t1]) (rest := []) hT dX6_why_5 rfl qm_9 (by decide) rfl rl_1 (by decide) rfl (Nat.le_of_ble_eq_true rfl) rfl ⟨rfl, rfl⟩ ⟨Nat.le_of_ble_eq_true rfl, Nat.le_of_ble_eq_true rfl⟩ (EvP.mono (by decide) (c_CS_pieceAt_NState hT )) (fun r1 P2 g3 => mpp 8 rfl ?_)
  obtain ⟨g3, e4⟩ := g3
  have e4 := e4.symm
  subst e4
  rcases g3 with rfl | ⟨b5, rfl, q6, q6r⟩
  · show MEvP _ none q_61 8 [(0, .ref 0), (1, .int t1)] [.null] _ _ _ _
    refine mp_a (a_astore_nN (L' := [(2, .null), (0, .ref 0), (1, .int t1)]) dX6_why_8 (by decide) rfl) (mpp 9 rfl ?_)
    refine mp_a (a_aload_nN dX6_why_9 rfl) (mpp 10 rfl ?_)
    refine mp_t (s_ifnonnullN dX6_why_10) (mpp 13 rfl ?_)
    refine mp_a (a_sipush (v := -1001) dX6_why_13 rfl) (mpp 16 rfl ?_)
    refine mp_a (a_goto (t := 27) dX6_why_16 (by decide)) ?_
    exact mp_iret ⟨⟨_, rfl, trivial⟩, hT, KW.refl, trivial⟩ dX6_why_27 (Or.inl rfl)
  · show MEvP _ none q_61 8 [(0, .ref 0), (1, .int t1)] [.ref b5] _ _ _ _
    refine mp_a (a_astore_n (L' := [(2, .ref b5), (0, .ref 0), (1, .int t1)]) dX6_why_8 (by decide) rfl) (mpp 9 rfl ?_)
    refine mp_a (a_aload_n dX6_why_9 rfl) (mpp 10 rfl ?_)
    refine mp_t (s_ifnonnullR (t := 19) dX6_why_10 (by decide)) ?_
    refine mp_a (a_aload_n dX6_why_19 rfl) (mpp 20 rfl ?_)
    refine mt_getU (i := 39) (k := 5) (A := 291) hT dX6_why_20 rfl rl_0 (by decide) rfl (by decide) rfl un_10 (mpp 23 rfl ?_)
    refine mp_a (a_aload_n dX6_why_23 rfl) (mpp 24 rfl ?_)
    refine mt_callv (i := 166) (q' := q_44) (As := [.ref b5]) (rest := []) hT dX6_why_24 rfl qm_44 (by decide) rfl rl_291 (by decide) rfl (Nat.le_of_ble_eq_true rfl) rfl ⟨rfl, rfl⟩ ⟨Nat.le_of_ble_eq_true rfl, Nat.le_of_ble_eq_true rfl⟩ (EvP.mono (by decide) (c_CR_whatStandsInTheWay_Reducer_NPiece hT q6)) (fun r7 P8 g9 => mpp 27 rfl ?_)
    obtain ⟨⟨x10, rfl, g11⟩, hT12, k13, R14⟩ := g9
    have k15 : KW [640, 641, 704, 768] Po P8 := KW.trans KW.refl k13 rfl
    have wx10 := ti_full x10
    show MEvP _ none q_61 27 [(2, .ref b5), (0, .ref 0), (1, .int t1)] [.int x10] _ _ _ _
    exact mp_iret ⟨⟨_, rfl, trivial⟩, hT12, k15, trivial⟩ dX6_why_27 (Or.inl rfl)

set_option maxHeartbeats 4000000 in
theorem c_F_errorOfDecidedStrip_null {Po : mP}  (hT : Typ Po)   : EvP 1 63 [.null] Po (fun r P' => (∃ x : Int32, r = some (.int x) ∧ (True)) ∧ P' = Po) := by
  refine EvP.of qm_63 (Nat.le_of_ble_eq_true rfl) rfl ?_
  show MEvP _ none q_63 0 [(0, .null)] [] _ 0 0 _
  refine mp_a (a_aload_nN dX6_errorOfDecidedStrip_0 rfl) (mpp 1 rfl ?_)
  refine mp_t (s_ifnonnullN dX6_errorOfDecidedStrip_1) (mpp 4 rfl ?_)
  refine mp_a (a_sipush (v := -1001) dX6_errorOfDecidedStrip_4 rfl) (mpp 7 rfl ?_)
  exact mp_iret ⟨⟨_, rfl, trivial⟩, rfl⟩ dX6_errorOfDecidedStrip_7 (Or.inl rfl)

set_option maxHeartbeats 4000000 in
theorem c_F_errorOfDecidedStrip_NPiece {Po : mP} {a0_ : Nat} (hT : Typ Po)  (ha0 : rl a0_ = 33) : EvP 4 63 [.ref a0_] Po (fun r P' => (∃ x : Int32, r = some (.int x) ∧ (True)) ∧ P' = Po) := by
  refine EvP.of qm_63 (Nat.le_of_ble_eq_true rfl) rfl ?_
  show MEvP _ none q_63 0 [(0, .ref a0_)] [] _ 0 0 _
  refine mp_a (a_aload_n dX6_errorOfDecidedStrip_0 rfl) (mpp 1 rfl ?_)
  refine mp_t (s_ifnonnullR (t := 8) dX6_errorOfDecidedStrip_1 (by decide)) ?_
  refine mp_a (a_aload_n dX6_errorOfDecidedStrip_8 rfl) (mpp 9 rfl ?_)
  have g1 := ti_full (fv Po a0_ 0)
  refine mt_getI (i := 130) (k := 0) hT dX6_errorOfDecidedStrip_9 rfl ha0 (by decide) rfl (by decide) rfl (fun g2 g3 => mpp 12 rfl ?_)
  refine mp_Tb (t := 19) (j_if_eq dX6_errorOfDecidedStrip_12) (by decide) (fun c4 => ?_) (fun c4 => mpp 15 rfl ?_)
  · have c4 : (fv Po a0_ 0).toInt = 0 := ti_eq c4
    refine mp_a (a_aload_n dX6_errorOfDecidedStrip_19 rfl) (mpp 20 rfl ?_)
    refine mt_callv (i := 159) (q' := q_42) (As := []) (rest := []) hT dX6_errorOfDecidedStrip_20 rfl qm_42 (by decide) rfl ha0 (by decide) rfl (Nat.le_of_ble_eq_true rfl) rfl ⟨rfl, rfl⟩ ⟨Nat.le_of_ble_eq_true rfl, Nat.le_of_ble_eq_true rfl⟩ (EvP.mono (by decide) (c_CP_isUndecided_NPiece hT ha0)) (fun r5 P6 g7 => mpp 23 rfl ?_)
    obtain ⟨⟨x8, rfl, g9⟩, e10⟩ := g7
    have e10 := e10.symm
    subst e10
    have wx8 := ti_full x8
    have g9 : 0 ≤ x8.toInt ∧ x8.toInt ≤ 1 := g9
    show MEvP _ none q_63 23 [(0, .ref a0_)] [.int x8] _ _ _ _
    refine mp_Tb (t := 32) (j_if_eq dX6_errorOfDecidedStrip_23) (by decide) (fun c11 => ?_) (fun c11 => mpp 26 rfl ?_)
    · have c11 : x8.toInt = 0 := ti_eq c11
      refine mp_a (a_iconst (v := 0) dX6_errorOfDecidedStrip_32 rfl) (mpp 33 rfl ?_)
      exact mp_iret ⟨⟨_, rfl, trivial⟩, rfl⟩ dX6_errorOfDecidedStrip_33 (Or.inl rfl)
    · have c11 : x8.toInt ≠ 0 := ti_eq_n c11
      refine mp_a (a_sipush (v := -1004) dX6_errorOfDecidedStrip_26 rfl) (mpp 29 rfl ?_)
      refine mp_a (a_goto (t := 33) dX6_errorOfDecidedStrip_29 (by decide)) ?_
      exact mp_iret ⟨⟨_, rfl, trivial⟩, rfl⟩ dX6_errorOfDecidedStrip_33 (Or.inl rfl)
  · have c4 : (fv Po a0_ 0).toInt ≠ 0 := ti_eq_n c4
    refine mp_a (a_sipush (v := -1002) dX6_errorOfDecidedStrip_15 rfl) (mpp 18 rfl ?_)
    exact mp_iret ⟨⟨_, rfl, trivial⟩, rfl⟩ dX6_errorOfDecidedStrip_18 (Or.inl rfl)

set_option maxHeartbeats 4000000 in
theorem c_F_copyRow_creases_lcreases_l2 {Po : mP} {a0_ : Nat} (ha0 : rl a0_ = 5) : ∀ (n : Nat) (v2 : Int32), ∀ (P : mP), Typ P → KW [1024] Po P → (0 ≤ v2.toInt) → (2147483647 - v2.toInt).toNat = n → MEvP 0 none q_19 2 [(0, .ref a0_), (1, .ref 297), (2, .int v2)] [] P 0 0 (fun r P' => (r = none ∧ (True)) ∧ Typ P' ∧ KW [1024] Po P' ∧ True) := by
  intro n
  induction n using Nat.strongRecOn with | _ n ih => ?_
  intro v2 P hT hK i_0 hm
  have w_v2 := ti_full v2
  refine mp_a (a_iload_n dX6_copyRow_2 rfl) (mpp 3 rfl ?_)
  refine mp_a (a_aload_n dX6_copyRow_3 rfl) (mpp 4 rfl ?_)
  refine mt_len (n := 8) hT dX6_copyRow_4 ha0 (by decide) (by decide) rfl (mpp 5 rfl ?_)
  refine mp_Tb (t := 26) (j_icmp_ge dX6_copyRow_5) (by decide) (fun c1 => ?_) (fun c1 => mpp 8 rfl ?_)
  · have c1 : v2.toInt ≥ 8 := ti_ge c1
    exact mp_ret ⟨⟨rfl, trivial⟩, hT, hK, trivial⟩ dX6_copyRow_26 rfl
  · have c1 : v2.toInt < 8 := ti_ge_n c1
    refine mp_a (a_iload_n dX6_copyRow_8 rfl) (mpp 9 rfl ?_)
    refine mp_a (a_aload_n dX6_copyRow_9 rfl) (mpp 10 rfl ?_)
    refine mt_len (n := 8) hT dX6_copyRow_10 rl_297 (by decide) (by decide) rfl (mpp 11 rfl ?_)
    refine mp_Tb (t := 26) (j_icmp_ge dX6_copyRow_11) (by decide) (fun c2 => ?_) (fun c2 => mpp 14 rfl ?_)
    · have c2 : v2.toInt ≥ 8 := ti_ge c2
      exact mp_ret ⟨⟨rfl, trivial⟩, hT, hK, trivial⟩ dX6_copyRow_26 rfl
    · have c2 : v2.toInt < 8 := ti_ge_n c2
      refine mp_a (a_aload_n dX6_copyRow_14 rfl) (mpp 15 rfl ?_)
      refine mp_a (a_iload_n dX6_copyRow_15 rfl) (mpp 16 rfl ?_)
      refine mp_a (a_aload_n dX6_copyRow_16 rfl) (mpp 17 rfl ?_)
      refine mp_a (a_iload_n dX6_copyRow_17 rfl) (mpp 18 rfl ?_)
      refine mt_ial (n := 8) hT dX6_copyRow_18 ha0 (by decide) rfl rfl (by omega) (by omega) rfl (fun g3 g4 => mpp 19 rfl ?_)
      refine mt_ias (n := 8) hT dX6_copyRow_19 rl_297 (by decide) rfl rfl (by omega) (by omega) rfl (ti_full (fv P a0_ v2.toInt.toNat)) (fun P5 hT6 f7 f8 => mpp 20 rfl ?_)
      have k9 : KW [1024] Po P5 := KW.step hK rl_297 rfl f8
      obtain ⟨z10, h11⟩ := ti_ex (v2 + 1 : Int32)
      have wz10 := ti_full z10
      refine mp_a (a_iinc (v := z10) (L' := [(2, .int z10), (0, .ref a0_), (1, .ref 297)]) dX6_copyRow_20 (by decide) rfl h11 rfl) (mpp 23 rfl ?_)
      try have e12 : z10.toInt = v2.toInt + 1 := ti_addz h11 rfl rfl (by omega) (by omega)
      refine mp_a (a_goto (t := 2) dX6_copyRow_23 (by decide)) ?_
      refine MEvP.less (L := [(0, .ref a0_), (1, .ref 297), (2, .int z10)]) rfl rfl ⟨rfl, rfl, rfl, trivial⟩ ?_
      have i13 : 0 ≤ z10.toInt := by omega
      exact ih _ (by omega) _ P5 hT6 k9 i13 rfl

set_option maxHeartbeats 4000000 in
theorem c_F_copyRow_creases_lcreases {Po : mP} {a0_ : Nat} (hT : Typ Po)  (ha0 : rl a0_ = 5) : EvP 1 19 [.ref a0_, .ref 297] Po (fun r P' => (r = none ∧ (True)) ∧ Typ P' ∧ KW [1024] Po P' ∧ True) := by
  refine EvP.of qm_19 (Nat.le_of_ble_eq_true rfl) rfl ?_
  show MEvP _ none q_19 0 [(0, .ref a0_), (1, .ref 297)] [] _ 0 0 _
  refine mp_a (a_iconst (v := 0) dX6_copyRow_0 rfl) (mpp 1 rfl ?_)
  refine mp_a (a_istore_n (L' := [(2, .int 0), (0, .ref a0_), (1, .ref 297)]) dX6_copyRow_1 (by decide) rfl) (mpp 2 rfl ?_)
  refine MEvP.less (L := [(0, .ref a0_), (1, .ref 297), (2, .int 0)]) rfl rfl ⟨rfl, rfl, rfl, trivial⟩ ?_
  have i1 : 0 ≤ (0 : Int) := by omega
  exact c_F_copyRow_creases_lcreases_l2  ha0 _ _ Po hT KW.refl i1 rfl

set_option maxHeartbeats 4000000 in
theorem c_F_put_places {Po : mP} {t1 : Int32} {t2 : Int32} (hT : Typ Po)   : EvP 1 22 [.ref 296, .int t1, .int t2] Po (fun r P' => (r = none ∧ (True)) ∧ Typ P' ∧ KW [960] Po P' ∧ True) := by
  refine EvP.of qm_22 (Nat.le_of_ble_eq_true rfl) rfl ?_
  show MEvP _ none q_22 0 [(0, .ref 296), (1, .int t1), (2, .int t2)] [] _ 0 0 _
  refine mp_a (a_iload_n dX6_put_0 rfl) (mpp 1 rfl ?_)
  refine mp_Tb (t := 14) (j_if_lt dX6_put_1) (by decide) (fun c1 => ?_) (fun c1 => mpp 4 rfl ?_)
  · have c1 : t1.toInt < 0 := ti_lt c1
    exact mp_ret ⟨⟨rfl, trivial⟩, hT, KW.refl, trivial⟩ dX6_put_14 rfl
  · have c1 : t1.toInt ≥ 0 := ti_lt_n c1
    refine mp_a (a_iload_n dX6_put_4 rfl) (mpp 5 rfl ?_)
    refine mp_a (a_aload_n dX6_put_5 rfl) (mpp 6 rfl ?_)
    refine mt_len (n := 8) hT dX6_put_6 rl_296 (by decide) (by decide) rfl (mpp 7 rfl ?_)
    refine mp_Tb (t := 14) (j_icmp_ge dX6_put_7) (by decide) (fun c2 => ?_) (fun c2 => mpp 10 rfl ?_)
    · have c2 : t1.toInt ≥ 8 := ti_ge c2
      exact mp_ret ⟨⟨rfl, trivial⟩, hT, KW.refl, trivial⟩ dX6_put_14 rfl
    · have c2 : t1.toInt < 8 := ti_ge_n c2
      refine mp_a (a_aload_n dX6_put_10 rfl) (mpp 11 rfl ?_)
      refine mp_a (a_iload_n dX6_put_11 rfl) (mpp 12 rfl ?_)
      refine mp_a (a_iload_n dX6_put_12 rfl) (mpp 13 rfl ?_)
      refine mt_ias (n := 8) hT dX6_put_13 rl_296 (by decide) rfl rfl (by omega) (by omega) rfl (ti_full t2) (fun P3 hT4 f5 f6 => mpp 14 rfl ?_)
      have k7 : KW [960] Po P3 := KW.step KW.refl rl_296 rfl f6
      exact mp_ret ⟨⟨rfl, trivial⟩, hT4, k7, trivial⟩ dX6_put_14 rfl

set_option maxHeartbeats 4000000 in
theorem c_CL_load_Layers_NPiece_l26 {Po : mP} {a1_ : Nat} (ha1 : rl a1_ = 33) : ∀ (n : Nat) (v2 : Int32), ∀ (P : mP), Typ P → KW [832, 960, 1024] Po P → (0 ≤ v2.toInt) → (2147483647 - v2.toInt).toNat = n → MEvP 2 none q_65 26 [(0, .ref 294), (1, .ref a1_), (2, .int v2)] [] P 0 0 (fun r P' => (r = none ∧ (True)) ∧ Typ P' ∧ KW [832, 960, 1024] Po P' ∧ True) := by
  intro n
  induction n using Nat.strongRecOn with | _ n ih => ?_
  intro v2 P hT hK i_0 hm
  have w_v2 := ti_full v2
  refine mp_a (a_iload_n dX1_load_26 rfl) (mpp 27 rfl ?_)
  refine mp_a (a_aload_n dX1_load_27 rfl) (mpp 28 rfl ?_)
  have g1 : (0 : Int) ≤ (fv P 294 0).toInt ∧ (fv P 294 0).toInt ≤ 8 := Typ.rng hT rl_294 (by decide) (by decide) rfl
  refine mt_getI (i := 30) (k := 0) hT dX1_load_28 rfl rl_294 (by decide) rfl (by decide) rfl (fun g2 g3 => mpp 31 rfl ?_)
  refine mp_Tb (t := 53) (j_icmp_gt dX1_load_31) (by decide) (fun c4 => ?_) (fun c4 => mpp 34 rfl ?_)
  · have c4 : v2.toInt > (fv P 294 0).toInt := ti_gt c4
    exact mp_ret ⟨⟨rfl, trivial⟩, hT, hK, trivial⟩ dX1_load_53 rfl
  · have c4 : v2.toInt ≤ (fv P 294 0).toInt := ti_gt_n c4
    refine mp_a (a_aload_n dX1_load_34 rfl) (mpp 35 rfl ?_)
    refine mt_getU (i := 15) (k := 2) (A := 296) hT dX1_load_35 rfl rl_294 (by decide) rfl (by decide) rfl un_15 (mpp 38 rfl ?_)
    refine mp_a (a_iload_n dX1_load_38 rfl) (mpp 39 rfl ?_)
    refine mp_a (a_aload_n dX1_load_39 rfl) (mpp 40 rfl ?_)
    refine mp_a (a_iload_n dX1_load_40 rfl) (mpp 41 rfl ?_)
    refine mt_callv (i := 56) (q' := q_13) (As := [.int v2]) (rest := [.int v2, .ref 296]) hT dX1_load_41 rfl qm_13 (by decide) rfl ha1 (by decide) rfl (Nat.le_of_ble_eq_true rfl) rfl ⟨rfl, rfl⟩ ⟨Nat.le_of_ble_eq_true rfl, Nat.le_of_ble_eq_true rfl⟩ (EvP.mono (by decide) (c_CP_placeOf_NPiece hT ha1)) (fun r5 P6 g7 => mpp 44 rfl ?_)
    obtain ⟨⟨x8, rfl, g9⟩, e10⟩ := g7
    have e10 := e10.symm
    subst e10
    have wx8 := ti_full x8
    show MEvP _ none q_65 44 [(0, .ref 294), (1, .ref a1_), (2, .int v2)] [.int x8, .int v2, .ref 296] _ _ _ _
    refine mp_calls (i := 25) (q' := q_22) (As := [.ref 296, .int v2, .int x8]) (rest := []) dX1_load_44 rfl qm_22 (by decide) rfl (Nat.le_of_ble_eq_true rfl) rfl ⟨rfl, rfl⟩ ⟨Nat.le_of_ble_eq_true rfl, Nat.le_of_ble_eq_true rfl⟩ (EvP.mono (by decide) (c_F_put_places hT )) (fun r11 P12 g13 => mpp 47 rfl ?_)
    obtain ⟨⟨rfl, g15⟩, hT16, k17, R18⟩ := g13
    have k19 : KW [832, 960, 1024] Po P12 := KW.trans hK k17 rfl
    show MEvP _ none q_65 47 [(0, .ref 294), (1, .ref a1_), (2, .int v2)] [] _ _ _ _
    obtain ⟨z20, h21⟩ := ti_ex (v2 + 1 : Int32)
    have wz20 := ti_full z20
    refine mp_a (a_iinc (v := z20) (L' := [(2, .int z20), (0, .ref 294), (1, .ref a1_)]) dX1_load_47 (by decide) rfl h21 rfl) (mpp 50 rfl ?_)
    try have e22 : z20.toInt = v2.toInt + 1 := ti_addz h21 rfl rfl (by omega) (by omega)
    refine mp_a (a_goto (t := 26) dX1_load_50 (by decide)) ?_
    refine MEvP.less (L := [(0, .ref 294), (1, .ref a1_), (2, .int z20)]) rfl rfl ⟨rfl, rfl, rfl, trivial⟩ ?_
    have i23 : 0 ≤ z20.toInt := by omega
    exact ih _ (by omega) _ P12 hT16 k19 i23 rfl

set_option maxHeartbeats 4000000 in
theorem c_CL_load_Layers_NPiece {Po : mP} {a1_ : Nat} (hT : Typ Po)  (ha1 : rl a1_ = 33) : EvP 3 65 [.ref 294, .ref a1_] Po (fun r P' => (r = none ∧ (True)) ∧ Typ P' ∧ KW [832, 960, 1024] Po P' ∧ True) := by
  refine EvP.of qm_65 (Nat.le_of_ble_eq_true rfl) rfl ?_
  show MEvP _ none q_65 0 [(0, .ref 294), (1, .ref a1_)] [] _ 0 0 _
  refine mp_a (a_aload_n dX1_load_0 rfl) (mpp 1 rfl ?_)
  refine mp_a (a_aload_n dX1_load_1 rfl) (mpp 2 rfl ?_)
  have g1 : (0 : Int) ≤ (fv Po a1_ 1).toInt ∧ (fv Po a1_ 1).toInt ≤ 8 := Typ.rng hT ha1 (by decide) (by decide) rfl
  refine mt_getI (i := 42) (k := 1) hT dX1_load_2 rfl ha1 (by decide) rfl (by decide) rfl (fun g2 g3 => mpp 5 rfl ?_)
  refine mp_a (a_bipush (v := 7) dX1_load_5 rfl) (mpp 7 rfl ?_)
  obtain ⟨z4, h5⟩ := ti_ex (if (8 : Nat) = 7 then (if (fv Po a1_ 1) < 7 then 7 else (fv Po a1_ 1)) else (if 7 < (fv Po a1_ 1) then 7 else (fv Po a1_ 1)) : Int32)
  have e6 : z4.toInt = min (fv Po a1_ 1).toInt 7 := ti_mm8 h5
  refine mp_math (i := 45) (k := 0) (v := z4) dX1_load_7 rfl (by decide) (Nat.le_of_ble_eq_true rfl) h5 ⟨Nat.le_of_ble_eq_true rfl, Nat.le_of_ble_eq_true rfl⟩ (mpp 10 rfl ?_)
  refine mt_putI (i := 30) (k := 0) (x := z4) hT dX1_load_10 rfl rl_294 (by decide) rfl (by decide) rfl ⟨by omega, by omega⟩ rfl rfl (fun P7 hT8 f9 f10 => mpp 13 rfl ?_)
  have k11 : KW [832, 960, 1024] Po P7 := KW.step KW.refl rl_294 rfl f10
  have e12 : (fv P7 294 0).toInt = z4.toInt := congrArg Int32.toInt f9
  refine mp_a (a_aload_n dX1_load_13 rfl) (mpp 14 rfl ?_)
  refine mt_getR (i := 51) (k := 4) hT8 dX1_load_14 rfl ha1 (by decide) rfl (by decide) rfl (fun q13 => mpp 17 rfl ?_)
  generalize rv P7 a1_ 4 = b14 at q13 ⊢
  refine mp_a (a_aload_n dX1_load_17 rfl) (mpp 18 rfl ?_)
  refine mt_getU (i := 18) (k := 3) (A := 297) hT8 dX1_load_18 rfl rl_294 (by decide) rfl (by decide) rfl un_16 (mpp 21 rfl ?_)
  refine mp_calls (i := 52) (q' := q_19) (As := [.ref b14, .ref 297]) (rest := []) dX1_load_21 rfl qm_19 (by decide) rfl (Nat.le_of_ble_eq_true rfl) rfl ⟨rfl, rfl⟩ ⟨Nat.le_of_ble_eq_true rfl, Nat.le_of_ble_eq_true rfl⟩ (EvP.mono (by decide) (c_F_copyRow_creases_lcreases hT8 q13)) (fun r15 P16 g17 => mpp 24 rfl ?_)
  obtain ⟨⟨rfl, g19⟩, hT20, k21, R22⟩ := g17
  have k23 : KW [832, 960, 1024] Po P16 := KW.trans k11 k21 rfl
  show MEvP _ none q_65 24 [(0, .ref 294), (1, .ref a1_)] [] _ _ _ _
  refine mp_a (a_iconst (v := 0) dX1_load_24 rfl) (mpp 25 rfl ?_)
  refine mp_a (a_istore_n (L' := [(2, .int 0), (0, .ref 294), (1, .ref a1_)]) dX1_load_25 (by decide) rfl) (mpp 26 rfl ?_)
  refine MEvP.less (L := [(0, .ref 294), (1, .ref a1_), (2, .int 0)]) rfl rfl ⟨rfl, rfl, rfl, trivial⟩ ?_
  have i24 : 0 ≤ (0 : Int) := by omega
  exact c_CL_load_Layers_NPiece_l26  ha1 _ _ P16 hT20 k23 i24 rfl

set_option maxHeartbeats 4000000 in
theorem c_F_put_order {Po : mP} {t1 : Int32} {t2 : Int32} (hT : Typ Po)   : EvP 1 22 [.ref 295, .int t1, .int t2] Po (fun r P' => (r = none ∧ (True)) ∧ Typ P' ∧ KW [896] Po P' ∧ True) := by
  refine EvP.of qm_22 (Nat.le_of_ble_eq_true rfl) rfl ?_
  show MEvP _ none q_22 0 [(0, .ref 295), (1, .int t1), (2, .int t2)] [] _ 0 0 _
  refine mp_a (a_iload_n dX6_put_0 rfl) (mpp 1 rfl ?_)
  refine mp_Tb (t := 14) (j_if_lt dX6_put_1) (by decide) (fun c1 => ?_) (fun c1 => mpp 4 rfl ?_)
  · have c1 : t1.toInt < 0 := ti_lt c1
    exact mp_ret ⟨⟨rfl, trivial⟩, hT, KW.refl, trivial⟩ dX6_put_14 rfl
  · have c1 : t1.toInt ≥ 0 := ti_lt_n c1
    refine mp_a (a_iload_n dX6_put_4 rfl) (mpp 5 rfl ?_)
    refine mp_a (a_aload_n dX6_put_5 rfl) (mpp 6 rfl ?_)
    refine mt_len (n := 8) hT dX6_put_6 rl_295 (by decide) (by decide) rfl (mpp 7 rfl ?_)
    refine mp_Tb (t := 14) (j_icmp_ge dX6_put_7) (by decide) (fun c2 => ?_) (fun c2 => mpp 10 rfl ?_)
    · have c2 : t1.toInt ≥ 8 := ti_ge c2
      exact mp_ret ⟨⟨rfl, trivial⟩, hT, KW.refl, trivial⟩ dX6_put_14 rfl
    · have c2 : t1.toInt < 8 := ti_ge_n c2
      refine mp_a (a_aload_n dX6_put_10 rfl) (mpp 11 rfl ?_)
      refine mp_a (a_iload_n dX6_put_11 rfl) (mpp 12 rfl ?_)
      refine mp_a (a_iload_n dX6_put_12 rfl) (mpp 13 rfl ?_)
      refine mt_ias (n := 8) hT dX6_put_13 rl_295 (by decide) rfl rfl (by omega) (by omega) rfl (ti_full t2) (fun P3 hT4 f5 f6 => mpp 14 rfl ?_)
      have k7 : KW [896] Po P3 := KW.step KW.refl rl_295 rfl f6
      exact mp_ret ⟨⟨rfl, trivial⟩, hT4, k7, trivial⟩ dX6_put_14 rfl

set_option maxHeartbeats 4000000 in
theorem c_F_at_places {Po : mP} {t1 : Int32} (hT : Typ Po)   : EvP 1 12 [.ref 296, .int t1] Po (fun r P' => (∃ x : Int32, r = some (.int x) ∧ (True)) ∧ P' = Po) := by
  refine EvP.of qm_12 (Nat.le_of_ble_eq_true rfl) rfl ?_
  show MEvP _ none q_12 0 [(0, .ref 296), (1, .int t1)] [] _ 0 0 _
  refine mp_a (a_iload_n dX6_at_0 rfl) (mpp 1 rfl ?_)
  refine mp_Tb (t := 16) (j_if_lt dX6_at_1) (by decide) (fun c1 => ?_) (fun c1 => mpp 4 rfl ?_)
  · have c1 : t1.toInt < 0 := ti_lt c1
    refine mp_a (a_iconst (v := 0) dX6_at_16 rfl) (mpp 17 rfl ?_)
    exact mp_iret ⟨⟨_, rfl, trivial⟩, rfl⟩ dX6_at_17 (Or.inl rfl)
  · have c1 : t1.toInt ≥ 0 := ti_lt_n c1
    refine mp_a (a_iload_n dX6_at_4 rfl) (mpp 5 rfl ?_)
    refine mp_a (a_aload_n dX6_at_5 rfl) (mpp 6 rfl ?_)
    refine mt_len (n := 8) hT dX6_at_6 rl_296 (by decide) (by decide) rfl (mpp 7 rfl ?_)
    refine mp_Tb (t := 16) (j_icmp_ge dX6_at_7) (by decide) (fun c2 => ?_) (fun c2 => mpp 10 rfl ?_)
    · have c2 : t1.toInt ≥ 8 := ti_ge c2
      refine mp_a (a_iconst (v := 0) dX6_at_16 rfl) (mpp 17 rfl ?_)
      exact mp_iret ⟨⟨_, rfl, trivial⟩, rfl⟩ dX6_at_17 (Or.inl rfl)
    · have c2 : t1.toInt < 8 := ti_ge_n c2
      refine mp_a (a_aload_n dX6_at_10 rfl) (mpp 11 rfl ?_)
      refine mp_a (a_iload_n dX6_at_11 rfl) (mpp 12 rfl ?_)
      refine mt_ial (n := 8) hT dX6_at_12 rl_296 (by decide) rfl rfl (by omega) (by omega) rfl (fun g3 g4 => mpp 13 rfl ?_)
      refine mp_a (a_goto (t := 17) dX6_at_13 (by decide)) ?_
      exact mp_iret ⟨⟨_, rfl, trivial⟩, rfl⟩ dX6_at_17 (Or.inl rfl)

set_option maxHeartbeats 4000000 in
theorem c_F_at_order {Po : mP} {t1 : Int32} (hT : Typ Po)   : EvP 1 12 [.ref 295, .int t1] Po (fun r P' => (∃ x : Int32, r = some (.int x) ∧ (True)) ∧ P' = Po) := by
  refine EvP.of qm_12 (Nat.le_of_ble_eq_true rfl) rfl ?_
  show MEvP _ none q_12 0 [(0, .ref 295), (1, .int t1)] [] _ 0 0 _
  refine mp_a (a_iload_n dX6_at_0 rfl) (mpp 1 rfl ?_)
  refine mp_Tb (t := 16) (j_if_lt dX6_at_1) (by decide) (fun c1 => ?_) (fun c1 => mpp 4 rfl ?_)
  · have c1 : t1.toInt < 0 := ti_lt c1
    refine mp_a (a_iconst (v := 0) dX6_at_16 rfl) (mpp 17 rfl ?_)
    exact mp_iret ⟨⟨_, rfl, trivial⟩, rfl⟩ dX6_at_17 (Or.inl rfl)
  · have c1 : t1.toInt ≥ 0 := ti_lt_n c1
    refine mp_a (a_iload_n dX6_at_4 rfl) (mpp 5 rfl ?_)
    refine mp_a (a_aload_n dX6_at_5 rfl) (mpp 6 rfl ?_)
    refine mt_len (n := 8) hT dX6_at_6 rl_295 (by decide) (by decide) rfl (mpp 7 rfl ?_)
    refine mp_Tb (t := 16) (j_icmp_ge dX6_at_7) (by decide) (fun c2 => ?_) (fun c2 => mpp 10 rfl ?_)
    · have c2 : t1.toInt ≥ 8 := ti_ge c2
      refine mp_a (a_iconst (v := 0) dX6_at_16 rfl) (mpp 17 rfl ?_)
      exact mp_iret ⟨⟨_, rfl, trivial⟩, rfl⟩ dX6_at_17 (Or.inl rfl)
    · have c2 : t1.toInt < 8 := ti_ge_n c2
      refine mp_a (a_aload_n dX6_at_10 rfl) (mpp 11 rfl ?_)
      refine mp_a (a_iload_n dX6_at_11 rfl) (mpp 12 rfl ?_)
      refine mt_ial (n := 8) hT dX6_at_12 rl_295 (by decide) rfl rfl (by omega) (by omega) rfl (fun g3 g4 => mpp 13 rfl ?_)
      refine mp_a (a_goto (t := 17) dX6_at_13 (by decide)) ?_
      exact mp_iret ⟨⟨_, rfl, trivial⟩, rfl⟩ dX6_at_17 (Or.inl rfl)

set_option maxHeartbeats 4000000 in
theorem c_CL_isBetween_Layers {Po : mP} {t1 : Int32} {t2 : Int32} (hT : Typ Po)   : EvP 2 71 [.ref 294, .int t1, .int t2] Po (fun r P' => (∃ x : Int32, r = some (.int x) ∧ (0 ≤ x.toInt ∧ x.toInt ≤ 1)) ∧ P' = Po) := by
  refine EvP.of qm_71 (Nat.le_of_ble_eq_true rfl) rfl ?_
  show MEvP _ none q_71 0 [(0, .ref 294), (1, .int t1), (2, .int t2)] [] _ 0 0 _
  refine mp_a (a_aload_n dX1_isBetween_0 rfl) (mpp 1 rfl ?_)
  refine mt_getU (i := 9) (k := 1) (A := 295) hT dX1_isBetween_1 rfl rl_294 (by decide) rfl (by decide) rfl un_14 (mpp 4 rfl ?_)
  refine mp_a (a_iload_n dX1_isBetween_4 rfl) (mpp 5 rfl ?_)
  refine mp_calls (i := 59) (q' := q_12) (As := [.ref 295, .int t1]) (rest := []) dX1_isBetween_5 rfl qm_12 (by decide) rfl (Nat.le_of_ble_eq_true rfl) rfl ⟨rfl, rfl⟩ ⟨Nat.le_of_ble_eq_true rfl, Nat.le_of_ble_eq_true rfl⟩ (EvP.mono (by decide) (c_F_at_order hT )) (fun r1 P2 g3 => mpp 8 rfl ?_)
  obtain ⟨⟨x4, rfl, g5⟩, e6⟩ := g3
  have e6 := e6.symm
  subst e6
  have wx4 := ti_full x4
  show MEvP _ none q_71 8 [(0, .ref 294), (1, .int t1), (2, .int t2)] [.int x4] _ _ _ _
  refine mp_a (a_istore_n (L' := [(3, .int x4), (0, .ref 294), (1, .int t1), (2, .int t2)]) dX1_isBetween_8 (by decide) rfl) (mpp 9 rfl ?_)
  refine mp_a (a_aload_n dX1_isBetween_9 rfl) (mpp 10 rfl ?_)
  refine mt_getU (i := 9) (k := 1) (A := 295) hT dX1_isBetween_10 rfl rl_294 (by decide) rfl (by decide) rfl un_14 (mpp 13 rfl ?_)
  refine mp_a (a_iload_n dX1_isBetween_13 rfl) (mpp 14 rfl ?_)
  refine mp_calls (i := 59) (q' := q_12) (As := [.ref 295, .int t2]) (rest := []) dX1_isBetween_14 rfl qm_12 (by decide) rfl (Nat.le_of_ble_eq_true rfl) rfl ⟨rfl, rfl⟩ ⟨Nat.le_of_ble_eq_true rfl, Nat.le_of_ble_eq_true rfl⟩ (EvP.mono (by decide) (c_F_at_order hT )) (fun r7 P8 g9 => mpp 17 rfl ?_)
  obtain ⟨⟨x10, rfl, g11⟩, e12⟩ := g9
  have e12 := e12.symm
  subst e12
  have wx10 := ti_full x10
  show MEvP _ none q_71 17 [(3, .int x4), (0, .ref 294), (1, .int t1), (2, .int t2)] [.int x10] _ _ _ _
  refine mp_a (a_istore (L' := [(4, .int x10), (3, .int x4), (0, .ref 294), (1, .int t1), (2, .int t2)]) dX1_isBetween_17 (by decide) rfl) (mpp 19 rfl ?_)
  refine mp_a (a_aload_n dX1_isBetween_19 rfl) (mpp 20 rfl ?_)
  refine mt_getU (i := 9) (k := 1) (A := 295) hT dX1_isBetween_20 rfl rl_294 (by decide) rfl (by decide) rfl un_14 (mpp 23 rfl ?_)
  refine mp_a (a_iload_n dX1_isBetween_23 rfl) (mpp 24 rfl ?_)
  refine mp_a (a_iconst (v := 1) dX1_isBetween_24 rfl) (mpp 25 rfl ?_)
  obtain ⟨z13, h14⟩ := ti_ex (t2 + 1 : Int32)
  have wz13 := ti_full z13
  refine mp_t (s_iadd (v := z13) dX1_isBetween_25 h14) (mpp 26 rfl ?_)
  try have e15 : z13.toInt = t2.toInt + 1 := ti_addz h14 rfl rfl (by omega) (by omega)
  refine mp_calls (i := 59) (q' := q_12) (As := [.ref 295, .int z13]) (rest := []) dX1_isBetween_26 rfl qm_12 (by decide) rfl (Nat.le_of_ble_eq_true rfl) rfl ⟨rfl, rfl⟩ ⟨Nat.le_of_ble_eq_true rfl, Nat.le_of_ble_eq_true rfl⟩ (EvP.mono (by decide) (c_F_at_order hT )) (fun r16 P17 g18 => mpp 29 rfl ?_)
  obtain ⟨⟨x19, rfl, g20⟩, e21⟩ := g18
  have e21 := e21.symm
  subst e21
  have wx19 := ti_full x19
  show MEvP _ none q_71 29 [(4, .int x10), (3, .int x4), (0, .ref 294), (1, .int t1), (2, .int t2)] [.int x19] _ _ _ _
  refine mp_a (a_istore (L' := [(5, .int x19), (4, .int x10), (3, .int x4), (0, .ref 294), (1, .int t1), (2, .int t2)]) dX1_isBetween_29 (by decide) rfl) (mpp 31 rfl ?_)
  refine mp_a (a_iload dX1_isBetween_31 rfl) (mpp 33 rfl ?_)
  refine mp_a (a_iload dX1_isBetween_33 rfl) (mpp 35 rfl ?_)
  obtain ⟨z22, h23⟩ := ti_ex (if (8 : Nat) = 7 then (if x10 < x19 then x19 else x10) else (if x19 < x10 then x19 else x10) : Int32)
  have e24 : z22.toInt = min x10.toInt x19.toInt := ti_mm8 h23
  refine mp_math (i := 45) (k := 0) (v := z22) dX1_isBetween_35 rfl (by decide) (Nat.le_of_ble_eq_true rfl) h23 ⟨Nat.le_of_ble_eq_true rfl, Nat.le_of_ble_eq_true rfl⟩ (mpp 38 rfl ?_)
  refine mp_a (a_iload_n dX1_isBetween_38 rfl) (mpp 39 rfl ?_)
  refine mp_Tb (t := 57) (j_icmp_ge dX1_isBetween_39) (by decide) (fun c25 => ?_) (fun c25 => mpp 42 rfl ?_)
  · have c25 : z22.toInt ≥ x4.toInt := ti_ge c25
    refine mp_a (a_iconst (v := 0) dX1_isBetween_57 rfl) (mpp 58 rfl ?_)
    have u26 : 0 ≤ (0 : Int) ∧ (0 : Int) ≤ 1 := by omega
    exact mp_iret ⟨⟨_, rfl, u26⟩, rfl⟩ dX1_isBetween_58 (Or.inr ⟨rfl, by decide⟩)
  · have c25 : z22.toInt < x4.toInt := ti_ge_n c25
    refine mp_a (a_iload_n dX1_isBetween_42 rfl) (mpp 43 rfl ?_)
    refine mp_a (a_iload dX1_isBetween_43 rfl) (mpp 45 rfl ?_)
    refine mp_a (a_iload dX1_isBetween_45 rfl) (mpp 47 rfl ?_)
    obtain ⟨z27, h28⟩ := ti_ex (if (7 : Nat) = 7 then (if x10 < x19 then x19 else x10) else (if x19 < x10 then x19 else x10) : Int32)
    have e29 : z27.toInt = max x10.toInt x19.toInt := ti_mm7 h28
    refine mp_math (i := 77) (k := 0) (v := z27) dX1_isBetween_47 rfl (by decide) (Nat.le_of_ble_eq_true rfl) h28 ⟨Nat.le_of_ble_eq_true rfl, Nat.le_of_ble_eq_true rfl⟩ (mpp 50 rfl ?_)
    refine mp_Tb (t := 57) (j_icmp_ge dX1_isBetween_50) (by decide) (fun c30 => ?_) (fun c30 => mpp 53 rfl ?_)
    · have c30 : x4.toInt ≥ z27.toInt := ti_ge c30
      refine mp_a (a_iconst (v := 0) dX1_isBetween_57 rfl) (mpp 58 rfl ?_)
      have u31 : 0 ≤ (0 : Int) ∧ (0 : Int) ≤ 1 := by omega
      exact mp_iret ⟨⟨_, rfl, u31⟩, rfl⟩ dX1_isBetween_58 (Or.inr ⟨rfl, by decide⟩)
    · have c30 : x4.toInt < z27.toInt := ti_ge_n c30
      refine mp_a (a_iconst (v := 1) dX1_isBetween_53 rfl) (mpp 54 rfl ?_)
      refine mp_a (a_goto (t := 58) dX1_isBetween_54 (by decide)) ?_
      have u32 : 0 ≤ (1 : Int) ∧ (1 : Int) ≤ 1 := by omega
      exact mp_iret ⟨⟨_, rfl, u32⟩, rfl⟩ dX1_isBetween_58 (Or.inr ⟨rfl, by decide⟩)

set_option maxHeartbeats 4000000 in
theorem c_CL_isPierced_Layers_l13 {Po : mP} {t1 : Int32} (hT : Typ Po)   : ∀ (n : Nat) (v2 : Int32) (v3 : Int32), (0 ≤ v3.toInt) → (2147483647 - v3.toInt).toNat = n → MEvP 2 none q_70 13 [(0, .ref 294), (1, .int t1), (2, .int v2), (3, .int v3)] [] Po 0 0 (fun r P' => (∃ x : Int32, r = some (.int x) ∧ (0 ≤ x.toInt ∧ x.toInt ≤ 1)) ∧ P' = Po) := by
  intro n
  induction n using Nat.strongRecOn with | _ n ih => ?_
  intro v2 v3 i_0 hm
  have w_t1 := ti_full t1
  have w_v2 := ti_full v2
  have w_v3 := ti_full v3
  refine mp_a (a_iload_n dX1_isPierced_13 rfl) (mpp 14 rfl ?_)
  refine mp_a (a_aload_n dX1_isPierced_14 rfl) (mpp 15 rfl ?_)
  have g1 : (0 : Int) ≤ (fv Po 294 0).toInt ∧ (fv Po 294 0).toInt ≤ 8 := Typ.rng hT rl_294 (by decide) (by decide) rfl
  refine mt_getI (i := 30) (k := 0) hT dX1_isPierced_15 rfl rl_294 (by decide) rfl (by decide) rfl (fun g2 g3 => mpp 18 rfl ?_)
  refine mp_Tb (t := 96) (j_icmp_ge dX1_isPierced_18) (by decide) (fun c4 => ?_) (fun c4 => mpp 21 rfl ?_)
  · have c4 : v3.toInt ≥ (fv Po 294 0).toInt := ti_ge c4
    refine mp_a (a_iconst (v := 0) dX1_isPierced_96 rfl) (mpp 97 rfl ?_)
    have u5 : 0 ≤ (0 : Int) ∧ (0 : Int) ≤ 1 := by omega
    exact mp_iret ⟨⟨_, rfl, u5⟩, rfl⟩ dX1_isPierced_97 (Or.inr ⟨rfl, by decide⟩)
  · have c4 : v3.toInt < (fv Po 294 0).toInt := ti_ge_n c4
    refine mp_a (a_aload_n dX1_isPierced_21 rfl) (mpp 22 rfl ?_)
    refine mt_getU (i := 15) (k := 2) (A := 296) hT dX1_isPierced_22 rfl rl_294 (by decide) rfl (by decide) rfl un_15 (mpp 25 rfl ?_)
    refine mp_a (a_iload_n dX1_isPierced_25 rfl) (mpp 26 rfl ?_)
    refine mp_calls (i := 59) (q' := q_12) (As := [.ref 296, .int v3]) (rest := []) dX1_isPierced_26 rfl qm_12 (by decide) rfl (Nat.le_of_ble_eq_true rfl) rfl ⟨rfl, rfl⟩ ⟨Nat.le_of_ble_eq_true rfl, Nat.le_of_ble_eq_true rfl⟩ (EvP.mono (by decide) (c_F_at_places hT )) (fun r6 P7 g8 => mpp 29 rfl ?_)
    obtain ⟨⟨x9, rfl, g10⟩, e11⟩ := g8
    have e11 := e11.symm
    subst e11
    have wx9 := ti_full x9
    show MEvP _ none q_70 29 [(0, .ref 294), (1, .int t1), (2, .int v2), (3, .int v3)] [.int x9] _ _ _ _
    refine mp_a (a_aload_n dX1_isPierced_29 rfl) (mpp 30 rfl ?_)
    refine mt_getU (i := 15) (k := 2) (A := 296) hT dX1_isPierced_30 rfl rl_294 (by decide) rfl (by decide) rfl un_15 (mpp 33 rfl ?_)
    refine mp_a (a_iload_n dX1_isPierced_33 rfl) (mpp 34 rfl ?_)
    refine mp_a (a_iconst (v := 1) dX1_isPierced_34 rfl) (mpp 35 rfl ?_)
    obtain ⟨z12, h13⟩ := ti_ex (v3 + 1 : Int32)
    have wz12 := ti_full z12
    refine mp_t (s_iadd (v := z12) dX1_isPierced_35 h13) (mpp 36 rfl ?_)
    try have e14 : z12.toInt = v3.toInt + 1 := ti_addz h13 rfl rfl (by omega) (by omega)
    refine mp_calls (i := 59) (q' := q_12) (As := [.ref 296, .int z12]) (rest := [.int x9]) dX1_isPierced_36 rfl qm_12 (by decide) rfl (Nat.le_of_ble_eq_true rfl) rfl ⟨rfl, rfl⟩ ⟨Nat.le_of_ble_eq_true rfl, Nat.le_of_ble_eq_true rfl⟩ (EvP.mono (by decide) (c_F_at_places hT )) (fun r15 P16 g17 => mpp 39 rfl ?_)
    obtain ⟨⟨x18, rfl, g19⟩, e20⟩ := g17
    have e20 := e20.symm
    subst e20
    have wx18 := ti_full x18
    show MEvP _ none q_70 39 [(0, .ref 294), (1, .int t1), (2, .int v2), (3, .int v3)] [.int x18, .int x9] _ _ _ _
    obtain ⟨z21, h22⟩ := ti_ex (if (8 : Nat) = 7 then (if x9 < x18 then x18 else x9) else (if x18 < x9 then x18 else x9) : Int32)
    have e23 : z21.toInt = min x9.toInt x18.toInt := ti_mm8 h22
    refine mp_math (i := 45) (k := 0) (v := z21) dX1_isPierced_39 rfl (by decide) (Nat.le_of_ble_eq_true rfl) h22 ⟨Nat.le_of_ble_eq_true rfl, Nat.le_of_ble_eq_true rfl⟩ (mpp 42 rfl ?_)
    refine mp_a (a_istore (L' := [(4, .int z21), (0, .ref 294), (1, .int t1), (2, .int v2), (3, .int v3)]) dX1_isPierced_42 (by decide) rfl) (mpp 44 rfl ?_)
    refine mp_a (a_aload_n dX1_isPierced_44 rfl) (mpp 45 rfl ?_)
    refine mt_getU (i := 15) (k := 2) (A := 296) hT dX1_isPierced_45 rfl rl_294 (by decide) rfl (by decide) rfl un_15 (mpp 48 rfl ?_)
    refine mp_a (a_iload_n dX1_isPierced_48 rfl) (mpp 49 rfl ?_)
    refine mp_calls (i := 59) (q' := q_12) (As := [.ref 296, .int v3]) (rest := []) dX1_isPierced_49 rfl qm_12 (by decide) rfl (Nat.le_of_ble_eq_true rfl) rfl ⟨rfl, rfl⟩ ⟨Nat.le_of_ble_eq_true rfl, Nat.le_of_ble_eq_true rfl⟩ (EvP.mono (by decide) (c_F_at_places hT )) (fun r24 P25 g26 => mpp 52 rfl ?_)
    obtain ⟨⟨x27, rfl, g28⟩, e29⟩ := g26
    have e29 := e29.symm
    subst e29
    have wx27 := ti_full x27
    show MEvP _ none q_70 52 [(4, .int z21), (0, .ref 294), (1, .int t1), (2, .int v2), (3, .int v3)] [.int x27] _ _ _ _
    refine mp_a (a_aload_n dX1_isPierced_52 rfl) (mpp 53 rfl ?_)
    refine mt_getU (i := 15) (k := 2) (A := 296) hT dX1_isPierced_53 rfl rl_294 (by decide) rfl (by decide) rfl un_15 (mpp 56 rfl ?_)
    refine mp_a (a_iload_n dX1_isPierced_56 rfl) (mpp 57 rfl ?_)
    refine mp_a (a_iconst (v := 1) dX1_isPierced_57 rfl) (mpp 58 rfl ?_)
    obtain ⟨z30, h31⟩ := ti_ex (v3 + 1 : Int32)
    have wz30 := ti_full z30
    refine mp_t (s_iadd (v := z30) dX1_isPierced_58 h31) (mpp 59 rfl ?_)
    try have e32 : z30.toInt = v3.toInt + 1 := ti_addz h31 rfl rfl (by omega) (by omega)
    refine mp_calls (i := 59) (q' := q_12) (As := [.ref 296, .int z30]) (rest := [.int x27]) dX1_isPierced_59 rfl qm_12 (by decide) rfl (Nat.le_of_ble_eq_true rfl) rfl ⟨rfl, rfl⟩ ⟨Nat.le_of_ble_eq_true rfl, Nat.le_of_ble_eq_true rfl⟩ (EvP.mono (by decide) (c_F_at_places hT )) (fun r33 P34 g35 => mpp 62 rfl ?_)
    obtain ⟨⟨x36, rfl, g37⟩, e38⟩ := g35
    have e38 := e38.symm
    subst e38
    have wx36 := ti_full x36
    show MEvP _ none q_70 62 [(4, .int z21), (0, .ref 294), (1, .int t1), (2, .int v2), (3, .int v3)] [.int x36, .int x27] _ _ _ _
    obtain ⟨z39, h40⟩ := ti_ex (if (7 : Nat) = 7 then (if x27 < x36 then x36 else x27) else (if x36 < x27 then x36 else x27) : Int32)
    have e41 : z39.toInt = max x27.toInt x36.toInt := ti_mm7 h40
    refine mp_math (i := 77) (k := 0) (v := z39) dX1_isPierced_62 rfl (by decide) (Nat.le_of_ble_eq_true rfl) h40 ⟨Nat.le_of_ble_eq_true rfl, Nat.le_of_ble_eq_true rfl⟩ (mpp 65 rfl ?_)
    refine mp_a (a_istore (L' := [(5, .int z39), (4, .int z21), (0, .ref 294), (1, .int t1), (2, .int v2), (3, .int v3)]) dX1_isPierced_65 (by decide) rfl) (mpp 67 rfl ?_)
    refine mp_a (a_iload dX1_isPierced_67 rfl) (mpp 69 rfl ?_)
    refine mp_a (a_iload_n dX1_isPierced_69 rfl) (mpp 70 rfl ?_)
    refine mp_Tb (t := 90) (j_icmp_ge dX1_isPierced_70) (by decide) (fun c42 => ?_) (fun c42 => mpp 73 rfl ?_)
    · have c42 : z21.toInt ≥ v2.toInt := ti_ge c42
      obtain ⟨z43, h44⟩ := ti_ex (v3 + 1 : Int32)
      have wz43 := ti_full z43
      refine mp_a (a_iinc (v := z43) (L' := [(3, .int z43), (5, .int z39), (4, .int z21), (0, .ref 294), (1, .int t1), (2, .int v2)]) dX1_isPierced_90 (by decide) rfl h44 rfl) (mpp 93 rfl ?_)
      try have e45 : z43.toInt = v3.toInt + 1 := ti_addz h44 rfl rfl (by omega) (by omega)
      refine mp_a (a_goto (t := 13) dX1_isPierced_93 (by decide)) ?_
      refine MEvP.less (L := [(0, .ref 294), (1, .int t1), (2, .int v2), (3, .int z43)]) rfl rfl ⟨rfl, rfl, rfl, rfl, trivial⟩ ?_
      have i46 : 0 ≤ z43.toInt := by omega
      exact ih _ (by omega) _ _ i46 rfl
    · have c42 : z21.toInt < v2.toInt := ti_ge_n c42
      refine mp_a (a_iload_n dX1_isPierced_73 rfl) (mpp 74 rfl ?_)
      refine mp_a (a_iload dX1_isPierced_74 rfl) (mpp 76 rfl ?_)
      refine mp_Tb (t := 90) (j_icmp_ge dX1_isPierced_76) (by decide) (fun c47 => ?_) (fun c47 => mpp 79 rfl ?_)
      · have c47 : v2.toInt ≥ z39.toInt := ti_ge c47
        obtain ⟨z48, h49⟩ := ti_ex (v3 + 1 : Int32)
        have wz48 := ti_full z48
        refine mp_a (a_iinc (v := z48) (L' := [(3, .int z48), (5, .int z39), (4, .int z21), (0, .ref 294), (1, .int t1), (2, .int v2)]) dX1_isPierced_90 (by decide) rfl h49 rfl) (mpp 93 rfl ?_)
        try have e50 : z48.toInt = v3.toInt + 1 := ti_addz h49 rfl rfl (by omega) (by omega)
        refine mp_a (a_goto (t := 13) dX1_isPierced_93 (by decide)) ?_
        refine MEvP.less (L := [(0, .ref 294), (1, .int t1), (2, .int v2), (3, .int z48)]) rfl rfl ⟨rfl, rfl, rfl, rfl, trivial⟩ ?_
        have i51 : 0 ≤ z48.toInt := by omega
        exact ih _ (by omega) _ _ i51 rfl
      · have c47 : v2.toInt < z39.toInt := ti_ge_n c47
        refine mp_a (a_aload_n dX1_isPierced_79 rfl) (mpp 80 rfl ?_)
        refine mp_a (a_iload_n dX1_isPierced_80 rfl) (mpp 81 rfl ?_)
        refine mp_a (a_iload_n dX1_isPierced_81 rfl) (mpp 82 rfl ?_)
        refine mt_callv (i := 80) (q' := q_71) (As := [.int v3, .int t1]) (rest := []) hT dX1_isPierced_82 rfl qm_71 (by decide) rfl rl_294 (by decide) rfl (Nat.le_of_ble_eq_true rfl) rfl ⟨rfl, rfl⟩ ⟨Nat.le_of_ble_eq_true rfl, Nat.le_of_ble_eq_true rfl⟩ (EvP.mono (by decide) (c_CL_isBetween_Layers hT )) (fun r52 P53 g54 => mpp 85 rfl ?_)
        obtain ⟨⟨x55, rfl, g56⟩, e57⟩ := g54
        have e57 := e57.symm
        subst e57
        have wx55 := ti_full x55
        have g56 : 0 ≤ x55.toInt ∧ x55.toInt ≤ 1 := g56
        show MEvP _ none q_70 85 [(5, .int z39), (4, .int z21), (0, .ref 294), (1, .int t1), (2, .int v2), (3, .int v3)] [.int x55] _ _ _ _
        refine mp_Tb (t := 90) (j_if_eq dX1_isPierced_85) (by decide) (fun c58 => ?_) (fun c58 => mpp 88 rfl ?_)
        · have c58 : x55.toInt = 0 := ti_eq c58
          obtain ⟨z59, h60⟩ := ti_ex (v3 + 1 : Int32)
          have wz59 := ti_full z59
          refine mp_a (a_iinc (v := z59) (L' := [(3, .int z59), (5, .int z39), (4, .int z21), (0, .ref 294), (1, .int t1), (2, .int v2)]) dX1_isPierced_90 (by decide) rfl h60 rfl) (mpp 93 rfl ?_)
          try have e61 : z59.toInt = v3.toInt + 1 := ti_addz h60 rfl rfl (by omega) (by omega)
          refine mp_a (a_goto (t := 13) dX1_isPierced_93 (by decide)) ?_
          refine MEvP.less (L := [(0, .ref 294), (1, .int t1), (2, .int v2), (3, .int z59)]) rfl rfl ⟨rfl, rfl, rfl, rfl, trivial⟩ ?_
          have i62 : 0 ≤ z59.toInt := by omega
          exact ih _ (by omega) _ _ i62 rfl
        · have c58 : x55.toInt ≠ 0 := ti_eq_n c58
          refine mp_a (a_iconst (v := 1) dX1_isPierced_88 rfl) (mpp 89 rfl ?_)
          have u63 : 0 ≤ (1 : Int) ∧ (1 : Int) ≤ 1 := by omega
          exact mp_iret ⟨⟨_, rfl, u63⟩, rfl⟩ dX1_isPierced_89 (Or.inr ⟨rfl, by decide⟩)

