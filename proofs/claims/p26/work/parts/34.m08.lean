/-! methods on typed pools, 8 (written by a program) -/
set_option maxHeartbeats 4000000 in
theorem c_F_piece {Po : mP} {t1 : Int32} {t2 : Int32} (hT : Typ Po)   : EvP 4 58 [.ref 0, .int t1, .int t2] Po (fun r P' => (∃ x : Int32, r = some (.int x) ∧ (True)) ∧ P' = Po) := by
  refine EvP.of qm_58 (Nat.le_of_ble_eq_true rfl) rfl ?_
  show MEvP _ none q_58 0 [(0, .ref 0), (1, .int t1), (2, .int t2)] [] _ 0 0 _
  refine mp_a (a_aload_n dX6_piece_0 rfl) (mpp 1 rfl ?_)
  refine mt_getU (i := 10) (k := 0) (A := 1) hT dX6_piece_1 rfl rl_0 (by decide) rfl (by decide) rfl un_31 (mpp 4 rfl ?_)
  refine mp_a (a_iload_n dX6_piece_4 rfl) (mpp 5 rfl ?_)
  refine mt_callv (i := 94) (q' := q_9) (As := [.int t1]) (rest := []) hT dX6_piece_5 rfl qm_9 (by decide) rfl rl_1 (by decide) rfl (Nat.le_of_ble_eq_true rfl) rfl ⟨rfl, rfl⟩ ⟨Nat.le_of_ble_eq_true rfl, Nat.le_of_ble_eq_true rfl⟩ (EvP.mono (by decide) (c_CS_pieceAt_NState hT )) (fun r1 P2 g3 => mpp 8 rfl ?_)
  obtain ⟨g3, e4⟩ := g3
  have e4 := e4.symm
  subst e4
  rcases g3 with rfl | ⟨b5, rfl, q6⟩
  · show MEvP _ none q_58 8 [(0, .ref 0), (1, .int t1), (2, .int t2)] [.null] _ _ _ _
    refine mp_a (a_astore_nN (L' := [(3, .null), (0, .ref 0), (1, .int t1), (2, .int t2)]) dX6_piece_8 (by decide) rfl) (mpp 9 rfl ?_)
    refine mp_a (a_aload_nN dX6_piece_9 rfl) (mpp 10 rfl ?_)
    refine mp_t (s_ifnonnullN dX6_piece_10) (mpp 13 rfl ?_)
    refine mp_a (a_sipush (v := -1001) dX6_piece_13 rfl) (mpp 16 rfl ?_)
    exact mp_iret ⟨⟨_, rfl, trivial⟩, rfl⟩ dX6_piece_16 (Or.inl rfl)
  · show MEvP _ none q_58 8 [(0, .ref 0), (1, .int t1), (2, .int t2)] [.ref b5] _ _ _ _
    refine mp_a (a_astore_n (L' := [(3, .ref b5), (0, .ref 0), (1, .int t1), (2, .int t2)]) dX6_piece_8 (by decide) rfl) (mpp 9 rfl ?_)
    refine mp_a (a_aload_n dX6_piece_9 rfl) (mpp 10 rfl ?_)
    refine mp_t (s_ifnonnullR (t := 17) dX6_piece_10 (by decide)) ?_
    refine mp_a (a_iload_n dX6_piece_17 rfl) (mpp 18 rfl ?_)
    have c7 : (t2.toInt < 0 ∨ 8 < t2.toInt) ∨ t2.toInt = 0 ∨ t2.toInt = 1 ∨ t2.toInt = 2 ∨ t2.toInt = 3 ∨ t2.toInt = 4 ∨ t2.toInt = 5 ∨ t2.toInt = 6 ∨ t2.toInt = 7 ∨ t2.toInt = 8 := by omega
    rcases c7 with c7 | c7 | c7 | c7 | c7 | c7 | c7 | c7 | c7 | c7
    · refine mp_t (s_tabOut (t := 124) dX6_piece_18 c7 (by decide)) ?_
      refine mp_a (a_sipush (v := -1002) dX6_piece_124 rfl) (mpp 127 rfl ?_)
      exact mp_iret ⟨⟨_, rfl, trivial⟩, rfl⟩ dX6_piece_127 (Or.inl rfl)
    · refine mp_t (s_tabIn (t := 68) (off := 50) dX6_piece_18 (by omega) (by rw [c7]; rfl) (by decide)) ?_
      refine mp_a (a_aload_n dX6_piece_68 rfl) (mpp 69 rfl ?_)
      have g8 := ti_full (fv Po b5 0)
      refine mt_getI (i := 130) (k := 0) hT dX6_piece_69 rfl q6 (by decide) rfl (by decide) rfl (fun g9 g10 => mpp 72 rfl ?_)
      exact mp_iret ⟨⟨_, rfl, trivial⟩, rfl⟩ dX6_piece_72 (Or.inl rfl)
    · refine mp_t (s_tabIn (t := 73) (off := 55) dX6_piece_18 (by omega) (by rw [c7]; rfl) (by decide)) ?_
      refine mp_a (a_aload_n dX6_piece_73 rfl) (mpp 74 rfl ?_)
      have g11 : (0 : Int) ≤ (fv Po b5 1).toInt ∧ (fv Po b5 1).toInt ≤ 8 := Typ.rng hT q6 (by decide) (by decide) rfl
      refine mt_getI (i := 143) (k := 1) hT dX6_piece_74 rfl q6 (by decide) rfl (by decide) rfl (fun g12 g13 => mpp 77 rfl ?_)
      exact mp_iret ⟨⟨_, rfl, trivial⟩, rfl⟩ dX6_piece_77 (Or.inl rfl)
    · refine mp_t (s_tabIn (t := 78) (off := 60) dX6_piece_18 (by omega) (by rw [c7]; rfl) (by decide)) ?_
      refine mp_a (a_aload_n dX6_piece_78 rfl) (mpp 79 rfl ?_)
      refine mt_callv (i := 123) (q' := q_25) (As := []) (rest := []) hT dX6_piece_79 rfl qm_25 (by decide) rfl q6 (by decide) rfl (Nat.le_of_ble_eq_true rfl) rfl ⟨rfl, rfl⟩ ⟨Nat.le_of_ble_eq_true rfl, Nat.le_of_ble_eq_true rfl⟩ (EvP.mono (by decide) (c_CP_creaseCount_NPiece hT q6)) (fun r14 P15 g16 => mpp 82 rfl ?_)
      obtain ⟨⟨x17, rfl, g18⟩, e19⟩ := g16
      have e19 := e19.symm
      subst e19
      have wx17 := ti_full x17
      have g18 : -1 ≤ x17.toInt ∧ x17.toInt ≤ (fv Po b5 1).toInt := g18
      have g20 : (0 : Int) ≤ (fv Po b5 1).toInt ∧ (fv Po b5 1).toInt ≤ 8 := Typ.rng hT q6 (by decide) (by decide) rfl
      show MEvP _ none q_58 82 [(3, .ref b5), (0, .ref 0), (1, .int t1), (2, .int t2)] [.int x17] _ _ _ _
      exact mp_iret ⟨⟨_, rfl, trivial⟩, rfl⟩ dX6_piece_82 (Or.inl rfl)
    · refine mp_t (s_tabIn (t := 83) (off := 65) dX6_piece_18 (by omega) (by rw [c7]; rfl) (by decide)) ?_
      refine mp_a (a_aload_n dX6_piece_83 rfl) (mpp 84 rfl ?_)
      refine mp_a (a_iconst (v := 1) dX6_piece_84 rfl) (mpp 85 rfl ?_)
      refine mt_callv (i := 126) (q' := q_32) (As := [.int 1]) (rest := []) hT dX6_piece_85 rfl qm_32 (by decide) rfl q6 (by decide) rfl (Nat.le_of_ble_eq_true rfl) rfl ⟨rfl, rfl⟩ ⟨Nat.le_of_ble_eq_true rfl, Nat.le_of_ble_eq_true rfl⟩ (EvP.mono (by decide) (c_CP_countOf_NPiece hT q6)) (fun r21 P22 g23 => mpp 88 rfl ?_)
      obtain ⟨⟨x24, rfl, g25⟩, e26⟩ := g23
      have e26 := e26.symm
      subst e26
      have wx24 := ti_full x24
      show MEvP _ none q_58 88 [(3, .ref b5), (0, .ref 0), (1, .int t1), (2, .int t2)] [.int x24] _ _ _ _
      exact mp_iret ⟨⟨_, rfl, trivial⟩, rfl⟩ dX6_piece_88 (Or.inl rfl)
    · refine mp_t (s_tabIn (t := 89) (off := 71) dX6_piece_18 (by omega) (by rw [c7]; rfl) (by decide)) ?_
      refine mp_a (a_aload_n dX6_piece_89 rfl) (mpp 90 rfl ?_)
      refine mp_a (a_iconst (v := 2) dX6_piece_90 rfl) (mpp 91 rfl ?_)
      refine mt_callv (i := 126) (q' := q_32) (As := [.int 2]) (rest := []) hT dX6_piece_91 rfl qm_32 (by decide) rfl q6 (by decide) rfl (Nat.le_of_ble_eq_true rfl) rfl ⟨rfl, rfl⟩ ⟨Nat.le_of_ble_eq_true rfl, Nat.le_of_ble_eq_true rfl⟩ (EvP.mono (by decide) (c_CP_countOf_NPiece hT q6)) (fun r27 P28 g29 => mpp 94 rfl ?_)
      obtain ⟨⟨x30, rfl, g31⟩, e32⟩ := g29
      have e32 := e32.symm
      subst e32
      have wx30 := ti_full x30
      show MEvP _ none q_58 94 [(3, .ref b5), (0, .ref 0), (1, .int t1), (2, .int t2)] [.int x30] _ _ _ _
      exact mp_iret ⟨⟨_, rfl, trivial⟩, rfl⟩ dX6_piece_94 (Or.inl rfl)
    · refine mp_t (s_tabIn (t := 95) (off := 77) dX6_piece_18 (by omega) (by rw [c7]; rfl) (by decide)) ?_
      refine mp_a (a_aload_n dX6_piece_95 rfl) (mpp 96 rfl ?_)
      refine mp_a (a_iconst (v := 0) dX6_piece_96 rfl) (mpp 97 rfl ?_)
      refine mt_callv (i := 126) (q' := q_32) (As := [.int 0]) (rest := []) hT dX6_piece_97 rfl qm_32 (by decide) rfl q6 (by decide) rfl (Nat.le_of_ble_eq_true rfl) rfl ⟨rfl, rfl⟩ ⟨Nat.le_of_ble_eq_true rfl, Nat.le_of_ble_eq_true rfl⟩ (EvP.mono (by decide) (c_CP_countOf_NPiece hT q6)) (fun r33 P34 g35 => mpp 100 rfl ?_)
      obtain ⟨⟨x36, rfl, g37⟩, e38⟩ := g35
      have e38 := e38.symm
      subst e38
      have wx36 := ti_full x36
      show MEvP _ none q_58 100 [(3, .ref b5), (0, .ref 0), (1, .int t1), (2, .int t2)] [.int x36] _ _ _ _
      exact mp_iret ⟨⟨_, rfl, trivial⟩, rfl⟩ dX6_piece_100 (Or.inl rfl)
    · refine mp_t (s_tabIn (t := 101) (off := 83) dX6_piece_18 (by omega) (by rw [c7]; rfl) (by decide)) ?_
      refine mp_a (a_aload_n dX6_piece_101 rfl) (mpp 102 rfl ?_)
      refine mt_callv (i := 175) (q' := q_23) (As := []) (rest := []) hT dX6_piece_102 rfl qm_23 (by decide) rfl q6 (by decide) rfl (Nat.le_of_ble_eq_true rfl) rfl ⟨rfl, rfl⟩ ⟨Nat.le_of_ble_eq_true rfl, Nat.le_of_ble_eq_true rfl⟩ (EvP.mono (by decide) (c_CP_sum_NPiece hT q6)) (fun r39 P40 g41 => mpp 105 rfl ?_)
      obtain ⟨⟨x42, rfl, g43⟩, e44⟩ := g41
      have e44 := e44.symm
      subst e44
      have wx42 := ti_full x42
      show MEvP _ none q_58 105 [(3, .ref b5), (0, .ref 0), (1, .int t1), (2, .int t2)] [.int x42] _ _ _ _
      exact mp_iret ⟨⟨_, rfl, trivial⟩, rfl⟩ dX6_piece_105 (Or.inl rfl)
    · refine mp_t (s_tabIn (t := 106) (off := 88) dX6_piece_18 (by omega) (by rw [c7]; rfl) (by decide)) ?_
      refine mp_a (a_aload_n dX6_piece_106 rfl) (mpp 107 rfl ?_)
      have g45 : (0 : Int) ≤ (fv Po b5 2).toInt ∧ (fv Po b5 2).toInt ≤ 1 := Typ.rng hT q6 (by decide) (by decide) rfl
      refine mt_getI (i := 104) (k := 2) hT dX6_piece_107 rfl q6 (by decide) rfl (by decide) rfl (fun g46 g47 => mpp 110 rfl ?_)
      refine mp_Tb (t := 117) (j_if_eq dX6_piece_110) (by decide) (fun c48 => ?_) (fun c48 => mpp 113 rfl ?_)
      · have c48 : (fv Po b5 2).toInt = 0 := ti_eq c48
        refine mp_a (a_iconst (v := 0) dX6_piece_117 rfl) (mpp 118 rfl ?_)
        exact mp_iret ⟨⟨_, rfl, trivial⟩, rfl⟩ dX6_piece_118 (Or.inl rfl)
      · have c48 : (fv Po b5 2).toInt ≠ 0 := ti_eq_n c48
        refine mp_a (a_iconst (v := 1) dX6_piece_113 rfl) (mpp 114 rfl ?_)
        refine mp_a (a_goto (t := 118) dX6_piece_114 (by decide)) ?_
        exact mp_iret ⟨⟨_, rfl, trivial⟩, rfl⟩ dX6_piece_118 (Or.inl rfl)
    · refine mp_t (s_tabIn (t := 119) (off := 101) dX6_piece_18 (by omega) (by rw [c7]; rfl) (by decide)) ?_
      refine mp_a (a_aload_n dX6_piece_119 rfl) (mpp 120 rfl ?_)
      refine mt_callv (i := 170) (q' := q_10) (As := []) (rest := []) hT dX6_piece_120 rfl qm_10 (by decide) rfl q6 (by decide) rfl (Nat.le_of_ble_eq_true rfl) rfl ⟨rfl, rfl⟩ ⟨Nat.le_of_ble_eq_true rfl, Nat.le_of_ble_eq_true rfl⟩ (EvP.mono (by decide) (c_CP_width_NPiece hT q6)) (fun r49 P50 g51 => mpp 123 rfl ?_)
      obtain ⟨⟨x52, rfl, g53⟩, e54⟩ := g51
      have e54 := e54.symm
      subst e54
      have wx52 := ti_full x52
      show MEvP _ none q_58 123 [(3, .ref b5), (0, .ref 0), (1, .int t1), (2, .int t2)] [.int x52] _ _ _ _
      exact mp_iret ⟨⟨_, rfl, trivial⟩, rfl⟩ dX6_piece_123 (Or.inl rfl)

set_option maxHeartbeats 4000000 in
theorem c_F_size {Po : mP} {t1 : Int32} {t2 : Int32} (hT : Typ Po)   : EvP 2 59 [.ref 0, .int t1, .int t2] Po (fun r P' => (∃ x : Int32, r = some (.int x) ∧ (True)) ∧ P' = Po) := by
  refine EvP.of qm_59 (Nat.le_of_ble_eq_true rfl) rfl ?_
  show MEvP _ none q_59 0 [(0, .ref 0), (1, .int t1), (2, .int t2)] [] _ 0 0 _
  refine mp_a (a_aload_n dX6_size_0 rfl) (mpp 1 rfl ?_)
  refine mt_getU (i := 10) (k := 0) (A := 1) hT dX6_size_1 rfl rl_0 (by decide) rfl (by decide) rfl un_31 (mpp 4 rfl ?_)
  refine mp_a (a_iload_n dX6_size_4 rfl) (mpp 5 rfl ?_)
  refine mt_callv (i := 94) (q' := q_9) (As := [.int t1]) (rest := []) hT dX6_size_5 rfl qm_9 (by decide) rfl rl_1 (by decide) rfl (Nat.le_of_ble_eq_true rfl) rfl ⟨rfl, rfl⟩ ⟨Nat.le_of_ble_eq_true rfl, Nat.le_of_ble_eq_true rfl⟩ (EvP.mono (by decide) (c_CS_pieceAt_NState hT )) (fun r1 P2 g3 => mpp 8 rfl ?_)
  obtain ⟨g3, e4⟩ := g3
  have e4 := e4.symm
  subst e4
  rcases g3 with rfl | ⟨b5, rfl, q6⟩
  · show MEvP _ none q_59 8 [(0, .ref 0), (1, .int t1), (2, .int t2)] [.null] _ _ _ _
    refine mp_a (a_astore_nN (L' := [(3, .null), (0, .ref 0), (1, .int t1), (2, .int t2)]) dX6_size_8 (by decide) rfl) (mpp 9 rfl ?_)
    refine mp_a (a_aload_nN dX6_size_9 rfl) (mpp 10 rfl ?_)
    refine mp_t (s_ifnullN (t := 25) dX6_size_10 (by decide)) ?_
    refine mp_a (a_sipush (v := -1001) dX6_size_25 rfl) (mpp 28 rfl ?_)
    exact mp_iret ⟨⟨_, rfl, trivial⟩, rfl⟩ dX6_size_28 (Or.inl rfl)
  · show MEvP _ none q_59 8 [(0, .ref 0), (1, .int t1), (2, .int t2)] [.ref b5] _ _ _ _
    refine mp_a (a_astore_n (L' := [(3, .ref b5), (0, .ref 0), (1, .int t1), (2, .int t2)]) dX6_size_8 (by decide) rfl) (mpp 9 rfl ?_)
    refine mp_a (a_aload_n dX6_size_9 rfl) (mpp 10 rfl ?_)
    refine mp_t (s_ifnullR dX6_size_10) (mpp 13 rfl ?_)
    refine mp_a (a_iload_n dX6_size_13 rfl) (mpp 14 rfl ?_)
    refine mp_Tb (t := 25) (j_if_lt dX6_size_14) (by decide) (fun c7 => ?_) (fun c7 => mpp 17 rfl ?_)
    · have c7 : t2.toInt < 0 := ti_lt c7
      refine mp_a (a_sipush (v := -1001) dX6_size_25 rfl) (mpp 28 rfl ?_)
      exact mp_iret ⟨⟨_, rfl, trivial⟩, rfl⟩ dX6_size_28 (Or.inl rfl)
    · have c7 : t2.toInt ≥ 0 := ti_lt_n c7
      refine mp_a (a_iload_n dX6_size_17 rfl) (mpp 18 rfl ?_)
      refine mp_a (a_aload_n dX6_size_18 rfl) (mpp 19 rfl ?_)
      have g8 : (0 : Int) ≤ (fv Po b5 1).toInt ∧ (fv Po b5 1).toInt ≤ 8 := Typ.rng hT q6 (by decide) (by decide) rfl
      refine mt_getI (i := 143) (k := 1) hT dX6_size_19 rfl q6 (by decide) rfl (by decide) rfl (fun g9 g10 => mpp 22 rfl ?_)
      refine mp_Tb (t := 29) (j_icmp_lt dX6_size_22) (by decide) (fun c11 => ?_) (fun c11 => mpp 25 rfl ?_)
      · have c11 : t2.toInt < (fv Po b5 1).toInt := ti_lt c11
        refine mp_a (a_aload_n dX6_size_29 rfl) (mpp 30 rfl ?_)
        refine mt_getR (i := 178) (k := 3) hT dX6_size_30 rfl q6 (by decide) rfl (by decide) rfl (fun q12 => mpp 33 rfl ?_)
        generalize rv Po b5 3 = b13 at q12 ⊢
        refine mp_a (a_iload_n dX6_size_33 rfl) (mpp 34 rfl ?_)
        refine mp_calls (i := 112) (q' := q_12) (As := [.ref b13, .int t2]) (rest := []) dX6_size_34 rfl qm_12 (by decide) rfl (Nat.le_of_ble_eq_true rfl) rfl ⟨rfl, rfl⟩ ⟨Nat.le_of_ble_eq_true rfl, Nat.le_of_ble_eq_true rfl⟩ (EvP.mono (by decide) (c_F_at_sizes hT q12)) (fun r14 P15 g16 => mpp 37 rfl ?_)
        obtain ⟨⟨x17, rfl, g18⟩, e19⟩ := g16
        have e19 := e19.symm
        subst e19
        have wx17 := ti_full x17
        show MEvP _ none q_59 37 [(3, .ref b5), (0, .ref 0), (1, .int t1), (2, .int t2)] [.int x17] _ _ _ _
        exact mp_iret ⟨⟨_, rfl, trivial⟩, rfl⟩ dX6_size_37 (Or.inl rfl)
      · have c11 : t2.toInt ≥ (fv Po b5 1).toInt := ti_lt_n c11
        refine mp_a (a_sipush (v := -1001) dX6_size_25 rfl) (mpp 28 rfl ?_)
        exact mp_iret ⟨⟨_, rfl, trivial⟩, rfl⟩ dX6_size_28 (Or.inl rfl)

set_option maxHeartbeats 4000000 in
theorem c_F_crease {Po : mP} {t1 : Int32} {t2 : Int32} (hT : Typ Po)   : EvP 3 60 [.ref 0, .int t1, .int t2] Po (fun r P' => (∃ x : Int32, r = some (.int x) ∧ (True)) ∧ P' = Po) := by
  refine EvP.of qm_60 (Nat.le_of_ble_eq_true rfl) rfl ?_
  show MEvP _ none q_60 0 [(0, .ref 0), (1, .int t1), (2, .int t2)] [] _ 0 0 _
  refine mp_a (a_aload_n dX6_crease_0 rfl) (mpp 1 rfl ?_)
  refine mt_getU (i := 10) (k := 0) (A := 1) hT dX6_crease_1 rfl rl_0 (by decide) rfl (by decide) rfl un_31 (mpp 4 rfl ?_)
  refine mp_a (a_iload_n dX6_crease_4 rfl) (mpp 5 rfl ?_)
  refine mt_callv (i := 94) (q' := q_9) (As := [.int t1]) (rest := []) hT dX6_crease_5 rfl qm_9 (by decide) rfl rl_1 (by decide) rfl (Nat.le_of_ble_eq_true rfl) rfl ⟨rfl, rfl⟩ ⟨Nat.le_of_ble_eq_true rfl, Nat.le_of_ble_eq_true rfl⟩ (EvP.mono (by decide) (c_CS_pieceAt_NState hT )) (fun r1 P2 g3 => mpp 8 rfl ?_)
  obtain ⟨g3, e4⟩ := g3
  have e4 := e4.symm
  subst e4
  rcases g3 with rfl | ⟨b5, rfl, q6⟩
  · show MEvP _ none q_60 8 [(0, .ref 0), (1, .int t1), (2, .int t2)] [.null] _ _ _ _
    refine mp_a (a_astore_nN (L' := [(3, .null), (0, .ref 0), (1, .int t1), (2, .int t2)]) dX6_crease_8 (by decide) rfl) (mpp 9 rfl ?_)
    refine mp_a (a_aload_nN dX6_crease_9 rfl) (mpp 10 rfl ?_)
    refine mp_t (s_ifnullN (t := 21) dX6_crease_10 (by decide)) ?_
    refine mp_a (a_sipush (v := -1001) dX6_crease_21 rfl) (mpp 24 rfl ?_)
    exact mp_iret ⟨⟨_, rfl, trivial⟩, rfl⟩ dX6_crease_24 (Or.inl rfl)
  · show MEvP _ none q_60 8 [(0, .ref 0), (1, .int t1), (2, .int t2)] [.ref b5] _ _ _ _
    refine mp_a (a_astore_n (L' := [(3, .ref b5), (0, .ref 0), (1, .int t1), (2, .int t2)]) dX6_crease_8 (by decide) rfl) (mpp 9 rfl ?_)
    refine mp_a (a_aload_n dX6_crease_9 rfl) (mpp 10 rfl ?_)
    refine mp_t (s_ifnullR dX6_crease_10) (mpp 13 rfl ?_)
    refine mp_a (a_aload_n dX6_crease_13 rfl) (mpp 14 rfl ?_)
    refine mp_a (a_iload_n dX6_crease_14 rfl) (mpp 15 rfl ?_)
    refine mt_callv (i := 98) (q' := q_29) (As := [.int t2]) (rest := []) hT dX6_crease_15 rfl qm_29 (by decide) rfl q6 (by decide) rfl (Nat.le_of_ble_eq_true rfl) rfl ⟨rfl, rfl⟩ ⟨Nat.le_of_ble_eq_true rfl, Nat.le_of_ble_eq_true rfl⟩ (EvP.mono (by decide) (c_CP_hasCrease_NPiece hT q6)) (fun r7 P8 g9 => mpp 18 rfl ?_)
    obtain ⟨⟨x10, rfl, g11⟩, e12⟩ := g9
    have e12 := e12.symm
    subst e12
    have wx10 := ti_full x10
    have g11 : 0 ≤ x10.toInt ∧ x10.toInt ≤ 1 ∧ (x10.toInt = 0 ∨ (0 ≤ t2.toInt ∧ t2.toInt + 1 ≤ (fv Po b5 1).toInt)) := g11
    have g13 : (0 : Int) ≤ (fv Po b5 1).toInt ∧ (fv Po b5 1).toInt ≤ 8 := Typ.rng hT q6 (by decide) (by decide) rfl
    show MEvP _ none q_60 18 [(3, .ref b5), (0, .ref 0), (1, .int t1), (2, .int t2)] [.int x10] _ _ _ _
    refine mp_Tb (t := 25) (j_if_ne dX6_crease_18) (by decide) (fun c14 => ?_) (fun c14 => mpp 21 rfl ?_)
    · have c14 : x10.toInt ≠ 0 := ti_ne c14
      refine mp_a (a_aload_n dX6_crease_25 rfl) (mpp 26 rfl ?_)
      refine mt_getR (i := 108) (k := 4) hT dX6_crease_26 rfl q6 (by decide) rfl (by decide) rfl (fun q15 => mpp 29 rfl ?_)
      generalize rv Po b5 4 = b16 at q15 ⊢
      refine mp_a (a_iload_n dX6_crease_29 rfl) (mpp 30 rfl ?_)
      refine mp_calls (i := 112) (q' := q_12) (As := [.ref b16, .int t2]) (rest := []) dX6_crease_30 rfl qm_12 (by decide) rfl (Nat.le_of_ble_eq_true rfl) rfl ⟨rfl, rfl⟩ ⟨Nat.le_of_ble_eq_true rfl, Nat.le_of_ble_eq_true rfl⟩ (EvP.mono (by decide) (c_F_at_creases hT q15)) (fun r17 P18 g19 => mpp 33 rfl ?_)
      obtain ⟨⟨x20, rfl, g21⟩, e22⟩ := g19
      have e22 := e22.symm
      subst e22
      have wx20 := ti_full x20
      show MEvP _ none q_60 33 [(3, .ref b5), (0, .ref 0), (1, .int t1), (2, .int t2)] [.int x20] _ _ _ _
      exact mp_iret ⟨⟨_, rfl, trivial⟩, rfl⟩ dX6_crease_33 (Or.inl rfl)
    · have c14 : x10.toInt = 0 := ti_ne_n c14
      refine mp_a (a_sipush (v := -1001) dX6_crease_21 rfl) (mpp 24 rfl ?_)
      exact mp_iret ⟨⟨_, rfl, trivial⟩, rfl⟩ dX6_crease_24 (Or.inl rfl)

set_option maxHeartbeats 4000000 in
theorem c_F_why {Po : mP} {t1 : Int32} (hT : Typ Po)   : EvP 5 61 [.ref 0, .int t1] Po (fun r P' => (∃ x : Int32, r = some (.int x) ∧ (True)) ∧ Typ P' ∧ KW [640, 641, 704, 768] Po P' ∧ True) := by
  refine EvP.of qm_61 (Nat.le_of_ble_eq_true rfl) rfl ?_
  show MEvP _ none q_61 0 [(0, .ref 0), (1, .int t1)] [] _ 0 0 _
  refine mp_a (a_aload_n dX6_why_0 rfl) (mpp 1 rfl ?_)
  refine mt_getU (i := 10) (k := 0) (A := 1) hT dX6_why_1 rfl rl_0 (by decide) rfl (by decide) rfl un_31 (mpp 4 rfl ?_)
  refine mp_a (a_iload_n dX6_why_4 rfl) (mpp 5 rfl ?_)
  refine mt_callv (i := 94) (q' := q_9) (As := [.int t1]) (rest := []) hT dX6_why_5 rfl qm_9 (by decide) rfl rl_1 (by decide) rfl (Nat.le_of_ble_eq_true rfl) rfl ⟨rfl, rfl⟩ ⟨Nat.le_of_ble_eq_true rfl, Nat.le_of_ble_eq_true rfl⟩ (EvP.mono (by decide) (c_CS_pieceAt_NState hT )) (fun r1 P2 g3 => mpp 8 rfl ?_)
  obtain ⟨g3, e4⟩ := g3
  have e4 := e4.symm
  subst e4
  rcases g3 with rfl | ⟨b5, rfl, q6⟩
  · show MEvP _ none q_61 8 [(0, .ref 0), (1, .int t1)] [.null] _ _ _ _
    refine mp_a (a_astore_nN (L' := [(2, .null), (0, .ref 0), (1, .int t1)]) dX6_why_8 (by decide) rfl) (mpp 9 rfl ?_)
    refine mp_a (a_aload_nN dX6_why_9 rfl) (mpp 10 rfl ?_)
    refine mp_t (s_ifnonnullN dX6_why_10) (mpp 13 rfl ?_)
    refine mp_a (a_sipush (v := -1001) dX6_why_13 rfl) (mpp 16 rfl ?_)
    refine mp_a (a_goto (t := 27) dX6_why_16 (by decide)) ?_
    exact mp_iret ⟨⟨_, rfl, trivial⟩, hT, KW.refl, trivial⟩ dX6_why_27 (Or.inl rfl)
  · show MEvP _ none q_61 8 [(0, .ref 0), (1, .int t1)] [.ref b5] _ _ _ _
    refine mp_a (a_astore_n (L' := [(2, .ref b5), (0, .ref 0), (1, .int t1)]) dX6_why_8 (by decide) rfl) (mpp 9 rfl ?_)
    refine mp_a (a_aload_n dX6_why_9 rfl) (mpp 10 rfl ?_)
    refine mp_t (s_ifnonnullR (t := 19) dX6_why_10 (by decide)) ?_
    refine mp_a (a_aload_n dX6_why_19 rfl) (mpp 20 rfl ?_)
    refine mt_getU (i := 39) (k := 5) (A := 291) hT dX6_why_20 rfl rl_0 (by decide) rfl (by decide) rfl un_10 (mpp 23 rfl ?_)
    refine mp_a (a_aload_n dX6_why_23 rfl) (mpp 24 rfl ?_)
    refine mt_callv (i := 166) (q' := q_44) (As := [.ref b5]) (rest := []) hT dX6_why_24 rfl qm_44 (by decide) rfl rl_291 (by decide) rfl (Nat.le_of_ble_eq_true rfl) rfl ⟨rfl, rfl⟩ ⟨Nat.le_of_ble_eq_true rfl, Nat.le_of_ble_eq_true rfl⟩ (EvP.mono (by decide) (c_CR_whatStandsInTheWay_Reducer_NPiece hT q6)) (fun r7 P8 g9 => mpp 27 rfl ?_)
    obtain ⟨⟨x10, rfl, g11⟩, hT12, k13, R14⟩ := g9
    have k15 : KW [640, 641, 704, 768] Po P8 := KW.trans KW.refl k13 rfl
    have wx10 := ti_full x10
    show MEvP _ none q_61 27 [(2, .ref b5), (0, .ref 0), (1, .int t1)] [.int x10] _ _ _ _
    exact mp_iret ⟨⟨_, rfl, trivial⟩, hT12, k15, trivial⟩ dX6_why_27 (Or.inl rfl)

set_option maxHeartbeats 4000000 in
theorem c_F_errorOfDecidedStrip_null {Po : mP}  (hT : Typ Po)   : EvP 1 63 [.null] Po (fun r P' => (∃ x : Int32, r = some (.int x) ∧ (True)) ∧ P' = Po) := by
  refine EvP.of qm_63 (Nat.le_of_ble_eq_true rfl) rfl ?_
  show MEvP _ none q_63 0 [(0, .null)] [] _ 0 0 _
  refine mp_a (a_aload_nN dX6_errorOfDecidedStrip_0 rfl) (mpp 1 rfl ?_)
  refine mp_t (s_ifnonnullN dX6_errorOfDecidedStrip_1) (mpp 4 rfl ?_)
  refine mp_a (a_sipush (v := -1001) dX6_errorOfDecidedStrip_4 rfl) (mpp 7 rfl ?_)
  exact mp_iret ⟨⟨_, rfl, trivial⟩, rfl⟩ dX6_errorOfDecidedStrip_7 (Or.inl rfl)

set_option maxHeartbeats 4000000 in
theorem c_F_errorOfDecidedStrip_NPiece {Po : mP} {a0_ : Nat} (hT : Typ Po)  (ha0 : rl a0_ = 33) : EvP 4 63 [.ref a0_] Po (fun r P' => (∃ x : Int32, r = some (.int x) ∧ (True)) ∧ P' = Po) := by
  refine EvP.of qm_63 (Nat.le_of_ble_eq_true rfl) rfl ?_
  show MEvP _ none q_63 0 [(0, .ref a0_)] [] _ 0 0 _
  refine mp_a (a_aload_n dX6_errorOfDecidedStrip_0 rfl) (mpp 1 rfl ?_)
  refine mp_t (s_ifnonnullR (t := 8) dX6_errorOfDecidedStrip_1 (by decide)) ?_
  refine mp_a (a_aload_n dX6_errorOfDecidedStrip_8 rfl) (mpp 9 rfl ?_)
  have g1 := ti_full (fv Po a0_ 0)
  refine mt_getI (i := 130) (k := 0) hT dX6_errorOfDecidedStrip_9 rfl ha0 (by decide) rfl (by decide) rfl (fun g2 g3 => mpp 12 rfl ?_)
  refine mp_Tb (t := 19) (j_if_eq dX6_errorOfDecidedStrip_12) (by decide) (fun c4 => ?_) (fun c4 => mpp 15 rfl ?_)
  · have c4 : (fv Po a0_ 0).toInt = 0 := ti_eq c4
    refine mp_a (a_aload_n dX6_errorOfDecidedStrip_19 rfl) (mpp 20 rfl ?_)
    refine mt_callv (i := 159) (q' := q_42) (As := []) (rest := []) hT dX6_errorOfDecidedStrip_20 rfl qm_42 (by decide) rfl ha0 (by decide) rfl (Nat.le_of_ble_eq_true rfl) rfl ⟨rfl, rfl⟩ ⟨Nat.le_of_ble_eq_true rfl, Nat.le_of_ble_eq_true rfl⟩ (EvP.mono (by decide) (c_CP_isUndecided_NPiece hT ha0)) (fun r5 P6 g7 => mpp 23 rfl ?_)
    obtain ⟨⟨x8, rfl, g9⟩, e10⟩ := g7
    have e10 := e10.symm
    subst e10
    have wx8 := ti_full x8
    have g9 : 0 ≤ x8.toInt ∧ x8.toInt ≤ 1 := g9
    show MEvP _ none q_63 23 [(0, .ref a0_)] [.int x8] _ _ _ _
    refine mp_Tb (t := 32) (j_if_eq dX6_errorOfDecidedStrip_23) (by decide) (fun c11 => ?_) (fun c11 => mpp 26 rfl ?_)
    · have c11 : x8.toInt = 0 := ti_eq c11
      refine mp_a (a_iconst (v := 0) dX6_errorOfDecidedStrip_32 rfl) (mpp 33 rfl ?_)
      exact mp_iret ⟨⟨_, rfl, trivial⟩, rfl⟩ dX6_errorOfDecidedStrip_33 (Or.inl rfl)
    · have c11 : x8.toInt ≠ 0 := ti_eq_n c11
      refine mp_a (a_sipush (v := -1004) dX6_errorOfDecidedStrip_26 rfl) (mpp 29 rfl ?_)
      refine mp_a (a_goto (t := 33) dX6_errorOfDecidedStrip_29 (by decide)) ?_
      exact mp_iret ⟨⟨_, rfl, trivial⟩, rfl⟩ dX6_errorOfDecidedStrip_33 (Or.inl rfl)
  · have c4 : (fv Po a0_ 0).toInt ≠ 0 := ti_eq_n c4
    refine mp_a (a_sipush (v := -1002) dX6_errorOfDecidedStrip_15 rfl) (mpp 18 rfl ?_)
    exact mp_iret ⟨⟨_, rfl, trivial⟩, rfl⟩ dX6_errorOfDecidedStrip_18 (Or.inl rfl)

set_option maxHeartbeats 4000000 in
theorem c_F_copyRow_creases_lcreases_l2 {Po : mP} {a0_ : Nat} (ha0 : rl a0_ = 5) : ∀ (n : Nat) (v2 : Int32), ∀ (P : mP), Typ P → KW [1024] Po P → (0 ≤ v2.toInt) → (2147483647 - v2.toInt).toNat = n → MEvP 0 none q_19 2 [(0, .ref a0_), (1, .ref 297), (2, .int v2)] [] P 0 0 (fun r P' => (r = none ∧ (True)) ∧ Typ P' ∧ KW [1024] Po P' ∧ True) := by
  intro n
  induction n using Nat.strongRecOn with | _ n ih => ?_
  intro v2 P hT hK i_0 hm
  have w_v2 := ti_full v2
  refine mp_a (a_iload_n dX6_copyRow_2 rfl) (mpp 3 rfl ?_)
  refine mp_a (a_aload_n dX6_copyRow_3 rfl) (mpp 4 rfl ?_)
  refine mt_len (n := 8) hT dX6_copyRow_4 ha0 (by decide) (by decide) rfl (mpp 5 rfl ?_)
  refine mp_Tb (t := 26) (j_icmp_ge dX6_copyRow_5) (by decide) (fun c1 => ?_) (fun c1 => mpp 8 rfl ?_)
  · have c1 : v2.toInt ≥ 8 := ti_ge c1
    exact mp_ret ⟨⟨rfl, trivial⟩, hT, hK, trivial⟩ dX6_copyRow_26 rfl
  · have c1 : v2.toInt < 8 := ti_ge_n c1
    refine mp_a (a_iload_n dX6_copyRow_8 rfl) (mpp 9 rfl ?_)
    refine mp_a (a_aload_n dX6_copyRow_9 rfl) (mpp 10 rfl ?_)
    refine mt_len (n := 8) hT dX6_copyRow_10 rl_297 (by decide) (by decide) rfl (mpp 11 rfl ?_)
    refine mp_Tb (t := 26) (j_icmp_ge dX6_copyRow_11) (by decide) (fun c2 => ?_) (fun c2 => mpp 14 rfl ?_)
    · have c2 : v2.toInt ≥ 8 := ti_ge c2
      exact mp_ret ⟨⟨rfl, trivial⟩, hT, hK, trivial⟩ dX6_copyRow_26 rfl
    · have c2 : v2.toInt < 8 := ti_ge_n c2
      refine mp_a (a_aload_n dX6_copyRow_14 rfl) (mpp 15 rfl ?_)
      refine mp_a (a_iload_n dX6_copyRow_15 rfl) (mpp 16 rfl ?_)
      refine mp_a (a_aload_n dX6_copyRow_16 rfl) (mpp 17 rfl ?_)
      refine mp_a (a_iload_n dX6_copyRow_17 rfl) (mpp 18 rfl ?_)
      refine mt_ial (n := 8) hT dX6_copyRow_18 ha0 (by decide) rfl rfl (by omega) (by omega) rfl (fun g3 g4 => mpp 19 rfl ?_)
      refine mt_ias (n := 8) hT dX6_copyRow_19 rl_297 (by decide) rfl rfl (by omega) (by omega) rfl (ti_full (fv P a0_ v2.toInt.toNat)) (fun P5 hT6 f7 f8 => mpp 20 rfl ?_)
      have k9 : KW [1024] Po P5 := KW.step hK rl_297 rfl f8
      obtain ⟨z10, h11⟩ := ti_ex (v2 + 1 : Int32)
      have wz10 := ti_full z10
      refine mp_a (a_iinc (v := z10) (L' := [(2, .int z10), (0, .ref a0_), (1, .ref 297)]) dX6_copyRow_20 (by decide) rfl h11 rfl) (mpp 23 rfl ?_)
      try have e12 : z10.toInt = v2.toInt + 1 := ti_addz h11 rfl rfl (by omega) (by omega)
      refine mp_a (a_goto (t := 2) dX6_copyRow_23 (by decide)) ?_
      refine MEvP.less (L := [(0, .ref a0_), (1, .ref 297), (2, .int z10)]) rfl rfl ⟨rfl, rfl, rfl, trivial⟩ ?_
      have i13 : 0 ≤ z10.toInt := by omega
      exact ih _ (by omega) _ P5 hT6 k9 i13 rfl

set_option maxHeartbeats 4000000 in
theorem c_F_copyRow_creases_lcreases {Po : mP} {a0_ : Nat} (hT : Typ Po)  (ha0 : rl a0_ = 5) : EvP 1 19 [.ref a0_, .ref 297] Po (fun r P' => (r = none ∧ (True)) ∧ Typ P' ∧ KW [1024] Po P' ∧ True) := by
  refine EvP.of qm_19 (Nat.le_of_ble_eq_true rfl) rfl ?_
  show MEvP _ none q_19 0 [(0, .ref a0_), (1, .ref 297)] [] _ 0 0 _
  refine mp_a (a_iconst (v := 0) dX6_copyRow_0 rfl) (mpp 1 rfl ?_)
  refine mp_a (a_istore_n (L' := [(2, .int 0), (0, .ref a0_), (1, .ref 297)]) dX6_copyRow_1 (by decide) rfl) (mpp 2 rfl ?_)
  refine MEvP.less (L := [(0, .ref a0_), (1, .ref 297), (2, .int 0)]) rfl rfl ⟨rfl, rfl, rfl, trivial⟩ ?_
  have i1 : 0 ≤ (0 : Int) := by omega
  exact c_F_copyRow_creases_lcreases_l2  ha0 _ _ Po hT KW.refl i1 rfl

set_option maxHeartbeats 4000000 in
theorem c_F_put_places {Po : mP} {t1 : Int32} {t2 : Int32} (hT : Typ Po)   : EvP 1 22 [.ref 296, .int t1, .int t2] Po (fun r P' => (r = none ∧ (True)) ∧ Typ P' ∧ KW [960] Po P' ∧ True) := by
  refine EvP.of qm_22 (Nat.le_of_ble_eq_true rfl) rfl ?_
  show MEvP _ none q_22 0 [(0, .ref 296), (1, .int t1), (2, .int t2)] [] _ 0 0 _
  refine mp_a (a_iload_n dX6_put_0 rfl) (mpp 1 rfl ?_)
  refine mp_Tb (t := 14) (j_if_lt dX6_put_1) (by decide) (fun c1 => ?_) (fun c1 => mpp 4 rfl ?_)
  · have c1 : t1.toInt < 0 := ti_lt c1
    exact mp_ret ⟨⟨rfl, trivial⟩, hT, KW.refl, trivial⟩ dX6_put_14 rfl
  · have c1 : t1.toInt ≥ 0 := ti_lt_n c1
    refine mp_a (a_iload_n dX6_put_4 rfl) (mpp 5 rfl ?_)
    refine mp_a (a_aload_n dX6_put_5 rfl) (mpp 6 rfl ?_)
    refine mt_len (n := 8) hT dX6_put_6 rl_296 (by decide) (by decide) rfl (mpp 7 rfl ?_)
    refine mp_Tb (t := 14) (j_icmp_ge dX6_put_7) (by decide) (fun c2 => ?_) (fun c2 => mpp 10 rfl ?_)
    · have c2 : t1.toInt ≥ 8 := ti_ge c2
      exact mp_ret ⟨⟨rfl, trivial⟩, hT, KW.refl, trivial⟩ dX6_put_14 rfl
    · have c2 : t1.toInt < 8 := ti_ge_n c2
      refine mp_a (a_aload_n dX6_put_10 rfl) (mpp 11 rfl ?_)
      refine mp_a (a_iload_n dX6_put_11 rfl) (mpp 12 rfl ?_)
      refine mp_a (a_iload_n dX6_put_12 rfl) (mpp 13 rfl ?_)
      refine mt_ias (n := 8) hT dX6_put_13 rl_296 (by decide) rfl rfl (by omega) (by omega) rfl (ti_full t2) (fun P3 hT4 f5 f6 => mpp 14 rfl ?_)
      have k7 : KW [960] Po P3 := KW.step KW.refl rl_296 rfl f6
      exact mp_ret ⟨⟨rfl, trivial⟩, hT4, k7, trivial⟩ dX6_put_14 rfl

set_option maxHeartbeats 4000000 in
theorem c_CL_load_Layers_NPiece_l26 {Po : mP} {a1_ : Nat} (ha1 : rl a1_ = 33) : ∀ (n : Nat) (v2 : Int32), ∀ (P : mP), Typ P → KW [832, 960, 1024] Po P → (0 ≤ v2.toInt) → (2147483647 - v2.toInt).toNat = n → MEvP 2 none q_65 26 [(0, .ref 294), (1, .ref a1_), (2, .int v2)] [] P 0 0 (fun r P' => (r = none ∧ (True)) ∧ Typ P' ∧ KW [832, 960, 1024] Po P' ∧ True) := by
  intro n
  induction n using Nat.strongRecOn with | _ n ih => ?_
  intro v2 P hT hK i_0 hm
  have w_v2 := ti_full v2
  refine mp_a (a_iload_n dX1_load_26 rfl) (mpp 27 rfl ?_)
  refine mp_a (a_aload_n dX1_load_27 rfl) (mpp 28 rfl ?_)
  have g1 : (0 : Int) ≤ (fv P 294 0).toInt ∧ (fv P 294 0).toInt ≤ 8 := Typ.rng hT rl_294 (by decide) (by decide) rfl
  refine mt_getI (i := 30) (k := 0) hT dX1_load_28 rfl rl_294 (by decide) rfl (by decide) rfl (fun g2 g3 => mpp 31 rfl ?_)
  refine mp_Tb (t := 53) (j_icmp_gt dX1_load_31) (by decide) (fun c4 => ?_) (fun c4 => mpp 34 rfl ?_)
  · have c4 : v2.toInt > (fv P 294 0).toInt := ti_gt c4
    exact mp_ret ⟨⟨rfl, trivial⟩, hT, hK, trivial⟩ dX1_load_53 rfl
  · have c4 : v2.toInt ≤ (fv P 294 0).toInt := ti_gt_n c4
    refine mp_a (a_aload_n dX1_load_34 rfl) (mpp 35 rfl ?_)
    refine mt_getU (i := 15) (k := 2) (A := 296) hT dX1_load_35 rfl rl_294 (by decide) rfl (by decide) rfl un_15 (mpp 38 rfl ?_)
    refine mp_a (a_iload_n dX1_load_38 rfl) (mpp 39 rfl ?_)
    refine mp_a (a_aload_n dX1_load_39 rfl) (mpp 40 rfl ?_)
    refine mp_a (a_iload_n dX1_load_40 rfl) (mpp 41 rfl ?_)
    refine mt_callv (i := 56) (q' := q_13) (As := [.int v2]) (rest := [.int v2, .ref 296]) hT dX1_load_41 rfl qm_13 (by decide) rfl ha1 (by decide) rfl (Nat.le_of_ble_eq_true rfl) rfl ⟨rfl, rfl⟩ ⟨Nat.le_of_ble_eq_true rfl, Nat.le_of_ble_eq_true rfl⟩ (EvP.mono (by decide) (c_CP_placeOf_NPiece hT ha1)) (fun r5 P6 g7 => mpp 44 rfl ?_)
    obtain ⟨⟨x8, rfl, g9⟩, e10⟩ := g7
    have e10 := e10.symm
    subst e10
    have wx8 := ti_full x8
    show MEvP _ none q_65 44 [(0, .ref 294), (1, .ref a1_), (2, .int v2)] [.int x8, .int v2, .ref 296] _ _ _ _
    refine mp_calls (i := 25) (q' := q_22) (As := [.ref 296, .int v2, .int x8]) (rest := []) dX1_load_44 rfl qm_22 (by decide) rfl (Nat.le_of_ble_eq_true rfl) rfl ⟨rfl, rfl⟩ ⟨Nat.le_of_ble_eq_true rfl, Nat.le_of_ble_eq_true rfl⟩ (EvP.mono (by decide) (c_F_put_places hT )) (fun r11 P12 g13 => mpp 47 rfl ?_)
    obtain ⟨⟨rfl, g15⟩, hT16, k17, R18⟩ := g13
    have k19 : KW [832, 960, 1024] Po P12 := KW.trans hK k17 rfl
    show MEvP _ none q_65 47 [(0, .ref 294), (1, .ref a1_), (2, .int v2)] [] _ _ _ _
    obtain ⟨z20, h21⟩ := ti_ex (v2 + 1 : Int32)
    have wz20 := ti_full z20
    refine mp_a (a_iinc (v := z20) (L' := [(2, .int z20), (0, .ref 294), (1, .ref a1_)]) dX1_load_47 (by decide) rfl h21 rfl) (mpp 50 rfl ?_)
    try have e22 : z20.toInt = v2.toInt + 1 := ti_addz h21 rfl rfl (by omega) (by omega)
    refine mp_a (a_goto (t := 26) dX1_load_50 (by decide)) ?_
    refine MEvP.less (L := [(0, .ref 294), (1, .ref a1_), (2, .int z20)]) rfl rfl ⟨rfl, rfl, rfl, trivial⟩ ?_
    have i23 : 0 ≤ z20.toInt := by omega
    exact ih _ (by omega) _ P12 hT16 k19 i23 rfl

set_option maxHeartbeats 4000000 in
theorem c_CL_load_Layers_NPiece {Po : mP} {a1_ : Nat} (hT : Typ Po)  (ha1 : rl a1_ = 33) : EvP 3 65 [.ref 294, .ref a1_] Po (fun r P' => (r = none ∧ (True)) ∧ Typ P' ∧ KW [832, 960, 1024] Po P' ∧ True) := by
  refine EvP.of qm_65 (Nat.le_of_ble_eq_true rfl) rfl ?_
  show MEvP _ none q_65 0 [(0, .ref 294), (1, .ref a1_)] [] _ 0 0 _
  refine mp_a (a_aload_n dX1_load_0 rfl) (mpp 1 rfl ?_)
  refine mp_a (a_aload_n dX1_load_1 rfl) (mpp 2 rfl ?_)
  have g1 : (0 : Int) ≤ (fv Po a1_ 1).toInt ∧ (fv Po a1_ 1).toInt ≤ 8 := Typ.rng hT ha1 (by decide) (by decide) rfl
  refine mt_getI (i := 42) (k := 1) hT dX1_load_2 rfl ha1 (by decide) rfl (by decide) rfl (fun g2 g3 => mpp 5 rfl ?_)
  refine mp_a (a_bipush (v := 7) dX1_load_5 rfl) (mpp 7 rfl ?_)
  obtain ⟨z4, h5⟩ := ti_ex (if (8 : Nat) = 7 then (if (fv Po a1_ 1) < 7 then 7 else (fv Po a1_ 1)) else (if 7 < (fv Po a1_ 1) then 7 else (fv Po a1_ 1)) : Int32)
  have e6 : z4.toInt = min (fv Po a1_ 1).toInt 7 := ti_mm8 h5
  refine mp_math (i := 45) (k := 0) (v := z4) dX1_load_7 rfl (by decide) (Nat.le_of_ble_eq_true rfl) h5 ⟨Nat.le_of_ble_eq_true rfl, Nat.le_of_ble_eq_true rfl⟩ (mpp 10 rfl ?_)
  refine mt_putI (i := 30) (k := 0) (x := z4) hT dX1_load_10 rfl rl_294 (by decide) rfl (by decide) rfl ⟨by omega, by omega⟩ rfl rfl (fun P7 hT8 f9 f10 => mpp 13 rfl ?_)
  have k11 : KW [832, 960, 1024] Po P7 := KW.step KW.refl rl_294 rfl f10
  have e12 : (fv P7 294 0).toInt = z4.toInt := congrArg Int32.toInt f9
  refine mp_a (a_aload_n dX1_load_13 rfl) (mpp 14 rfl ?_)
  refine mt_getR (i := 51) (k := 4) hT8 dX1_load_14 rfl ha1 (by decide) rfl (by decide) rfl (fun q13 => mpp 17 rfl ?_)
  generalize rv P7 a1_ 4 = b14 at q13 ⊢
  refine mp_a (a_aload_n dX1_load_17 rfl) (mpp 18 rfl ?_)
  refine mt_getU (i := 18) (k := 3) (A := 297) hT8 dX1_load_18 rfl rl_294 (by decide) rfl (by decide) rfl un_16 (mpp 21 rfl ?_)
  refine mp_calls (i := 52) (q' := q_19) (As := [.ref b14, .ref 297]) (rest := []) dX1_load_21 rfl qm_19 (by decide) rfl (Nat.le_of_ble_eq_true rfl) rfl ⟨rfl, rfl⟩ ⟨Nat.le_of_ble_eq_true rfl, Nat.le_of_ble_eq_true rfl⟩ (EvP.mono (by decide) (c_F_copyRow_creases_lcreases hT8 q13)) (fun r15 P16 g17 => mpp 24 rfl ?_)
  obtain ⟨⟨rfl, g19⟩, hT20, k21, R22⟩ := g17
  have k23 : KW [832, 960, 1024] Po P16 := KW.trans k11 k21 rfl
  show MEvP _ none q_65 24 [(0, .ref 294), (1, .ref a1_)] [] _ _ _ _
  refine mp_a (a_iconst (v := 0) dX1_load_24 rfl) (mpp 25 rfl ?_)
  refine mp_a (a_istore_n (L' := [(2, .int 0), (0, .ref 294), (1, .ref a1_)]) dX1_load_25 (by decide) rfl) (mpp 26 rfl ?_)
  refine MEvP.less (L := [(0, .ref 294), (1, .ref a1_), (2, .int 0)]) rfl rfl ⟨rfl, rfl, rfl, trivial⟩ ?_
  have i24 : 0 ≤ (0 : Int) := by omega
  exact c_CL_load_Layers_NPiece_l26  ha1 _ _ P16 hT20 k23 i24 rfl

set_option maxHeartbeats 4000000 in
theorem c_F_put_order {Po : mP} {t1 : Int32} {t2 : Int32} (hT : Typ Po)   : EvP 1 22 [.ref 295, .int t1, .int t2] Po (fun r P' => (r = none ∧ (True)) ∧ Typ P' ∧ KW [896] Po P' ∧ True) := by
  refine EvP.of qm_22 (Nat.le_of_ble_eq_true rfl) rfl ?_
  show MEvP _ none q_22 0 [(0, .ref 295), (1, .int t1), (2, .int t2)] [] _ 0 0 _
  refine mp_a (a_iload_n dX6_put_0 rfl) (mpp 1 rfl ?_)
  refine mp_Tb (t := 14) (j_if_lt dX6_put_1) (by decide) (fun c1 => ?_) (fun c1 => mpp 4 rfl ?_)
  · have c1 : t1.toInt < 0 := ti_lt c1
    exact mp_ret ⟨⟨rfl, trivial⟩, hT, KW.refl, trivial⟩ dX6_put_14 rfl
  · have c1 : t1.toInt ≥ 0 := ti_lt_n c1
    refine mp_a (a_iload_n dX6_put_4 rfl) (mpp 5 rfl ?_)
    refine mp_a (a_aload_n dX6_put_5 rfl) (mpp 6 rfl ?_)
    refine mt_len (n := 8) hT dX6_put_6 rl_295 (by decide) (by decide) rfl (mpp 7 rfl ?_)
    refine mp_Tb (t := 14) (j_icmp_ge dX6_put_7) (by decide) (fun c2 => ?_) (fun c2 => mpp 10 rfl ?_)
    · have c2 : t1.toInt ≥ 8 := ti_ge c2
      exact mp_ret ⟨⟨rfl, trivial⟩, hT, KW.refl, trivial⟩ dX6_put_14 rfl
    · have c2 : t1.toInt < 8 := ti_ge_n c2
      refine mp_a (a_aload_n dX6_put_10 rfl) (mpp 11 rfl ?_)
      refine mp_a (a_iload_n dX6_put_11 rfl) (mpp 12 rfl ?_)
      refine mp_a (a_iload_n dX6_put_12 rfl) (mpp 13 rfl ?_)
      refine mt_ias (n := 8) hT dX6_put_13 rl_295 (by decide) rfl rfl (by omega) (by omega) rfl (ti_full t2) (fun P3 hT4 f5 f6 => mpp 14 rfl ?_)
      have k7 : KW [896] Po P3 := KW.step KW.refl rl_295 rfl f6
      exact mp_ret ⟨⟨rfl, trivial⟩, hT4, k7, trivial⟩ dX6_put_14 rfl

set_option maxHeartbeats 4000000 in
theorem c_F_step {Po : mP} {t1 : Int32} (hT : Typ Po)   : EvP 4 73 [.ref 0, .int t1] Po (fun r P' => (∃ x : Int32, r = some (.int x) ∧ (True)) ∧ Typ P' ∧ KW [640, 641, 704, 768] Po P' ∧ True) := by
  refine EvP.of qm_73 (Nat.le_of_ble_eq_true rfl) rfl ?_
  show MEvP _ none q_73 0 [(0, .ref 0), (1, .int t1)] [] _ 0 0 _
  refine mp_a (a_aload_n dX6_step_0 rfl) (mpp 1 rfl ?_)
  refine mt_getU (i := 10) (k := 0) (A := 1) hT dX6_step_1 rfl rl_0 (by decide) rfl (by decide) rfl un_31 (mpp 4 rfl ?_)
  refine mp_a (a_iload_n dX6_step_4 rfl) (mpp 5 rfl ?_)
  refine mt_callv (i := 94) (q' := q_9) (As := [.int t1]) (rest := []) hT dX6_step_5 rfl qm_9 (by decide) rfl rl_1 (by decide) rfl (Nat.le_of_ble_eq_true rfl) rfl ⟨rfl, rfl⟩ ⟨Nat.le_of_ble_eq_true rfl, Nat.le_of_ble_eq_true rfl⟩ (EvP.mono (by decide) (c_CS_pieceAt_NState hT )) (fun r1 P2 g3 => mpp 8 rfl ?_)
  obtain ⟨g3, e4⟩ := g3
  have e4 := e4.symm
  subst e4
  rcases g3 with rfl | ⟨b5, rfl, q6⟩
  · show MEvP _ none q_73 8 [(0, .ref 0), (1, .int t1)] [.null] _ _ _ _
    refine mp_a (a_astore_nN (L' := [(2, .null), (0, .ref 0), (1, .int t1)]) dX6_step_8 (by decide) rfl) (mpp 9 rfl ?_)
    refine mp_a (a_aload_nN dX6_step_9 rfl) (mpp 10 rfl ?_)
    refine mp_t (s_ifnonnullN dX6_step_10) (mpp 13 rfl ?_)
    refine mp_a (a_sipush (v := -1001) dX6_step_13 rfl) (mpp 16 rfl ?_)
    exact mp_iret ⟨⟨_, rfl, trivial⟩, hT, KW.refl, trivial⟩ dX6_step_16 (Or.inl rfl)
  · show MEvP _ none q_73 8 [(0, .ref 0), (1, .int t1)] [.ref b5] _ _ _ _
    refine mp_a (a_astore_n (L' := [(2, .ref b5), (0, .ref 0), (1, .int t1)]) dX6_step_8 (by decide) rfl) (mpp 9 rfl ?_)
    refine mp_a (a_aload_n dX6_step_9 rfl) (mpp 10 rfl ?_)
    refine mp_t (s_ifnonnullR (t := 17) dX6_step_10 (by decide)) ?_
    refine mp_a (a_aload_n dX6_step_17 rfl) (mpp 18 rfl ?_)
    refine mt_callv (i := 159) (q' := q_42) (As := []) (rest := []) hT dX6_step_18 rfl qm_42 (by decide) rfl q6 (by decide) rfl (Nat.le_of_ble_eq_true rfl) rfl ⟨rfl, rfl⟩ ⟨Nat.le_of_ble_eq_true rfl, Nat.le_of_ble_eq_true rfl⟩ (EvP.mono (by decide) (c_CP_isUndecided_NPiece hT q6)) (fun r7 P8 g9 => mpp 21 rfl ?_)
    obtain ⟨⟨x10, rfl, g11⟩, e12⟩ := g9
    have e12 := e12.symm
    subst e12
    have wx10 := ti_full x10
    have g11 : 0 ≤ x10.toInt ∧ x10.toInt ≤ 1 := g11
    show MEvP _ none q_73 21 [(2, .ref b5), (0, .ref 0), (1, .int t1)] [.int x10] _ _ _ _
    refine mp_Tb (t := 28) (j_if_eq dX6_step_21) (by decide) (fun c13 => ?_) (fun c13 => mpp 24 rfl ?_)
    · have c13 : x10.toInt = 0 := ti_eq c13
      refine mp_a (a_aload_n dX6_step_28 rfl) (mpp 29 rfl ?_)
      refine mt_getU (i := 39) (k := 5) (A := 291) hT dX6_step_29 rfl rl_0 (by decide) rfl (by decide) rfl un_10 (mpp 32 rfl ?_)
      refine mp_a (a_aload_n dX6_step_32 rfl) (mpp 33 rfl ?_)
      refine mt_callv (i := 188) (q' := q_45) (As := [.ref b5]) (rest := []) hT dX6_step_33 rfl qm_45 (by decide) rfl rl_291 (by decide) rfl (Nat.le_of_ble_eq_true rfl) rfl ⟨rfl, rfl⟩ ⟨Nat.le_of_ble_eq_true rfl, Nat.le_of_ble_eq_true rfl⟩ (EvP.mono (by decide) (c_CR_load_Reducer_NPiece hT q6)) (fun r14 P15 g16 => mpp 36 rfl ?_)
      obtain ⟨⟨rfl, g18⟩, hT19, k20, R21⟩ := g16
      have k22 : KW [640, 641, 704, 768] Po P15 := KW.trans KW.refl k20 rfl
      show MEvP _ none q_73 36 [(2, .ref b5), (0, .ref 0), (1, .int t1)] [] _ _ _ _
      refine mp_a (a_aload_n dX6_step_36 rfl) (mpp 37 rfl ?_)
      refine mt_getU (i := 39) (k := 5) (A := 291) hT19 dX6_step_37 rfl rl_0 (by decide) rfl (by decide) rfl un_10 (mpp 40 rfl ?_)
      refine mt_callv (i := 191) (q' := q_52) (As := []) (rest := []) hT19 dX6_step_40 rfl qm_52 (by decide) rfl rl_291 (by decide) rfl (Nat.le_of_ble_eq_true rfl) rfl ⟨rfl, rfl⟩ ⟨Nat.le_of_ble_eq_true rfl, Nat.le_of_ble_eq_true rfl⟩ (EvP.mono (by decide) (c_CR_firstStep_Reducer hT19 )) (fun r23 P24 g25 => mpp 43 rfl ?_)
      obtain ⟨⟨x26, rfl, g27⟩, e28⟩ := g25
      have e28 := e28.symm
      subst e28
      have wx26 := ti_full x26
      have g27 : x26.toInt = 0 ∨ 2 ≤ (fv P15 291 1).toInt := g27
      have g29 : (0 : Int) ≤ (fv P15 291 1).toInt ∧ (fv P15 291 1).toInt ≤ 8 := Typ.rng hT19 rl_291 (by decide) (by decide) rfl
      show MEvP _ none q_73 43 [(2, .ref b5), (0, .ref 0), (1, .int t1)] [.int x26] _ _ _ _
      refine mp_a (a_istore_n (L' := [(3, .int x26), (2, .ref b5), (0, .ref 0), (1, .int t1)]) dX6_step_43 (by decide) rfl) (mpp 44 rfl ?_)
      refine mp_a (a_iload_n dX6_step_44 rfl) (mpp 45 rfl ?_)
      refine mp_Tb (t := 54) (j_if_ne dX6_step_45) (by decide) (fun c30 => ?_) (fun c30 => mpp 48 rfl ?_)
      · have c30 : x26.toInt ≠ 0 := ti_ne c30
        refine mp_a (a_iload_n dX6_step_54 rfl) (mpp 55 rfl ?_)
        exact mp_iret ⟨⟨_, rfl, trivial⟩, hT19, k22, trivial⟩ dX6_step_55 (Or.inl rfl)
      · have c30 : x26.toInt = 0 := ti_ne_n c30
        refine mp_a (a_sipush (v := -1004) dX6_step_48 rfl) (mpp 51 rfl ?_)
        refine mp_a (a_goto (t := 55) dX6_step_51 (by decide)) ?_
        exact mp_iret ⟨⟨_, rfl, trivial⟩, hT19, k22, trivial⟩ dX6_step_55 (Or.inl rfl)
    · have c13 : x10.toInt ≠ 0 := ti_eq_n c13
      refine mp_a (a_sipush (v := -1004) dX6_step_24 rfl) (mpp 27 rfl ?_)
      exact mp_iret ⟨⟨_, rfl, trivial⟩, hT, KW.refl, trivial⟩ dX6_step_27 (Or.inl rfl)

set_option maxHeartbeats 4000000 in
theorem c_F_steps {Po : mP} {t1 : Int32} (hT : Typ Po)   : EvP 4 74 [.ref 0, .int t1] Po (fun r P' => (∃ x : Int32, r = some (.int x) ∧ (True)) ∧ Typ P' ∧ KW [640, 641, 704, 768] Po P' ∧ True) := by
  refine EvP.of qm_74 (Nat.le_of_ble_eq_true rfl) rfl ?_
  show MEvP _ none q_74 0 [(0, .ref 0), (1, .int t1)] [] _ 0 0 _
  refine mp_a (a_aload_n dX6_steps_0 rfl) (mpp 1 rfl ?_)
  refine mt_getU (i := 10) (k := 0) (A := 1) hT dX6_steps_1 rfl rl_0 (by decide) rfl (by decide) rfl un_31 (mpp 4 rfl ?_)
  refine mp_a (a_iload_n dX6_steps_4 rfl) (mpp 5 rfl ?_)
  refine mt_callv (i := 94) (q' := q_9) (As := [.int t1]) (rest := []) hT dX6_steps_5 rfl qm_9 (by decide) rfl rl_1 (by decide) rfl (Nat.le_of_ble_eq_true rfl) rfl ⟨rfl, rfl⟩ ⟨Nat.le_of_ble_eq_true rfl, Nat.le_of_ble_eq_true rfl⟩ (EvP.mono (by decide) (c_CS_pieceAt_NState hT )) (fun r1 P2 g3 => mpp 8 rfl ?_)
  obtain ⟨g3, e4⟩ := g3
  have e4 := e4.symm
  subst e4
  rcases g3 with rfl | ⟨b5, rfl, q6⟩
  · show MEvP _ none q_74 8 [(0, .ref 0), (1, .int t1)] [.null] _ _ _ _
    refine mp_a (a_astore_nN (L' := [(2, .null), (0, .ref 0), (1, .int t1)]) dX6_steps_8 (by decide) rfl) (mpp 9 rfl ?_)
    refine mp_a (a_aload_nN dX6_steps_9 rfl) (mpp 10 rfl ?_)
    refine mp_t (s_ifnonnullN dX6_steps_10) (mpp 13 rfl ?_)
    refine mp_a (a_sipush (v := -1001) dX6_steps_13 rfl) (mpp 16 rfl ?_)
    exact mp_iret ⟨⟨_, rfl, trivial⟩, hT, KW.refl, trivial⟩ dX6_steps_16 (Or.inl rfl)
  · show MEvP _ none q_74 8 [(0, .ref 0), (1, .int t1)] [.ref b5] _ _ _ _
    refine mp_a (a_astore_n (L' := [(2, .ref b5), (0, .ref 0), (1, .int t1)]) dX6_steps_8 (by decide) rfl) (mpp 9 rfl ?_)
    refine mp_a (a_aload_n dX6_steps_9 rfl) (mpp 10 rfl ?_)
    refine mp_t (s_ifnonnullR (t := 17) dX6_steps_10 (by decide)) ?_
    refine mp_a (a_aload_n dX6_steps_17 rfl) (mpp 18 rfl ?_)
    refine mt_callv (i := 159) (q' := q_42) (As := []) (rest := []) hT dX6_steps_18 rfl qm_42 (by decide) rfl q6 (by decide) rfl (Nat.le_of_ble_eq_true rfl) rfl ⟨rfl, rfl⟩ ⟨Nat.le_of_ble_eq_true rfl, Nat.le_of_ble_eq_true rfl⟩ (EvP.mono (by decide) (c_CP_isUndecided_NPiece hT q6)) (fun r7 P8 g9 => mpp 21 rfl ?_)
    obtain ⟨⟨x10, rfl, g11⟩, e12⟩ := g9
    have e12 := e12.symm
    subst e12
    have wx10 := ti_full x10
    have g11 : 0 ≤ x10.toInt ∧ x10.toInt ≤ 1 := g11
    show MEvP _ none q_74 21 [(2, .ref b5), (0, .ref 0), (1, .int t1)] [.int x10] _ _ _ _
    refine mp_Tb (t := 28) (j_if_eq dX6_steps_21) (by decide) (fun c13 => ?_) (fun c13 => mpp 24 rfl ?_)
    · have c13 : x10.toInt = 0 := ti_eq c13
      refine mp_a (a_aload_n dX6_steps_28 rfl) (mpp 29 rfl ?_)
      refine mt_getU (i := 39) (k := 5) (A := 291) hT dX6_steps_29 rfl rl_0 (by decide) rfl (by decide) rfl un_10 (mpp 32 rfl ?_)
      refine mp_a (a_aload_n dX6_steps_32 rfl) (mpp 33 rfl ?_)
      refine mt_callv (i := 188) (q' := q_45) (As := [.ref b5]) (rest := []) hT dX6_steps_33 rfl qm_45 (by decide) rfl rl_291 (by decide) rfl (Nat.le_of_ble_eq_true rfl) rfl ⟨rfl, rfl⟩ ⟨Nat.le_of_ble_eq_true rfl, Nat.le_of_ble_eq_true rfl⟩ (EvP.mono (by decide) (c_CR_load_Reducer_NPiece hT q6)) (fun r14 P15 g16 => mpp 36 rfl ?_)
      obtain ⟨⟨rfl, g18⟩, hT19, k20, R21⟩ := g16
      have k22 : KW [640, 641, 704, 768] Po P15 := KW.trans KW.refl k20 rfl
      show MEvP _ none q_74 36 [(2, .ref b5), (0, .ref 0), (1, .int t1)] [] _ _ _ _
      refine mp_a (a_aload_n dX6_steps_36 rfl) (mpp 37 rfl ?_)
      refine mt_getU (i := 39) (k := 5) (A := 291) hT19 dX6_steps_37 rfl rl_0 (by decide) rfl (by decide) rfl un_10 (mpp 40 rfl ?_)
      refine mt_callv (i := 194) (q' := q_51) (As := []) (rest := []) hT19 dX6_steps_40 rfl qm_51 (by decide) rfl rl_291 (by decide) rfl (Nat.le_of_ble_eq_true rfl) rfl ⟨rfl, rfl⟩ ⟨Nat.le_of_ble_eq_true rfl, Nat.le_of_ble_eq_true rfl⟩ (EvP.mono (by decide) (c_CR_reduce_Reducer hT19 )) (fun r23 P24 g25 => mpp 43 rfl ?_)
      obtain ⟨⟨x26, rfl, g27⟩, hT28, k29, R30⟩ := g25
      have k31 : KW [640, 641, 704, 768] Po P24 := KW.trans k22 k29 rfl
      have wx26 := ti_full x26
      show MEvP _ none q_74 43 [(2, .ref b5), (0, .ref 0), (1, .int t1)] [.int x26] _ _ _ _
      exact mp_iret ⟨⟨_, rfl, trivial⟩, hT28, k31, trivial⟩ dX6_steps_43 (Or.inl rfl)
    · have c13 : x10.toInt ≠ 0 := ti_eq_n c13
      refine mp_a (a_sipush (v := -1004) dX6_steps_24 rfl) (mpp 27 rfl ?_)
      exact mp_iret ⟨⟨_, rfl, trivial⟩, hT, KW.refl, trivial⟩ dX6_steps_27 (Or.inl rfl)

set_option maxHeartbeats 4000000 in
theorem c_CR_kindIn {Po : mP} {t0 : Int32} {t1 : Int32} (hT : Typ Po)   : EvP 1 78 [.int t0, .int t1] Po (fun r P' => (∃ x : Int32, r = some (.int x) ∧ (True)) ∧ P' = Po) := by
  refine EvP.of qm_78 (Nat.le_of_ble_eq_true rfl) rfl ?_
  show MEvP _ none q_78 0 [(0, .int t0), (1, .int t1)] [] _ 0 0 _
  refine mp_a (a_iload_n dX3_kindIn_0 rfl) (mpp 1 rfl ?_)
  refine mp_a (a_iload_n dX3_kindIn_1 rfl) (mpp 2 rfl ?_)
  obtain ⟨z1, h2⟩ := ti_ex (t0 >>> (t1 &&& 31) : Int32)
  have wz1 := ti_full z1
  refine mp_t (s_ishr (v := z1) dX3_kindIn_2 h2) (mpp 3 rfl ?_)
  refine mp_a (a_iconst (v := 1) dX3_kindIn_3 rfl) (mpp 4 rfl ?_)
  obtain ⟨z3, h4⟩ := ti_ex (z1 &&& 1 : Int32)
  have wz3 := ti_full z3
  refine mp_t (s_iand (v := z3) dX3_kindIn_4 h4) (mpp 5 rfl ?_)
  refine mp_Tb (t := 12) (j_if_ne dX3_kindIn_5) (by decide) (fun c5 => ?_) (fun c5 => mpp 8 rfl ?_)
  · have c5 : z3.toInt ≠ 0 := ti_ne c5
    refine mp_a (a_iconst (v := 2) dX3_kindIn_12 rfl) (mpp 13 rfl ?_)
    exact mp_iret ⟨⟨_, rfl, trivial⟩, rfl⟩ dX3_kindIn_13 (Or.inl rfl)
  · have c5 : z3.toInt = 0 := ti_ne_n c5
    refine mp_a (a_iconst (v := 1) dX3_kindIn_8 rfl) (mpp 9 rfl ?_)
    refine mp_a (a_goto (t := 13) dX3_kindIn_9 (by decide)) ?_
    exact mp_iret ⟨⟨_, rfl, trivial⟩, rfl⟩ dX3_kindIn_13 (Or.inl rfl)

set_option maxHeartbeats 4000000 in
theorem c_CR_changesTo_NPiece_l4 {Po : mP} {a0_ : Nat} {t1 : Int32} (hT : Typ Po)  (ha0 : rl a0_ = 33) : ∀ (n : Nat) (v2 : Int32) (v3 : Int32), (0 ≤ v3.toInt) → (2147483647 - v3.toInt).toNat = n → MEvP 1 none q_77 4 [(0, .ref a0_), (1, .int t1), (2, .int v2), (3, .int v3)] [] Po 0 0 (fun r P' => (∃ x : Int32, r = some (.int x) ∧ (True)) ∧ P' = Po) := by
  intro n
  induction n using Nat.strongRecOn with | _ n ih => ?_
  intro v2 v3 i_0 hm
  have w_v2 := ti_full v2
  have w_v3 := ti_full v3
  refine mp_a (a_iload_n dX3_changesTo_4 rfl) (mpp 5 rfl ?_)
  refine mp_a (a_aload_n dX3_changesTo_5 rfl) (mpp 6 rfl ?_)
  refine mt_callv (i := 34) (q' := q_25) (As := []) (rest := [.int v3]) hT dX3_changesTo_6 rfl qm_25 (by decide) rfl ha0 (by decide) rfl (Nat.le_of_ble_eq_true rfl) rfl ⟨rfl, rfl⟩ ⟨Nat.le_of_ble_eq_true rfl, Nat.le_of_ble_eq_true rfl⟩ (EvP.mono (by decide) (c_CP_creaseCount_NPiece hT ha0)) (fun r1 P2 g3 => mpp 9 rfl ?_)
  obtain ⟨⟨x4, rfl, g5⟩, e6⟩ := g3
  have e6 := e6.symm
  subst e6
  have wx4 := ti_full x4
  have g5 : -1 ≤ x4.toInt ∧ x4.toInt ≤ (fv Po a0_ 1).toInt := g5
  have g7 : (0 : Int) ≤ (fv Po a0_ 1).toInt ∧ (fv Po a0_ 1).toInt ≤ 8 := Typ.rng hT ha0 (by decide) (by decide) rfl
  show MEvP _ none q_77 9 [(0, .ref a0_), (1, .int t1), (2, .int v2), (3, .int v3)] [.int x4, .int v3] _ _ _ _
  refine mp_Tb (t := 46) (j_icmp_ge dX3_changesTo_9) (by decide) (fun c8 => ?_) (fun c8 => mpp 12 rfl ?_)
  · have c8 : v3.toInt ≥ x4.toInt := ti_ge c8
    refine mp_a (a_iload_n dX3_changesTo_46 rfl) (mpp 47 rfl ?_)
    exact mp_iret ⟨⟨_, rfl, trivial⟩, rfl⟩ dX3_changesTo_47 (Or.inl rfl)
  · have c8 : v3.toInt < x4.toInt := ti_ge_n c8
    refine mp_a (a_aload_n dX3_changesTo_12 rfl) (mpp 13 rfl ?_)
    refine mt_getR (i := 38) (k := 4) hT dX3_changesTo_13 rfl ha0 (by decide) rfl (by decide) rfl (fun q9 => mpp 16 rfl ?_)
    generalize rv Po a0_ 4 = b10 at q9 ⊢
    refine mp_a (a_iload_n dX3_changesTo_16 rfl) (mpp 17 rfl ?_)
    refine mp_calls (i := 39) (q' := q_12) (As := [.ref b10, .int v3]) (rest := []) dX3_changesTo_17 rfl qm_12 (by decide) rfl (Nat.le_of_ble_eq_true rfl) rfl ⟨rfl, rfl⟩ ⟨Nat.le_of_ble_eq_true rfl, Nat.le_of_ble_eq_true rfl⟩ (EvP.mono (by decide) (c_F_at_creases hT q9)) (fun r11 P12 g13 => mpp 20 rfl ?_)
    obtain ⟨⟨x14, rfl, g15⟩, e16⟩ := g13
    have e16 := e16.symm
    subst e16
    have wx14 := ti_full x14
    show MEvP _ none q_77 20 [(0, .ref a0_), (1, .int t1), (2, .int v2), (3, .int v3)] [.int x14] _ _ _ _
    refine mp_a (a_istore (L' := [(4, .int x14), (0, .ref a0_), (1, .int t1), (2, .int v2), (3, .int v3)]) dX3_changesTo_20 (by decide) rfl) (mpp 22 rfl ?_)
    refine mp_a (a_iload dX3_changesTo_22 rfl) (mpp 24 rfl ?_)
    refine mp_Tb (t := 40) (j_if_eq dX3_changesTo_24) (by decide) (fun c17 => ?_) (fun c17 => mpp 27 rfl ?_)
    · have c17 : x14.toInt = 0 := ti_eq c17
      obtain ⟨z18, h19⟩ := ti_ex (v3 + 1 : Int32)
      have wz18 := ti_full z18
      refine mp_a (a_iinc (v := z18) (L' := [(3, .int z18), (4, .int x14), (0, .ref a0_), (1, .int t1), (2, .int v2)]) dX3_changesTo_40 (by decide) rfl h19 rfl) (mpp 43 rfl ?_)
      try have e20 : z18.toInt = v3.toInt + 1 := ti_addz h19 rfl rfl (by omega) (by omega)
      refine mp_a (a_goto (t := 4) dX3_changesTo_43 (by decide)) ?_
      refine MEvP.less (L := [(0, .ref a0_), (1, .int t1), (2, .int v2), (3, .int z18)]) rfl rfl ⟨rfl, rfl, rfl, rfl, trivial⟩ ?_
      have i21 : 0 ≤ z18.toInt := by omega
      exact ih _ (by omega) _ _ i21 rfl
    · have c17 : x14.toInt ≠ 0 := ti_eq_n c17
      refine mp_a (a_iload dX3_changesTo_27 rfl) (mpp 29 rfl ?_)
      refine mp_a (a_iload_n dX3_changesTo_29 rfl) (mpp 30 rfl ?_)
      refine mp_a (a_iload_n dX3_changesTo_30 rfl) (mpp 31 rfl ?_)
      refine mp_calls (i := 94) (q' := q_78) (As := [.int t1, .int v3]) (rest := [.int x14]) dX3_changesTo_31 rfl qm_78 (by decide) rfl (Nat.le_of_ble_eq_true rfl) rfl ⟨rfl, rfl⟩ ⟨Nat.le_of_ble_eq_true rfl, Nat.le_of_ble_eq_true rfl⟩ (EvP.mono (by decide) (c_CR_kindIn hT )) (fun r22 P23 g24 => mpp 34 rfl ?_)
      obtain ⟨⟨x25, rfl, g26⟩, e27⟩ := g24
      have e27 := e27.symm
      subst e27
      have wx25 := ti_full x25
      show MEvP _ none q_77 34 [(4, .int x14), (0, .ref a0_), (1, .int t1), (2, .int v2), (3, .int v3)] [.int x25, .int x14] _ _ _ _
      refine mp_Tb (t := 40) (j_icmp_eq dX3_changesTo_34) (by decide) (fun c28 => ?_) (fun c28 => mpp 37 rfl ?_)
      · have c28 : x14.toInt = x25.toInt := ti_eq c28
        obtain ⟨z29, h30⟩ := ti_ex (v3 + 1 : Int32)
        have wz29 := ti_full z29
        refine mp_a (a_iinc (v := z29) (L' := [(3, .int z29), (4, .int x14), (0, .ref a0_), (1, .int t1), (2, .int v2)]) dX3_changesTo_40 (by decide) rfl h30 rfl) (mpp 43 rfl ?_)
        try have e31 : z29.toInt = v3.toInt + 1 := ti_addz h30 rfl rfl (by omega) (by omega)
        refine mp_a (a_goto (t := 4) dX3_changesTo_43 (by decide)) ?_
        refine MEvP.less (L := [(0, .ref a0_), (1, .int t1), (2, .int v2), (3, .int z29)]) rfl rfl ⟨rfl, rfl, rfl, rfl, trivial⟩ ?_
        have i32 : 0 ≤ z29.toInt := by omega
        exact ih _ (by omega) _ _ i32 rfl
      · have c28 : x14.toInt ≠ x25.toInt := ti_eq_n c28
        obtain ⟨z33, h34⟩ := ti_ex (v2 + 1 : Int32)
        have wz33 := ti_full z33
        refine mp_a (a_iinc (v := z33) (L' := [(2, .int z33), (4, .int x14), (0, .ref a0_), (1, .int t1), (3, .int v3)]) dX3_changesTo_37 (by decide) rfl h34 rfl) (mpp 40 rfl ?_)
        try have e35 : z33.toInt = v2.toInt + 1 := ti_addz h34 rfl rfl (by omega) (by omega)
        obtain ⟨z36, h37⟩ := ti_ex (v3 + 1 : Int32)
        have wz36 := ti_full z36
        refine mp_a (a_iinc (v := z36) (L' := [(3, .int z36), (2, .int z33), (4, .int x14), (0, .ref a0_), (1, .int t1)]) dX3_changesTo_40 (by decide) rfl h37 rfl) (mpp 43 rfl ?_)
        try have e38 : z36.toInt = v3.toInt + 1 := ti_addz h37 rfl rfl (by omega) (by omega)
        refine mp_a (a_goto (t := 4) dX3_changesTo_43 (by decide)) ?_
        refine MEvP.less (L := [(0, .ref a0_), (1, .int t1), (2, .int z33), (3, .int z36)]) rfl rfl ⟨rfl, rfl, rfl, rfl, trivial⟩ ?_
        have i39 : 0 ≤ z36.toInt := by omega
        exact ih _ (by omega) _ _ i39 rfl

set_option maxHeartbeats 4000000 in
theorem c_CR_changesTo_NPiece {Po : mP} {a0_ : Nat} {t1 : Int32} (hT : Typ Po)  (ha0 : rl a0_ = 33) : EvP 2 77 [.ref a0_, .int t1] Po (fun r P' => (∃ x : Int32, r = some (.int x) ∧ (True)) ∧ P' = Po) := by
  refine EvP.of qm_77 (Nat.le_of_ble_eq_true rfl) rfl ?_
  show MEvP _ none q_77 0 [(0, .ref a0_), (1, .int t1)] [] _ 0 0 _
  refine mp_a (a_iconst (v := 0) dX3_changesTo_0 rfl) (mpp 1 rfl ?_)
  refine mp_a (a_istore_n (L' := [(2, .int 0), (0, .ref a0_), (1, .int t1)]) dX3_changesTo_1 (by decide) rfl) (mpp 2 rfl ?_)
  refine mp_a (a_iconst (v := 0) dX3_changesTo_2 rfl) (mpp 3 rfl ?_)
  refine mp_a (a_istore_n (L' := [(3, .int 0), (2, .int 0), (0, .ref a0_), (1, .int t1)]) dX3_changesTo_3 (by decide) rfl) (mpp 4 rfl ?_)
  refine MEvP.less (L := [(0, .ref a0_), (1, .int t1), (2, .int 0), (3, .int 0)]) rfl rfl ⟨rfl, rfl, rfl, rfl, trivial⟩ ?_
  have i1 : 0 ≤ (0 : Int) := by omega
  exact c_CR_changesTo_NPiece_l4 hT  ha0 _ _ _ i1 rfl

