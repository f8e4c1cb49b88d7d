/-! methods on typed pools, 29 (written by a program) -/
set_option maxHeartbeats 4000000 in
theorem c_M_crease {Po : mP} {t1 : Int32} {t2 : Int32} (hT : Typ Po)   : EvP 6 197 [.ref 301, .int t1, .int t2] Po (fun r P' => (∃ x : Int32, r = some (.int x) ∧ (True)) ∧ P' = Po) := by
  refine EvP.of qm_197 (Nat.le_of_ble_eq_true rfl) rfl ?_
  show MEvP _ none q_197 0 [(0, .ref 301), (1, .int t1), (2, .int t2)] [] _ 0 0 _
  refine mp_a (a_aload_n dX7_crease_0 rfl) (mpp 1 rfl ?_)
  refine mp_a (a_iload_n dX7_crease_1 rfl) (mpp 2 rfl ?_)
  refine mp_a (a_iload_n dX7_crease_2 rfl) (mpp 3 rfl ?_)
  refine mt_callv (i := 127) (q' := q_143) (As := [.int t1, .int t2]) (rest := []) hT dX7_crease_3 rfl qm_143 (by decide) rfl rl_301 (by decide) rfl (Nat.le_of_ble_eq_true rfl) rfl ⟨rfl, rfl⟩ ⟨Nat.le_of_ble_eq_true rfl, Nat.le_of_ble_eq_true rfl⟩ (EvP.mono (by decide) (c_M_isCrease hT )) (fun r1 P2 g3 => mpp 6 rfl ?_)
  obtain ⟨⟨x4, rfl, g5⟩, e6⟩ := g3
  have e6 := e6.symm
  subst e6
  have wx4 := ti_full x4
  have g5 : 0 ≤ x4.toInt ∧ x4.toInt ≤ 1 ∧ ((x4.toInt = 0 ∧ (t1.toInt < 0 ∨ (fv Po 302 0).toInt ≤ t1.toInt ∨ t2.toInt < 0 ∨ ((fv Po 302 (3 + 19 * t1.toInt.toNat)).toInt = 1 ∧ (fv Po 302 (4 + 19 * t1.toInt.toNat)).toInt ≤ t2.toInt) ∨ ((fv Po 302 (3 + 19 * t1.toInt.toNat)).toInt = 0 ∧ (fv Po 302 (4 + 19 * t1.toInt.toNat)).toInt - 1 ≤ t2.toInt))) ∨ (x4.toInt = 1 ∧ 0 ≤ t1.toInt ∧ t1.toInt + 1 ≤ (fv Po 302 0).toInt ∧ t1.toInt ≤ 7 ∧ 0 ≤ t2.toInt ∧ t2.toInt ≤ 7 ∧ t2.toInt + 1 ≤ (fv Po 302 (4 + 19 * t1.toInt.toNat)).toInt ∧ (((fv Po 302 (3 + 19 * t1.toInt.toNat)).toInt = 1 ∧ t2.toInt < (fv Po 302 (4 + 19 * t1.toInt.toNat)).toInt) ∨ ((fv Po 302 (3 + 19 * t1.toInt.toNat)).toInt = 0 ∧ t2.toInt < (fv Po 302 (4 + 19 * t1.toInt.toNat)).toInt - 1)))) := g5
  have g7 : (0 : Int) ≤ (fv Po 302 0).toInt ∧ (fv Po 302 0).toInt ≤ 8 := Typ.rng hT rl_302 (by decide) (by decide) rfl
  have g8 := ti_full (fv Po 302 (3 + 19 * t1.toInt.toNat))
  have g9 := ti_full (fv Po 302 (4 + 19 * t1.toInt.toNat))
  show MEvP _ none q_197 6 [(0, .ref 301), (1, .int t1), (2, .int t2)] [.int x4] _ _ _ _
  refine mp_Tb (t := 18) (j_if_eq dX7_crease_6) (by decide) (fun c10 => ?_) (fun c10 => mpp 9 rfl ?_)
  · have c10 : x4.toInt = 0 := ti_eq c10
    refine mp_a (a_sipush (v := -1001) dX7_crease_18 rfl) (mpp 21 rfl ?_)
    exact mp_iret ⟨⟨_, rfl, trivial⟩, rfl⟩ dX7_crease_21 (Or.inl rfl)
  · have c10 : x4.toInt ≠ 0 := ti_eq_n c10
    refine mp_a (a_aload_n dX7_crease_9 rfl) (mpp 10 rfl ?_)
    refine mp_a (a_iload_n dX7_crease_10 rfl) (mpp 11 rfl ?_)
    refine mp_a (a_iload_n dX7_crease_11 rfl) (mpp 12 rfl ?_)
    have p11 : 0 ≤ t1.toInt := by omega
    have p12 : t1.toInt ≤ 7 := by omega
    have p13 : 0 ≤ t2.toInt := by omega
    have p14 : t2.toInt ≤ 7 := by omega
    refine mt_callv (i := 92) (q' := q_146) (As := [.int t1, .int t2]) (rest := []) hT dX7_crease_12 rfl qm_146 (by decide) rfl rl_301 (by decide) rfl (Nat.le_of_ble_eq_true rfl) rfl ⟨rfl, rfl⟩ ⟨Nat.le_of_ble_eq_true rfl, Nat.le_of_ble_eq_true rfl⟩ (EvP.mono (by decide) (c_M_creaseOf hT p11 p12 p13 p14 )) (fun r15 P16 g17 => mpp 15 rfl ?_)
    obtain ⟨⟨x18, rfl, g19⟩, e20⟩ := g17
    have e20 := e20.symm
    subst e20
    have wx18 := ti_full x18
    have g19 : x18.toInt = (fv Po 302 (14 + 19 * t1.toInt.toNat + t2.toInt.toNat)).toInt := g19
    show MEvP _ none q_197 15 [(0, .ref 301), (1, .int t1), (2, .int t2)] [.int x18] _ _ _ _
    refine mp_a (a_goto (t := 21) dX7_crease_15 (by decide)) ?_
    exact mp_iret ⟨⟨_, rfl, trivial⟩, rfl⟩ dX7_crease_21 (Or.inl rfl)

set_option maxHeartbeats 4000000 in
theorem c_M_why {Po : mP} {t1 : Int32} (hT : Typ Po)   : EvP 8 159 [.ref 301, .int t1] Po (fun r P' => (∃ x : Int32, r = some (.int x) ∧ (True)) ∧ Typ P' ∧ KW [1101, 1102, 1536, 1600] Po P' ∧ True) := by
  refine EvP.of qm_159 (Nat.le_of_ble_eq_true rfl) rfl ?_
  show MEvP _ none q_159 0 [(0, .ref 301), (1, .int t1)] [] _ 0 0 _
  refine mp_a (a_aload_n dX7_why_0 rfl) (mpp 1 rfl ?_)
  refine mp_a (a_iload_n dX7_why_1 rfl) (mpp 2 rfl ?_)
  refine mt_callv (i := 85) (q' := q_144) (As := [.int t1]) (rest := []) hT dX7_why_2 rfl qm_144 (by decide) rfl rl_301 (by decide) rfl (Nat.le_of_ble_eq_true rfl) rfl ⟨rfl, rfl⟩ ⟨Nat.le_of_ble_eq_true rfl, Nat.le_of_ble_eq_true rfl⟩ (EvP.mono (by decide) (c_M_isPiece hT )) (fun r1 P2 g3 => mpp 5 rfl ?_)
  obtain ⟨⟨x4, rfl, g5⟩, e6⟩ := g3
  have e6 := e6.symm
  subst e6
  have wx4 := ti_full x4
  have g5 : 0 ≤ x4.toInt ∧ x4.toInt ≤ 1 ∧ ((x4.toInt = 1 ∧ 0 ≤ t1.toInt ∧ t1.toInt + 1 ≤ (fv Po 302 0).toInt ∧ t1.toInt ≤ 7) ∨ (x4.toInt = 0 ∧ (t1.toInt < 0 ∨ (fv Po 302 0).toInt ≤ t1.toInt))) := g5
  have g7 : (0 : Int) ≤ (fv Po 302 0).toInt ∧ (fv Po 302 0).toInt ≤ 8 := Typ.rng hT rl_302 (by decide) (by decide) rfl
  show MEvP _ none q_159 5 [(0, .ref 301), (1, .int t1)] [.int x4] _ _ _ _
  refine mp_Tb (t := 16) (j_if_eq dX7_why_5) (by decide) (fun c8 => ?_) (fun c8 => mpp 8 rfl ?_)
  · have c8 : x4.toInt = 0 := ti_eq c8
    refine mp_a (a_sipush (v := -1001) dX7_why_16 rfl) (mpp 19 rfl ?_)
    exact mp_iret ⟨⟨_, rfl, trivial⟩, hT, KW.refl, trivial⟩ dX7_why_19 (Or.inl rfl)
  · have c8 : x4.toInt ≠ 0 := ti_eq_n c8
    refine mp_a (a_aload_n dX7_why_8 rfl) (mpp 9 rfl ?_)
    refine mp_a (a_iload_n dX7_why_9 rfl) (mpp 10 rfl ?_)
    have p9 : 0 ≤ t1.toInt := by omega
    have p10 : t1.toInt ≤ 7 := by omega
    refine mt_callv (i := 212) (q' := q_160) (As := [.int t1]) (rest := []) hT dX7_why_10 rfl qm_160 (by decide) rfl rl_301 (by decide) rfl (Nat.le_of_ble_eq_true rfl) rfl ⟨rfl, rfl⟩ ⟨Nat.le_of_ble_eq_true rfl, Nat.le_of_ble_eq_true rfl⟩ (EvP.mono (by decide) (c_M_whyNot hT p9 p10 )) (fun r11 P12 g13 => mpp 13 rfl ?_)
    obtain ⟨⟨x14, rfl, g15⟩, hT16, k17, R18⟩ := g13
    have k19 : KW [1101, 1102, 1536, 1600] Po P12 := KW.trans KW.refl k17 rfl
    have wx14 := ti_full x14
    have g15 : x14.toInt ≠ 4 ∨ UD Po t1.toInt.toNat 0 := g15
    show MEvP _ none q_159 13 [(0, .ref 301), (1, .int t1)] [.int x14] _ _ _ _
    refine mp_a (a_goto (t := 19) dX7_why_13 (by decide)) ?_
    exact mp_iret ⟨⟨_, rfl, trivial⟩, hT16, k19, trivial⟩ dX7_why_19 (Or.inl rfl)

set_option maxHeartbeats 4000000 in
theorem c_M_wrongStrip {Po : mP} {t1 : Int32} (hT : Typ Po)   : EvP 6 199 [.ref 301, .int t1] Po (fun r P' => (∃ x : Int32, r = some (.int x) ∧ (x.toInt ≠ 0 ∨ (0 ≤ t1.toInt ∧ t1.toInt + 1 ≤ (fv Po 302 0).toInt ∧ t1.toInt ≤ 7 ∧ (fv Po 302 (3 + 19 * t1.toInt.toNat)).toInt = 0))) ∧ P' = Po) := by
  refine EvP.of qm_199 (Nat.le_of_ble_eq_true rfl) rfl ?_
  show MEvP _ none q_199 0 [(0, .ref 301), (1, .int t1)] [] _ 0 0 _
  have g1 : (0 : Int) ≤ (fv Po 302 0).toInt ∧ (fv Po 302 0).toInt ≤ 8 := Typ.rng hT rl_302 (by decide) (by decide) rfl
  have g2 := ti_full (fv Po 302 (3 + 19 * t1.toInt.toNat))
  refine mp_a (a_aload_n dX7_wrongStrip_0 rfl) (mpp 1 rfl ?_)
  refine mp_a (a_iload_n dX7_wrongStrip_1 rfl) (mpp 2 rfl ?_)
  refine mt_callv (i := 85) (q' := q_144) (As := [.int t1]) (rest := []) hT dX7_wrongStrip_2 rfl qm_144 (by decide) rfl rl_301 (by decide) rfl (Nat.le_of_ble_eq_true rfl) rfl ⟨rfl, rfl⟩ ⟨Nat.le_of_ble_eq_true rfl, Nat.le_of_ble_eq_true rfl⟩ (EvP.mono (by decide) (c_M_isPiece hT )) (fun r3 P4 g5 => mpp 5 rfl ?_)
  obtain ⟨⟨x6, rfl, g7⟩, e8⟩ := g5
  have e8 := e8.symm
  subst e8
  have wx6 := ti_full x6
  have g7 : 0 ≤ x6.toInt ∧ x6.toInt ≤ 1 ∧ ((x6.toInt = 1 ∧ 0 ≤ t1.toInt ∧ t1.toInt + 1 ≤ (fv Po 302 0).toInt ∧ t1.toInt ≤ 7) ∨ (x6.toInt = 0 ∧ (t1.toInt < 0 ∨ (fv Po 302 0).toInt ≤ t1.toInt))) := g7
  show MEvP _ none q_199 5 [(0, .ref 301), (1, .int t1)] [.int x6] _ _ _ _
  refine mp_Tb (t := 14) (j_if_ne dX7_wrongStrip_5) (by decide) (fun c9 => ?_) (fun c9 => mpp 8 rfl ?_)
  · have c9 : x6.toInt ≠ 0 := ti_ne c9
    refine mp_a (a_aload_n dX7_wrongStrip_14 rfl) (mpp 15 rfl ?_)
    refine mp_a (a_iload_n dX7_wrongStrip_15 rfl) (mpp 16 rfl ?_)
    have p10 : 0 ≤ t1.toInt := by omega
    have p11 : t1.toInt ≤ 7 := by omega
    refine mt_callv (i := 81) (q' := q_138) (As := [.int t1]) (rest := []) hT dX7_wrongStrip_16 rfl qm_138 (by decide) rfl rl_301 (by decide) rfl (Nat.le_of_ble_eq_true rfl) rfl ⟨rfl, rfl⟩ ⟨Nat.le_of_ble_eq_true rfl, Nat.le_of_ble_eq_true rfl⟩ (EvP.mono (by decide) (c_M_isCorner hT p10 p11 )) (fun r12 P13 g14 => mpp 19 rfl ?_)
    obtain ⟨⟨x15, rfl, g16⟩, e17⟩ := g14
    have e17 := e17.symm
    subst e17
    have wx15 := ti_full x15
    have g16 : 0 ≤ x15.toInt ∧ x15.toInt ≤ 1 ∧ ((x15.toInt = 1 ∧ (fv Po 302 (3 + 19 * t1.toInt.toNat)).toInt = 1) ∨ (x15.toInt = 0 ∧ (fv Po 302 (3 + 19 * t1.toInt.toNat)).toInt = 0)) := g16
    show MEvP _ none q_199 19 [(0, .ref 301), (1, .int t1)] [.int x15] _ _ _ _
    refine mp_Tb (t := 28) (j_if_eq dX7_wrongStrip_19) (by decide) (fun c18 => ?_) (fun c18 => mpp 22 rfl ?_)
    · have c18 : x15.toInt = 0 := ti_eq c18
      refine mp_a (a_aload_n dX7_wrongStrip_28 rfl) (mpp 29 rfl ?_)
      refine mp_a (a_iload_n dX7_wrongStrip_29 rfl) (mpp 30 rfl ?_)
      refine mp_a (a_iconst (v := 0) dX7_wrongStrip_30 rfl) (mpp 31 rfl ?_)
      have p19 : 0 ≤ t1.toInt := by omega
      have p20 : t1.toInt ≤ 7 := by omega
      refine mt_callv (i := 136) (q' := q_149) (As := [.int t1, .int 0]) (rest := []) hT dX7_wrongStrip_31 rfl qm_149 (by decide) rfl rl_301 (by decide) rfl (Nat.le_of_ble_eq_true rfl) rfl ⟨rfl, rfl⟩ ⟨Nat.le_of_ble_eq_true rfl, Nat.le_of_ble_eq_true rfl⟩ (EvP.mono (by decide) (c_M_countOf hT p19 p20 )) (fun r21 P22 g23 => mpp 34 rfl ?_)
      obtain ⟨⟨x24, rfl, g25⟩, e26⟩ := g23
      have e26 := e26.symm
      subst e26
      have wx24 := ti_full x24
      have g25 : (x24.toInt ≤ 0 ∨ UD Po t1.toInt.toNat (0 : Int)) ∧ 0 ≤ x24.toInt ∧ x24.toInt ≤ 8 := g25
      show MEvP _ none q_199 34 [(0, .ref 301), (1, .int t1)] [.int x24] _ _ _ _
      refine mp_Tb (t := 43) (j_if_le dX7_wrongStrip_34) (by decide) (fun c27 => ?_) (fun c27 => mpp 37 rfl ?_)
      · have c27 : x24.toInt ≤ 0 := ti_le c27
        refine mp_a (a_iconst (v := 0) dX7_wrongStrip_43 rfl) (mpp 44 rfl ?_)
        have u28 : (0 : Int) ≠ 0 ∨ (0 ≤ t1.toInt ∧ t1.toInt + 1 ≤ (fv Po 302 0).toInt ∧ t1.toInt ≤ 7 ∧ (fv Po 302 (3 + 19 * t1.toInt.toNat)).toInt = 0) := by omega
        exact mp_iret ⟨⟨_, rfl, u28⟩, rfl⟩ dX7_wrongStrip_44 (Or.inl rfl)
      · have c27 : x24.toInt > 0 := ti_le_n c27
        refine mp_a (a_sipush (v := -1004) dX7_wrongStrip_37 rfl) (mpp 40 rfl ?_)
        refine mp_a (a_goto (t := 44) dX7_wrongStrip_40 (by decide)) ?_
        have u29 : (-1004 : Int) ≠ 0 ∨ (0 ≤ t1.toInt ∧ t1.toInt + 1 ≤ (fv Po 302 0).toInt ∧ t1.toInt ≤ 7 ∧ (fv Po 302 (3 + 19 * t1.toInt.toNat)).toInt = 0) := by omega
        exact mp_iret ⟨⟨_, rfl, u29⟩, rfl⟩ dX7_wrongStrip_44 (Or.inl rfl)
    · have c18 : x15.toInt ≠ 0 := ti_eq_n c18
      refine mp_a (a_sipush (v := -1002) dX7_wrongStrip_22 rfl) (mpp 25 rfl ?_)
      refine mp_a (a_goto (t := 44) dX7_wrongStrip_25 (by decide)) ?_
      have u30 : (-1002 : Int) ≠ 0 ∨ (0 ≤ t1.toInt ∧ t1.toInt + 1 ≤ (fv Po 302 0).toInt ∧ t1.toInt ≤ 7 ∧ (fv Po 302 (3 + 19 * t1.toInt.toNat)).toInt = 0) := by omega
      exact mp_iret ⟨⟨_, rfl, u30⟩, rfl⟩ dX7_wrongStrip_44 (Or.inl rfl)
  · have c9 : x6.toInt = 0 := ti_ne_n c9
    refine mp_a (a_sipush (v := -1001) dX7_wrongStrip_8 rfl) (mpp 11 rfl ?_)
    refine mp_a (a_goto (t := 44) dX7_wrongStrip_11 (by decide)) ?_
    have u31 : (-1001 : Int) ≠ 0 ∨ (0 ≤ t1.toInt ∧ t1.toInt + 1 ≤ (fv Po 302 0).toInt ∧ t1.toInt ≤ 7 ∧ (fv Po 302 (3 + 19 * t1.toInt.toNat)).toInt = 0) := by omega
    exact mp_iret ⟨⟨_, rfl, u31⟩, rfl⟩ dX7_wrongStrip_44 (Or.inl rfl)

set_option maxHeartbeats 4000000 in
theorem c_M_reachesOver {Po : mP} {t1 : Int32} {t2 : Int32} (hT : Typ Po)  (hp0 : 0 ≤ t1.toInt) (hp1 : t1.toInt ≤ 6)  : EvP 2 204 [.ref 301, .int t1, .int t2] Po (fun r P' => (∃ x : Int32, r = some (.int x) ∧ (0 ≤ x.toInt ∧ x.toInt ≤ 1)) ∧ P' = Po) := by
  refine EvP.of qm_204 (Nat.le_of_ble_eq_true rfl) rfl ?_
  show MEvP _ none q_204 0 [(0, .ref 301), (1, .int t1), (2, .int t2)] [] _ 0 0 _
  refine mp_a (a_aload_n dX7_reachesOver_0 rfl) (mpp 1 rfl ?_)
  refine mt_getU (i := 40) (k := 17) (A := 312) hT dX7_reachesOver_1 rfl rl_301 (by decide) rfl (by decide) rfl un_28 (mpp 4 rfl ?_)
  refine mp_a (a_iload_n dX7_reachesOver_4 rfl) (mpp 5 rfl ?_)
  refine mt_ial (n := 8) hT dX7_reachesOver_5 rl_312 (by decide) rfl rfl (by omega) (by omega) rfl (fun g1 g2 => mpp 6 rfl ?_)
  refine mp_a (a_aload_n dX7_reachesOver_6 rfl) (mpp 7 rfl ?_)
  refine mt_getU (i := 40) (k := 17) (A := 312) hT dX7_reachesOver_7 rfl rl_301 (by decide) rfl (by decide) rfl un_28 (mpp 10 rfl ?_)
  refine mp_a (a_iload_n dX7_reachesOver_10 rfl) (mpp 11 rfl ?_)
  refine mp_a (a_iconst (v := 1) dX7_reachesOver_11 rfl) (mpp 12 rfl ?_)
  obtain ⟨z3, h4⟩ := ti_ex (t1 + 1 : Int32)
  have wz3 := ti_full z3
  refine mp_t (s_iadd (v := z3) dX7_reachesOver_12 h4) (mpp 13 rfl ?_)
  try have e5 : z3.toInt = t1.toInt + 1 := ti_addz h4 rfl rfl (by omega) (by omega)
  refine mt_ial (n := 8) hT dX7_reachesOver_13 rl_312 (by decide) rfl rfl (by omega) (by omega) rfl (fun g6 g7 => mpp 14 rfl ?_)
  refine mp_calls (i := 155) (q' := q_158) (As := [.int (fv Po 312 t1.toInt.toNat), .int (fv Po 312 z3.toInt.toNat)]) (rest := []) dX7_reachesOver_14 rfl qm_158 (by decide) rfl (Nat.le_of_ble_eq_true rfl) rfl ⟨rfl, rfl⟩ ⟨Nat.le_of_ble_eq_true rfl, Nat.le_of_ble_eq_true rfl⟩ (EvP.mono (by decide) (c_M_lesser hT )) (fun r8 P9 g10 => mpp 17 rfl ?_)
  obtain ⟨⟨x11, rfl, g12⟩, e13⟩ := g10
  have e13 := e13.symm
  subst e13
  have wx11 := ti_full x11
  have g12 : (x11.toInt = (fv Po 312 t1.toInt.toNat).toInt ∧ (fv Po 312 t1.toInt.toNat).toInt ≤ (fv Po 312 z3.toInt.toNat).toInt) ∨ (x11.toInt = (fv Po 312 z3.toInt.toNat).toInt ∧ (fv Po 312 z3.toInt.toNat).toInt ≤ (fv Po 312 t1.toInt.toNat).toInt) := g12
  show MEvP _ none q_204 17 [(0, .ref 301), (1, .int t1), (2, .int t2)] [.int x11] _ _ _ _
  refine mp_a (a_iload_n dX7_reachesOver_17 rfl) (mpp 18 rfl ?_)
  refine mp_Tb (t := 46) (j_icmp_ge dX7_reachesOver_18) (by decide) (fun c14 => ?_) (fun c14 => mpp 21 rfl ?_)
  · have c14 : x11.toInt ≥ t2.toInt := ti_ge c14
    refine mp_a (a_iconst (v := 0) dX7_reachesOver_46 rfl) (mpp 47 rfl ?_)
    have u15 : 0 ≤ (0 : Int) ∧ (0 : Int) ≤ 1 := by omega
    exact mp_iret ⟨⟨_, rfl, u15⟩, rfl⟩ dX7_reachesOver_47 (Or.inr ⟨rfl, by decide⟩)
  · have c14 : x11.toInt < t2.toInt := ti_ge_n c14
    refine mp_a (a_iload_n dX7_reachesOver_21 rfl) (mpp 22 rfl ?_)
    refine mp_a (a_aload_n dX7_reachesOver_22 rfl) (mpp 23 rfl ?_)
    refine mt_getU (i := 40) (k := 17) (A := 312) hT dX7_reachesOver_23 rfl rl_301 (by decide) rfl (by decide) rfl un_28 (mpp 26 rfl ?_)
    refine mp_a (a_iload_n dX7_reachesOver_26 rfl) (mpp 27 rfl ?_)
    refine mt_ial (n := 8) hT dX7_reachesOver_27 rl_312 (by decide) rfl rfl (by omega) (by omega) rfl (fun g16 g17 => mpp 28 rfl ?_)
    refine mp_a (a_aload_n dX7_reachesOver_28 rfl) (mpp 29 rfl ?_)
    refine mt_getU (i := 40) (k := 17) (A := 312) hT dX7_reachesOver_29 rfl rl_301 (by decide) rfl (by decide) rfl un_28 (mpp 32 rfl ?_)
    refine mp_a (a_iload_n dX7_reachesOver_32 rfl) (mpp 33 rfl ?_)
    refine mp_a (a_iconst (v := 1) dX7_reachesOver_33 rfl) (mpp 34 rfl ?_)
    obtain ⟨z18, h19⟩ := ti_ex (t1 + 1 : Int32)
    have wz18 := ti_full z18
    refine mp_t (s_iadd (v := z18) dX7_reachesOver_34 h19) (mpp 35 rfl ?_)
    try have e20 : z18.toInt = t1.toInt + 1 := ti_addz h19 rfl rfl (by omega) (by omega)
    refine mt_ial (n := 8) hT dX7_reachesOver_35 rl_312 (by decide) rfl rfl (by omega) (by omega) rfl (fun g21 g22 => mpp 36 rfl ?_)
    refine mp_calls (i := 178) (q' := q_173) (As := [.int (fv Po 312 t1.toInt.toNat), .int (fv Po 312 z18.toInt.toNat)]) (rest := [.int t2]) dX7_reachesOver_36 rfl qm_173 (by decide) rfl (Nat.le_of_ble_eq_true rfl) rfl ⟨rfl, rfl⟩ ⟨Nat.le_of_ble_eq_true rfl, Nat.le_of_ble_eq_true rfl⟩ (EvP.mono (by decide) (c_M_greater hT )) (fun r23 P24 g25 => mpp 39 rfl ?_)
    obtain ⟨⟨x26, rfl, g27⟩, e28⟩ := g25
    have e28 := e28.symm
    subst e28
    have wx26 := ti_full x26
    have g27 : (x26.toInt = (fv Po 312 t1.toInt.toNat).toInt ∧ (fv Po 312 z18.toInt.toNat).toInt ≤ (fv Po 312 t1.toInt.toNat).toInt) ∨ (x26.toInt = (fv Po 312 z18.toInt.toNat).toInt ∧ (fv Po 312 t1.toInt.toNat).toInt ≤ (fv Po 312 z18.toInt.toNat).toInt) := g27
    show MEvP _ none q_204 39 [(0, .ref 301), (1, .int t1), (2, .int t2)] [.int x26, .int t2] _ _ _ _
    refine mp_Tb (t := 46) (j_icmp_ge dX7_reachesOver_39) (by decide) (fun c29 => ?_) (fun c29 => mpp 42 rfl ?_)
    · have c29 : t2.toInt ≥ x26.toInt := ti_ge c29
      refine mp_a (a_iconst (v := 0) dX7_reachesOver_46 rfl) (mpp 47 rfl ?_)
      have u30 : 0 ≤ (0 : Int) ∧ (0 : Int) ≤ 1 := by omega
      exact mp_iret ⟨⟨_, rfl, u30⟩, rfl⟩ dX7_reachesOver_47 (Or.inr ⟨rfl, by decide⟩)
    · have c29 : t2.toInt < x26.toInt := ti_ge_n c29
      refine mp_a (a_iconst (v := 1) dX7_reachesOver_42 rfl) (mpp 43 rfl ?_)
      refine mp_a (a_goto (t := 47) dX7_reachesOver_43 (by decide)) ?_
      have u31 : 0 ≤ (1 : Int) ∧ (1 : Int) ≤ 1 := by omega
      exact mp_iret ⟨⟨_, rfl, u31⟩, rfl⟩ dX7_reachesOver_47 (Or.inr ⟨rfl, by decide⟩)

set_option maxHeartbeats 4000000 in
theorem c_M_isBetween {Po : mP} {t1 : Int32} {t2 : Int32} (hT : Typ Po)  (hp0 : 0 ≤ t1.toInt) (hp1 : t1.toInt ≤ 6) (hp2 : 0 ≤ t2.toInt) (hp3 : t2.toInt ≤ 5)  : EvP 2 205 [.ref 301, .int t1, .int t2] Po (fun r P' => (∃ x : Int32, r = some (.int x) ∧ (0 ≤ x.toInt ∧ x.toInt ≤ 1)) ∧ P' = Po) := by
  refine EvP.of qm_205 (Nat.le_of_ble_eq_true rfl) rfl ?_
  show MEvP _ none q_205 0 [(0, .ref 301), (1, .int t1), (2, .int t2)] [] _ 0 0 _
  refine mp_a (a_aload_n dX7_isBetween_0 rfl) (mpp 1 rfl ?_)
  refine mt_getU (i := 34) (k := 15) (A := 310) hT dX7_isBetween_1 rfl rl_301 (by decide) rfl (by decide) rfl un_26 (mpp 4 rfl ?_)
  refine mp_a (a_iload_n dX7_isBetween_4 rfl) (mpp 5 rfl ?_)
  refine mt_ial (n := 7) hT dX7_isBetween_5 rl_310 (by decide) rfl rfl (by omega) (by omega) rfl (fun g1 g2 => mpp 6 rfl ?_)
  refine mp_a (a_aload_n dX7_isBetween_6 rfl) (mpp 7 rfl ?_)
  refine mt_getU (i := 34) (k := 15) (A := 310) hT dX7_isBetween_7 rfl rl_301 (by decide) rfl (by decide) rfl un_26 (mpp 10 rfl ?_)
  refine mp_a (a_iload_n dX7_isBetween_10 rfl) (mpp 11 rfl ?_)
  refine mp_a (a_iconst (v := 1) dX7_isBetween_11 rfl) (mpp 12 rfl ?_)
  obtain ⟨z3, h4⟩ := ti_ex (t2 + 1 : Int32)
  have wz3 := ti_full z3
  refine mp_t (s_iadd (v := z3) dX7_isBetween_12 h4) (mpp 13 rfl ?_)
  try have e5 : z3.toInt = t2.toInt + 1 := ti_addz h4 rfl rfl (by omega) (by omega)
  refine mt_ial (n := 7) hT dX7_isBetween_13 rl_310 (by decide) rfl rfl (by omega) (by omega) rfl (fun g6 g7 => mpp 14 rfl ?_)
  refine mp_calls (i := 155) (q' := q_158) (As := [.int (fv Po 310 t2.toInt.toNat), .int (fv Po 310 z3.toInt.toNat)]) (rest := []) dX7_isBetween_14 rfl qm_158 (by decide) rfl (Nat.le_of_ble_eq_true rfl) rfl ⟨rfl, rfl⟩ ⟨Nat.le_of_ble_eq_true rfl, Nat.le_of_ble_eq_true rfl⟩ (EvP.mono (by decide) (c_M_lesser hT )) (fun r8 P9 g10 => mpp 17 rfl ?_)
  obtain ⟨⟨x11, rfl, g12⟩, e13⟩ := g10
  have e13 := e13.symm
  subst e13
  have wx11 := ti_full x11
  have g12 : (x11.toInt = (fv Po 310 t2.toInt.toNat).toInt ∧ (fv Po 310 t2.toInt.toNat).toInt ≤ (fv Po 310 z3.toInt.toNat).toInt) ∨ (x11.toInt = (fv Po 310 z3.toInt.toNat).toInt ∧ (fv Po 310 z3.toInt.toNat).toInt ≤ (fv Po 310 t2.toInt.toNat).toInt) := g12
  show MEvP _ none q_205 17 [(0, .ref 301), (1, .int t1), (2, .int t2)] [.int x11] _ _ _ _
  refine mp_a (a_istore_n (L' := [(3, .int x11), (0, .ref 301), (1, .int t1), (2, .int t2)]) dX7_isBetween_17 (by decide) rfl) (mpp 18 rfl ?_)
  refine mp_a (a_aload_n dX7_isBetween_18 rfl) (mpp 19 rfl ?_)
  refine mt_getU (i := 34) (k := 15) (A := 310) hT dX7_isBetween_19 rfl rl_301 (by decide) rfl (by decide) rfl un_26 (mpp 22 rfl ?_)
  refine mp_a (a_iload_n dX7_isBetween_22 rfl) (mpp 23 rfl ?_)
  refine mt_ial (n := 7) hT dX7_isBetween_23 rl_310 (by decide) rfl rfl (by omega) (by omega) rfl (fun g14 g15 => mpp 24 rfl ?_)
  refine mp_a (a_aload_n dX7_isBetween_24 rfl) (mpp 25 rfl ?_)
  refine mt_getU (i := 34) (k := 15) (A := 310) hT dX7_isBetween_25 rfl rl_301 (by decide) rfl (by decide) rfl un_26 (mpp 28 rfl ?_)
  refine mp_a (a_iload_n dX7_isBetween_28 rfl) (mpp 29 rfl ?_)
  refine mp_a (a_iconst (v := 1) dX7_isBetween_29 rfl) (mpp 30 rfl ?_)
  obtain ⟨z16, h17⟩ := ti_ex (t2 + 1 : Int32)
  have wz16 := ti_full z16
  refine mp_t (s_iadd (v := z16) dX7_isBetween_30 h17) (mpp 31 rfl ?_)
  try have e18 : z16.toInt = t2.toInt + 1 := ti_addz h17 rfl rfl (by omega) (by omega)
  refine mt_ial (n := 7) hT dX7_isBetween_31 rl_310 (by decide) rfl rfl (by omega) (by omega) rfl (fun g19 g20 => mpp 32 rfl ?_)
  refine mp_calls (i := 178) (q' := q_173) (As := [.int (fv Po 310 t2.toInt.toNat), .int (fv Po 310 z16.toInt.toNat)]) (rest := []) dX7_isBetween_32 rfl qm_173 (by decide) rfl (Nat.le_of_ble_eq_true rfl) rfl ⟨rfl, rfl⟩ ⟨Nat.le_of_ble_eq_true rfl, Nat.le_of_ble_eq_true rfl⟩ (EvP.mono (by decide) (c_M_greater hT )) (fun r21 P22 g23 => mpp 35 rfl ?_)
  obtain ⟨⟨x24, rfl, g25⟩, e26⟩ := g23
  have e26 := e26.symm
  subst e26
  have wx24 := ti_full x24
  have g25 : (x24.toInt = (fv Po 310 t2.toInt.toNat).toInt ∧ (fv Po 310 z16.toInt.toNat).toInt ≤ (fv Po 310 t2.toInt.toNat).toInt) ∨ (x24.toInt = (fv Po 310 z16.toInt.toNat).toInt ∧ (fv Po 310 t2.toInt.toNat).toInt ≤ (fv Po 310 z16.toInt.toNat).toInt) := g25
  show MEvP _ none q_205 35 [(3, .int x11), (0, .ref 301), (1, .int t1), (2, .int t2)] [.int x24] _ _ _ _
  refine mp_a (a_istore (L' := [(4, .int x24), (3, .int x11), (0, .ref 301), (1, .int t1), (2, .int t2)]) dX7_isBetween_35 (by decide) rfl) (mpp 37 rfl ?_)
  refine mp_a (a_aload_n dX7_isBetween_37 rfl) (mpp 38 rfl ?_)
  refine mt_getU (i := 34) (k := 15) (A := 310) hT dX7_isBetween_38 rfl rl_301 (by decide) rfl (by decide) rfl un_26 (mpp 41 rfl ?_)
  refine mp_a (a_iload_n dX7_isBetween_41 rfl) (mpp 42 rfl ?_)
  refine mt_ial (n := 7) hT dX7_isBetween_42 rl_310 (by decide) rfl rfl (by omega) (by omega) rfl (fun g27 g28 => mpp 43 rfl ?_)
  refine mp_a (a_iload_n dX7_isBetween_43 rfl) (mpp 44 rfl ?_)
  refine mp_Tb (t := 62) (j_icmp_le dX7_isBetween_44) (by decide) (fun c29 => ?_) (fun c29 => mpp 47 rfl ?_)
  · have c29 : (fv Po 310 t1.toInt.toNat).toInt ≤ x11.toInt := ti_le c29
    refine mp_a (a_iconst (v := 0) dX7_isBetween_62 rfl) (mpp 63 rfl ?_)
    have u30 : 0 ≤ (0 : Int) ∧ (0 : Int) ≤ 1 := by omega
    exact mp_iret ⟨⟨_, rfl, u30⟩, rfl⟩ dX7_isBetween_63 (Or.inr ⟨rfl, by decide⟩)
  · have c29 : (fv Po 310 t1.toInt.toNat).toInt > x11.toInt := ti_le_n c29
    refine mp_a (a_aload_n dX7_isBetween_47 rfl) (mpp 48 rfl ?_)
    refine mt_getU (i := 34) (k := 15) (A := 310) hT dX7_isBetween_48 rfl rl_301 (by decide) rfl (by decide) rfl un_26 (mpp 51 rfl ?_)
    refine mp_a (a_iload_n dX7_isBetween_51 rfl) (mpp 52 rfl ?_)
    refine mt_ial (n := 7) hT dX7_isBetween_52 rl_310 (by decide) rfl rfl (by omega) (by omega) rfl (fun g31 g32 => mpp 53 rfl ?_)
    refine mp_a (a_iload dX7_isBetween_53 rfl) (mpp 55 rfl ?_)
    refine mp_Tb (t := 62) (j_icmp_ge dX7_isBetween_55) (by decide) (fun c33 => ?_) (fun c33 => mpp 58 rfl ?_)
    · have c33 : (fv Po 310 t1.toInt.toNat).toInt ≥ x24.toInt := ti_ge c33
      refine mp_a (a_iconst (v := 0) dX7_isBetween_62 rfl) (mpp 63 rfl ?_)
      have u34 : 0 ≤ (0 : Int) ∧ (0 : Int) ≤ 1 := by omega
      exact mp_iret ⟨⟨_, rfl, u34⟩, rfl⟩ dX7_isBetween_63 (Or.inr ⟨rfl, by decide⟩)
    · have c33 : (fv Po 310 t1.toInt.toNat).toInt < x24.toInt := ti_ge_n c33
      refine mp_a (a_iconst (v := 1) dX7_isBetween_58 rfl) (mpp 59 rfl ?_)
      refine mp_a (a_goto (t := 63) dX7_isBetween_59 (by decide)) ?_
      have u35 : 0 ≤ (1 : Int) ∧ (1 : Int) ≤ 1 := by omega
      exact mp_iret ⟨⟨_, rfl, u35⟩, rfl⟩ dX7_isBetween_63 (Or.inr ⟨rfl, by decide⟩)

set_option maxHeartbeats 4000000 in
theorem c_M_collides_l59 {Po : mP} {t1 : Int32} (hT : Typ Po)  (hp0 : 0 ≤ t1.toInt) (hp1 : t1.toInt + 2 ≤ (fv Po 301 20).toInt) (hp2 : (fv Po 301 20).toInt ≤ 7)  : ∀ (n : Nat) (v2 : Int32), (0 ≤ v2.toInt) → (2147483647 - v2.toInt).toNat = n → MEvP 2 none q_203 59 [(0, .ref 301), (1, .int t1), (2, .int v2)] [] Po 0 0 (fun r P' => (∃ x : Int32, r = some (.int x) ∧ (0 ≤ x.toInt ∧ x.toInt ≤ 1)) ∧ P' = Po) := by
  intro n
  induction n using Nat.strongRecOn with | _ n ih => ?_
  intro v2 i_0 hm
  have w_t1 := ti_full t1
  have w_v2 := ti_full v2
  have g1 : (0 : Int) ≤ (fv Po 301 20).toInt ∧ (fv Po 301 20).toInt ≤ 8 := Typ.rng hT rl_301 (by decide) (by decide) rfl
  refine mp_a (a_iload_n dX7_collides_59 rfl) (mpp 60 rfl ?_)
  refine mp_a (a_aload_n dX7_collides_60 rfl) (mpp 61 rfl ?_)
  refine mt_getI (i := 255) (k := 20) hT dX7_collides_61 rfl rl_301 (by decide) rfl (by decide) rfl (fun g2 g3 => mpp 64 rfl ?_)
  refine mp_a (a_iconst (v := 1) dX7_collides_64 rfl) (mpp 65 rfl ?_)
  obtain ⟨z4, h5⟩ := ti_ex ((fv Po 301 20) - 1 : Int32)
  have wz4 := ti_full z4
  refine mp_t (s_isub (v := z4) dX7_collides_65 h5) (mpp 66 rfl ?_)
  try have e6 : z4.toInt = (fv Po 301 20).toInt - 1 := ti_subz h5 rfl rfl (by omega) (by omega)
  refine mp_Tb (t := 128) (j_icmp_ge dX7_collides_66) (by decide) (fun c7 => ?_) (fun c7 => mpp 69 rfl ?_)
  · have c7 : v2.toInt ≥ z4.toInt := ti_ge c7
    refine mp_a (a_iconst (v := 0) dX7_collides_128 rfl) (mpp 129 rfl ?_)
    have u8 : 0 ≤ (0 : Int) ∧ (0 : Int) ≤ 1 := by omega
    exact mp_iret ⟨⟨_, rfl, u8⟩, rfl⟩ dX7_collides_129 (Or.inr ⟨rfl, by decide⟩)
  · have c7 : v2.toInt < z4.toInt := ti_ge_n c7
    refine mp_a (a_iload_n dX7_collides_69 rfl) (mpp 70 rfl ?_)
    refine mp_a (a_iload_n dX7_collides_70 rfl) (mpp 71 rfl ?_)
    refine mp_Tb (t := 97) (j_icmp_eq dX7_collides_71) (by decide) (fun c9 => ?_) (fun c9 => mpp 74 rfl ?_)
    · have c9 : v2.toInt = t1.toInt := ti_eq c9
      refine mp_a (a_iconst (v := 0) dX7_collides_97 rfl) (mpp 98 rfl ?_)
      refine mp_a (a_istore_n (L' := [(3, .int 0), (0, .ref 301), (1, .int t1), (2, .int v2)]) dX7_collides_98 (by decide) rfl) (mpp 99 rfl ?_)
      refine mp_a (a_iload_n dX7_collides_99 rfl) (mpp 100 rfl ?_)
      refine mp_Tt (t := 122) (j_if_eq dX7_collides_100) (by decide) (by decide) ?_
      obtain ⟨z10, h11⟩ := ti_ex (v2 + 2 : Int32)
      have wz10 := ti_full z10
      refine mp_a (a_iinc (v := z10) (L' := [(2, .int z10), (3, .int 0), (0, .ref 301), (1, .int t1)]) dX7_collides_122 (by decide) rfl h11 rfl) (mpp 125 rfl ?_)
      try have e12 : z10.toInt = v2.toInt + 2 := ti_addz h11 rfl rfl (by omega) (by omega)
      refine mp_a (a_goto (t := 59) dX7_collides_125 (by decide)) ?_
      refine MEvP.less (L := [(0, .ref 301), (1, .int t1), (2, .int z10)]) rfl rfl ⟨rfl, rfl, rfl, trivial⟩ ?_
      have i13 : 0 ≤ z10.toInt := by omega
      exact ih _ (by omega) _ i13 rfl
    · have c9 : v2.toInt ≠ t1.toInt := ti_eq_n c9
      refine mp_a (a_aload_n dX7_collides_74 rfl) (mpp 75 rfl ?_)
      refine mt_getU (i := 40) (k := 17) (A := 312) hT dX7_collides_75 rfl rl_301 (by decide) rfl (by decide) rfl un_28 (mpp 78 rfl ?_)
      refine mp_a (a_iload_n dX7_collides_78 rfl) (mpp 79 rfl ?_)
      refine mp_a (a_iconst (v := 1) dX7_collides_79 rfl) (mpp 80 rfl ?_)
      obtain ⟨z14, h15⟩ := ti_ex (v2 + 1 : Int32)
      have wz14 := ti_full z14
      refine mp_t (s_iadd (v := z14) dX7_collides_80 h15) (mpp 81 rfl ?_)
      try have e16 : z14.toInt = v2.toInt + 1 := ti_addz h15 rfl rfl (by omega) (by omega)
      refine mt_ial (n := 8) hT dX7_collides_81 rl_312 (by decide) rfl rfl (by omega) (by omega) rfl (fun g17 g18 => mpp 82 rfl ?_)
      refine mp_a (a_aload_n dX7_collides_82 rfl) (mpp 83 rfl ?_)
      refine mt_getU (i := 40) (k := 17) (A := 312) hT dX7_collides_83 rfl rl_301 (by decide) rfl (by decide) rfl un_28 (mpp 86 rfl ?_)
      refine mp_a (a_iload_n dX7_collides_86 rfl) (mpp 87 rfl ?_)
      refine mp_a (a_iconst (v := 1) dX7_collides_87 rfl) (mpp 88 rfl ?_)
      obtain ⟨z19, h20⟩ := ti_ex (t1 + 1 : Int32)
      have wz19 := ti_full z19
      refine mp_t (s_iadd (v := z19) dX7_collides_88 h20) (mpp 89 rfl ?_)
      try have e21 : z19.toInt = t1.toInt + 1 := ti_addz h20 rfl rfl (by omega) (by omega)
      refine mt_ial (n := 8) hT dX7_collides_89 rl_312 (by decide) rfl rfl (by omega) (by omega) rfl (fun g22 g23 => mpp 90 rfl ?_)
      refine mp_Tb (t := 97) (j_icmp_ne dX7_collides_90) (by decide) (fun c24 => ?_) (fun c24 => mpp 93 rfl ?_)
      · have c24 : (fv Po 312 z14.toInt.toNat).toInt ≠ (fv Po 312 z19.toInt.toNat).toInt := ti_ne c24
        refine mp_a (a_iconst (v := 0) dX7_collides_97 rfl) (mpp 98 rfl ?_)
        refine mp_a (a_istore_n (L' := [(3, .int 0), (0, .ref 301), (1, .int t1), (2, .int v2)]) dX7_collides_98 (by decide) rfl) (mpp 99 rfl ?_)
        refine mp_a (a_iload_n dX7_collides_99 rfl) (mpp 100 rfl ?_)
        refine mp_Tt (t := 122) (j_if_eq dX7_collides_100) (by decide) (by decide) ?_
        obtain ⟨z25, h26⟩ := ti_ex (v2 + 2 : Int32)
        have wz25 := ti_full z25
        refine mp_a (a_iinc (v := z25) (L' := [(2, .int z25), (3, .int 0), (0, .ref 301), (1, .int t1)]) dX7_collides_122 (by decide) rfl h26 rfl) (mpp 125 rfl ?_)
        try have e27 : z25.toInt = v2.toInt + 2 := ti_addz h26 rfl rfl (by omega) (by omega)
        refine mp_a (a_goto (t := 59) dX7_collides_125 (by decide)) ?_
        refine MEvP.less (L := [(0, .ref 301), (1, .int t1), (2, .int z25)]) rfl rfl ⟨rfl, rfl, rfl, trivial⟩ ?_
        have i28 : 0 ≤ z25.toInt := by omega
        exact ih _ (by omega) _ i28 rfl
      · have c24 : (fv Po 312 z14.toInt.toNat).toInt = (fv Po 312 z19.toInt.toNat).toInt := ti_ne_n c24
        refine mp_a (a_iconst (v := 1) dX7_collides_93 rfl) (mpp 94 rfl ?_)
        refine mp_a (a_goto (t := 98) dX7_collides_94 (by decide)) ?_
        refine mp_a (a_istore_n (L' := [(3, .int 1), (0, .ref 301), (1, .int t1), (2, .int v2)]) dX7_collides_98 (by decide) rfl) (mpp 99 rfl ?_)
        refine mp_a (a_iload_n dX7_collides_99 rfl) (mpp 100 rfl ?_)
        refine mp_Tf (t := 122) (j_if_eq dX7_collides_100) (by decide) (by decide) (mpp 103 rfl ?_)
        refine mp_a (a_aload_n dX7_collides_103 rfl) (mpp 104 rfl ?_)
        refine mp_a (a_iload_n dX7_collides_104 rfl) (mpp 105 rfl ?_)
        refine mp_a (a_iload_n dX7_collides_105 rfl) (mpp 106 rfl ?_)
        have p29 : 0 ≤ v2.toInt := by omega
        have p30 : v2.toInt ≤ 6 := by omega
        have p31 : 0 ≤ t1.toInt := by omega
        have p32 : t1.toInt ≤ 5 := by omega
        refine mt_callv (i := 261) (q' := q_205) (As := [.int v2, .int t1]) (rest := []) hT dX7_collides_106 rfl qm_205 (by decide) rfl rl_301 (by decide) rfl (Nat.le_of_ble_eq_true rfl) rfl ⟨rfl, rfl⟩ ⟨Nat.le_of_ble_eq_true rfl, Nat.le_of_ble_eq_true rfl⟩ (EvP.mono (by decide) (c_M_isBetween hT p29 p30 p31 p32 )) (fun r33 P34 g35 => mpp 109 rfl ?_)
        obtain ⟨⟨x36, rfl, g37⟩, e38⟩ := g35
        have e38 := e38.symm
        subst e38
        have wx36 := ti_full x36
        have g37 : 0 ≤ x36.toInt ∧ x36.toInt ≤ 1 := g37
        show MEvP _ none q_203 109 [(3, .int 1), (0, .ref 301), (1, .int t1), (2, .int v2)] [.int x36] _ _ _ _
        refine mp_a (a_aload_n dX7_collides_109 rfl) (mpp 110 rfl ?_)
        refine mp_a (a_iload_n dX7_collides_110 rfl) (mpp 111 rfl ?_)
        refine mp_a (a_iconst (v := 1) dX7_collides_111 rfl) (mpp 112 rfl ?_)
        obtain ⟨z39, h40⟩ := ti_ex (v2 + 1 : Int32)
        have wz39 := ti_full z39
        refine mp_t (s_iadd (v := z39) dX7_collides_112 h40) (mpp 113 rfl ?_)
        try have e41 : z39.toInt = v2.toInt + 1 := ti_addz h40 rfl rfl (by omega) (by omega)
        refine mp_a (a_iload_n dX7_collides_113 rfl) (mpp 114 rfl ?_)
        have p42 : 0 ≤ z39.toInt := by omega
        have p43 : z39.toInt ≤ 6 := by omega
        have p44 : 0 ≤ t1.toInt := by omega
        have p45 : t1.toInt ≤ 5 := by omega
        refine mt_callv (i := 261) (q' := q_205) (As := [.int z39, .int t1]) (rest := [.int x36]) hT dX7_collides_114 rfl qm_205 (by decide) rfl rl_301 (by decide) rfl (Nat.le_of_ble_eq_true rfl) rfl ⟨rfl, rfl⟩ ⟨Nat.le_of_ble_eq_true rfl, Nat.le_of_ble_eq_true rfl⟩ (EvP.mono (by decide) (c_M_isBetween hT p42 p43 p44 p45 )) (fun r46 P47 g48 => mpp 117 rfl ?_)
        obtain ⟨⟨x49, rfl, g50⟩, e51⟩ := g48
        have e51 := e51.symm
        subst e51
        have wx49 := ti_full x49
        have g50 : 0 ≤ x49.toInt ∧ x49.toInt ≤ 1 := g50
        show MEvP _ none q_203 117 [(3, .int 1), (0, .ref 301), (1, .int t1), (2, .int v2)] [.int x49, .int x36] _ _ _ _
        refine mp_Tb (t := 122) (j_icmp_eq dX7_collides_117) (by decide) (fun c52 => ?_) (fun c52 => mpp 120 rfl ?_)
        · have c52 : x36.toInt = x49.toInt := ti_eq c52
          obtain ⟨z53, h54⟩ := ti_ex (v2 + 2 : Int32)
          have wz53 := ti_full z53
          refine mp_a (a_iinc (v := z53) (L' := [(2, .int z53), (3, .int 1), (0, .ref 301), (1, .int t1)]) dX7_collides_122 (by decide) rfl h54 rfl) (mpp 125 rfl ?_)
          try have e55 : z53.toInt = v2.toInt + 2 := ti_addz h54 rfl rfl (by omega) (by omega)
          refine mp_a (a_goto (t := 59) dX7_collides_125 (by decide)) ?_
          refine MEvP.less (L := [(0, .ref 301), (1, .int t1), (2, .int z53)]) rfl rfl ⟨rfl, rfl, rfl, trivial⟩ ?_
          have i56 : 0 ≤ z53.toInt := by omega
          exact ih _ (by omega) _ i56 rfl
        · have c52 : x36.toInt ≠ x49.toInt := ti_eq_n c52
          refine mp_a (a_iconst (v := 1) dX7_collides_120 rfl) (mpp 121 rfl ?_)
          have u57 : 0 ≤ (1 : Int) ∧ (1 : Int) ≤ 1 := by omega
          exact mp_iret ⟨⟨_, rfl, u57⟩, rfl⟩ dX7_collides_121 (Or.inr ⟨rfl, by decide⟩)

set_option maxHeartbeats 4000000 in
theorem c_M_collides_l2 {Po : mP} {t1 : Int32} (hT : Typ Po)  (hp0 : 0 ≤ t1.toInt) (hp1 : t1.toInt + 2 ≤ (fv Po 301 20).toInt) (hp2 : (fv Po 301 20).toInt ≤ 7)  : ∀ (n : Nat) (v2 : Int32), (0 ≤ v2.toInt) → (2147483647 - v2.toInt).toNat = n → MEvP 2 none q_203 2 [(0, .ref 301), (1, .int t1), (2, .int v2)] [] Po 0 0 (fun r P' => (∃ x : Int32, r = some (.int x) ∧ (0 ≤ x.toInt ∧ x.toInt ≤ 1)) ∧ P' = Po) := by
  intro n
  induction n using Nat.strongRecOn with | _ n ih => ?_
  intro v2 i_0 hm
  have w_t1 := ti_full t1
  have w_v2 := ti_full v2
  have g1 : (0 : Int) ≤ (fv Po 301 20).toInt ∧ (fv Po 301 20).toInt ≤ 8 := Typ.rng hT rl_301 (by decide) (by decide) rfl
  refine mp_a (a_iload_n dX7_collides_2 rfl) (mpp 3 rfl ?_)
  refine mp_a (a_aload_n dX7_collides_3 rfl) (mpp 4 rfl ?_)
  refine mt_getI (i := 255) (k := 20) hT dX7_collides_4 rfl rl_301 (by decide) rfl (by decide) rfl (fun g2 g3 => mpp 7 rfl ?_)
  refine mp_Tb (t := 55) (j_icmp_ge dX7_collides_7) (by decide) (fun c4 => ?_) (fun c4 => mpp 10 rfl ?_)
  · have c4 : v2.toInt ≥ (fv Po 301 20).toInt := ti_ge c4
    refine mp_a (a_iload_n dX7_collides_55 rfl) (mpp 56 rfl ?_)
    refine mp_a (a_iconst (v := 2) dX7_collides_56 rfl) (mpp 57 rfl ?_)
    obtain ⟨z5, h6⟩ := ti_ex (t1 - t1 / 2 * 2 : Int32)
    have wz5 := ti_full z5
    try have e7 : 0 ≤ z5.toInt ∧ z5.toInt < 2 := ti_rem h6 (show (0 : Int) ≤ t1.toInt by omega) (show (0 : Int) < 2 by omega)
    refine mp_t (s_irem (v := z5) dX7_collides_57 (by decide) h6) (mpp 58 rfl ?_)
    refine mp_a (a_istore_n (L' := [(2, .int z5), (0, .ref 301), (1, .int t1)]) dX7_collides_58 (by decide) rfl) (mpp 59 rfl ?_)
    refine MEvP.less (L := [(0, .ref 301), (1, .int t1), (2, .int z5)]) rfl rfl ⟨rfl, rfl, rfl, trivial⟩ ?_
    have i8 : 0 ≤ z5.toInt := by omega
    exact c_M_collides_l59 hT  hp0 hp1 hp2 _ _ i8 rfl
  · have c4 : v2.toInt < (fv Po 301 20).toInt := ti_ge_n c4
    refine mp_a (a_iload_n dX7_collides_10 rfl) (mpp 11 rfl ?_)
    refine mp_a (a_iload_n dX7_collides_11 rfl) (mpp 12 rfl ?_)
    refine mp_Tb (t := 49) (j_icmp_eq dX7_collides_12) (by decide) (fun c9 => ?_) (fun c9 => mpp 15 rfl ?_)
    · have c9 : v2.toInt = t1.toInt := ti_eq c9
      obtain ⟨z10, h11⟩ := ti_ex (v2 + 1 : Int32)
      have wz10 := ti_full z10
      refine mp_a (a_iinc (v := z10) (L' := [(2, .int z10), (0, .ref 301), (1, .int t1)]) dX7_collides_49 (by decide) rfl h11 rfl) (mpp 52 rfl ?_)
      try have e12 : z10.toInt = v2.toInt + 1 := ti_addz h11 rfl rfl (by omega) (by omega)
      refine mp_a (a_goto (t := 2) dX7_collides_52 (by decide)) ?_
      refine MEvP.less (L := [(0, .ref 301), (1, .int t1), (2, .int z10)]) rfl rfl ⟨rfl, rfl, rfl, trivial⟩ ?_
      have i13 : 0 ≤ z10.toInt := by omega
      exact ih _ (by omega) _ i13 rfl
    · have c9 : v2.toInt ≠ t1.toInt := ti_eq_n c9
      refine mp_a (a_iload_n dX7_collides_15 rfl) (mpp 16 rfl ?_)
      refine mp_a (a_iload_n dX7_collides_16 rfl) (mpp 17 rfl ?_)
      refine mp_a (a_iconst (v := 1) dX7_collides_17 rfl) (mpp 18 rfl ?_)
      obtain ⟨z14, h15⟩ := ti_ex (t1 + 1 : Int32)
      have wz14 := ti_full z14
      refine mp_t (s_iadd (v := z14) dX7_collides_18 h15) (mpp 19 rfl ?_)
      try have e16 : z14.toInt = t1.toInt + 1 := ti_addz h15 rfl rfl (by omega) (by omega)
      refine mp_Tb (t := 49) (j_icmp_eq dX7_collides_19) (by decide) (fun c17 => ?_) (fun c17 => mpp 22 rfl ?_)
      · have c17 : v2.toInt = z14.toInt := ti_eq c17
        obtain ⟨z18, h19⟩ := ti_ex (v2 + 1 : Int32)
        have wz18 := ti_full z18
        refine mp_a (a_iinc (v := z18) (L' := [(2, .int z18), (0, .ref 301), (1, .int t1)]) dX7_collides_49 (by decide) rfl h19 rfl) (mpp 52 rfl ?_)
        try have e20 : z18.toInt = v2.toInt + 1 := ti_addz h19 rfl rfl (by omega) (by omega)
        refine mp_a (a_goto (t := 2) dX7_collides_52 (by decide)) ?_
        refine MEvP.less (L := [(0, .ref 301), (1, .int t1), (2, .int z18)]) rfl rfl ⟨rfl, rfl, rfl, trivial⟩ ?_
        have i21 : 0 ≤ z18.toInt := by omega
        exact ih _ (by omega) _ i21 rfl
      · have c17 : v2.toInt ≠ z14.toInt := ti_eq_n c17
        refine mp_a (a_aload_n dX7_collides_22 rfl) (mpp 23 rfl ?_)
        refine mp_a (a_iload_n dX7_collides_23 rfl) (mpp 24 rfl ?_)
        refine mp_a (a_aload_n dX7_collides_24 rfl) (mpp 25 rfl ?_)
        refine mt_getU (i := 40) (k := 17) (A := 312) hT dX7_collides_25 rfl rl_301 (by decide) rfl (by decide) rfl un_28 (mpp 28 rfl ?_)
        refine mp_a (a_iload_n dX7_collides_28 rfl) (mpp 29 rfl ?_)
        refine mp_a (a_iconst (v := 1) dX7_collides_29 rfl) (mpp 30 rfl ?_)
        obtain ⟨z22, h23⟩ := ti_ex (t1 + 1 : Int32)
        have wz22 := ti_full z22
        refine mp_t (s_iadd (v := z22) dX7_collides_30 h23) (mpp 31 rfl ?_)
        try have e24 : z22.toInt = t1.toInt + 1 := ti_addz h23 rfl rfl (by omega) (by omega)
        refine mt_ial (n := 8) hT dX7_collides_31 rl_312 (by decide) rfl rfl (by omega) (by omega) rfl (fun g25 g26 => mpp 32 rfl ?_)
        have p27 : 0 ≤ v2.toInt := by omega
        have p28 : v2.toInt ≤ 6 := by omega
        refine mt_callv (i := 258) (q' := q_204) (As := [.int v2, .int (fv Po 312 z22.toInt.toNat)]) (rest := []) hT dX7_collides_32 rfl qm_204 (by decide) rfl rl_301 (by decide) rfl (Nat.le_of_ble_eq_true rfl) rfl ⟨rfl, rfl⟩ ⟨Nat.le_of_ble_eq_true rfl, Nat.le_of_ble_eq_true rfl⟩ (EvP.mono (by decide) (c_M_reachesOver hT p27 p28 )) (fun r29 P30 g31 => mpp 35 rfl ?_)
        obtain ⟨⟨x32, rfl, g33⟩, e34⟩ := g31
        have e34 := e34.symm
        subst e34
        have wx32 := ti_full x32
        have g33 : 0 ≤ x32.toInt ∧ x32.toInt ≤ 1 := g33
        show MEvP _ none q_203 35 [(0, .ref 301), (1, .int t1), (2, .int v2)] [.int x32] _ _ _ _
        refine mp_Tb (t := 49) (j_if_eq dX7_collides_35) (by decide) (fun c35 => ?_) (fun c35 => mpp 38 rfl ?_)
        · have c35 : x32.toInt = 0 := ti_eq c35
          obtain ⟨z36, h37⟩ := ti_ex (v2 + 1 : Int32)
          have wz36 := ti_full z36
          refine mp_a (a_iinc (v := z36) (L' := [(2, .int z36), (0, .ref 301), (1, .int t1)]) dX7_collides_49 (by decide) rfl h37 rfl) (mpp 52 rfl ?_)
          try have e38 : z36.toInt = v2.toInt + 1 := ti_addz h37 rfl rfl (by omega) (by omega)
          refine mp_a (a_goto (t := 2) dX7_collides_52 (by decide)) ?_
          refine MEvP.less (L := [(0, .ref 301), (1, .int t1), (2, .int z36)]) rfl rfl ⟨rfl, rfl, rfl, trivial⟩ ?_
          have i39 : 0 ≤ z36.toInt := by omega
          exact ih _ (by omega) _ i39 rfl
        · have c35 : x32.toInt ≠ 0 := ti_eq_n c35
          refine mp_a (a_aload_n dX7_collides_38 rfl) (mpp 39 rfl ?_)
          refine mp_a (a_iload_n dX7_collides_39 rfl) (mpp 40 rfl ?_)
          refine mp_a (a_iload_n dX7_collides_40 rfl) (mpp 41 rfl ?_)
          have p40 : 0 ≤ v2.toInt := by omega
          have p41 : v2.toInt ≤ 6 := by omega
          have p42 : 0 ≤ t1.toInt := by omega
          have p43 : t1.toInt ≤ 5 := by omega
          refine mt_callv (i := 261) (q' := q_205) (As := [.int v2, .int t1]) (rest := []) hT dX7_collides_41 rfl qm_205 (by decide) rfl rl_301 (by decide) rfl (Nat.le_of_ble_eq_true rfl) rfl ⟨rfl, rfl⟩ ⟨Nat.le_of_ble_eq_true rfl, Nat.le_of_ble_eq_true rfl⟩ (EvP.mono (by decide) (c_M_isBetween hT p40 p41 p42 p43 )) (fun r44 P45 g46 => mpp 44 rfl ?_)
          obtain ⟨⟨x47, rfl, g48⟩, e49⟩ := g46
          have e49 := e49.symm
          subst e49
          have wx47 := ti_full x47
          have g48 : 0 ≤ x47.toInt ∧ x47.toInt ≤ 1 := g48
          show MEvP _ none q_203 44 [(0, .ref 301), (1, .int t1), (2, .int v2)] [.int x47] _ _ _ _
          refine mp_Tb (t := 49) (j_if_eq dX7_collides_44) (by decide) (fun c50 => ?_) (fun c50 => mpp 47 rfl ?_)
          · have c50 : x47.toInt = 0 := ti_eq c50
            obtain ⟨z51, h52⟩ := ti_ex (v2 + 1 : Int32)
            have wz51 := ti_full z51
            refine mp_a (a_iinc (v := z51) (L' := [(2, .int z51), (0, .ref 301), (1, .int t1)]) dX7_collides_49 (by decide) rfl h52 rfl) (mpp 52 rfl ?_)
            try have e53 : z51.toInt = v2.toInt + 1 := ti_addz h52 rfl rfl (by omega) (by omega)
            refine mp_a (a_goto (t := 2) dX7_collides_52 (by decide)) ?_
            refine MEvP.less (L := [(0, .ref 301), (1, .int t1), (2, .int z51)]) rfl rfl ⟨rfl, rfl, rfl, trivial⟩ ?_
            have i54 : 0 ≤ z51.toInt := by omega
            exact ih _ (by omega) _ i54 rfl
          · have c50 : x47.toInt ≠ 0 := ti_eq_n c50
            refine mp_a (a_iconst (v := 1) dX7_collides_47 rfl) (mpp 48 rfl ?_)
            have u55 : 0 ≤ (1 : Int) ∧ (1 : Int) ≤ 1 := by omega
            exact mp_iret ⟨⟨_, rfl, u55⟩, rfl⟩ dX7_collides_48 (Or.inr ⟨rfl, by decide⟩)

set_option maxHeartbeats 4000000 in
theorem c_M_collides {Po : mP} {t1 : Int32} (hT : Typ Po)  (hp0 : 0 ≤ t1.toInt) (hp1 : t1.toInt + 2 ≤ (fv Po 301 20).toInt) (hp2 : (fv Po 301 20).toInt ≤ 7)  : EvP 3 203 [.ref 301, .int t1] Po (fun r P' => (∃ x : Int32, r = some (.int x) ∧ (0 ≤ x.toInt ∧ x.toInt ≤ 1)) ∧ P' = Po) := by
  refine EvP.of qm_203 (Nat.le_of_ble_eq_true rfl) rfl ?_
  show MEvP _ none q_203 0 [(0, .ref 301), (1, .int t1)] [] _ 0 0 _
  have g1 : (0 : Int) ≤ (fv Po 301 20).toInt ∧ (fv Po 301 20).toInt ≤ 8 := Typ.rng hT rl_301 (by decide) (by decide) rfl
  refine mp_a (a_iconst (v := 0) dX7_collides_0 rfl) (mpp 1 rfl ?_)
  refine mp_a (a_istore_n (L' := [(2, .int 0), (0, .ref 301), (1, .int t1)]) dX7_collides_1 (by decide) rfl) (mpp 2 rfl ?_)
  refine MEvP.less (L := [(0, .ref 301), (1, .int t1), (2, .int 0)]) rfl rfl ⟨rfl, rfl, rfl, trivial⟩ ?_
  have i2 : 0 ≤ (0 : Int) := by omega
  exact c_M_collides_l2 hT  hp0 hp1 hp2 _ _ i2 rfl

set_option maxHeartbeats 4000000 in
theorem c_M_isPossible_l2 {Po : mP}  (hT : Typ Po)  (hp0 : (fv Po 301 20).toInt ≤ 7)  : ∀ (n : Nat) (v1 : Int32), (0 ≤ v1.toInt) → (2147483647 - v1.toInt).toNat = n → MEvP 3 none q_202 2 [(0, .ref 301), (1, .int v1)] [] Po 0 0 (fun r P' => (∃ x : Int32, r = some (.int x) ∧ (0 ≤ x.toInt ∧ x.toInt ≤ 1)) ∧ P' = Po) := by
  intro n
  induction n using Nat.strongRecOn with | _ n ih => ?_
  intro v1 i_0 hm
  have w_v1 := ti_full v1
  have g1 : (0 : Int) ≤ (fv Po 301 20).toInt ∧ (fv Po 301 20).toInt ≤ 8 := Typ.rng hT rl_301 (by decide) (by decide) rfl
  refine mp_a (a_iload_n dX7_isPossible_2 rfl) (mpp 3 rfl ?_)
  refine mp_a (a_aload_n dX7_isPossible_3 rfl) (mpp 4 rfl ?_)
  refine mt_getI (i := 255) (k := 20) hT dX7_isPossible_4 rfl rl_301 (by decide) rfl (by decide) rfl (fun g2 g3 => mpp 7 rfl ?_)
  refine mp_a (a_iconst (v := 1) dX7_isPossible_7 rfl) (mpp 8 rfl ?_)
  obtain ⟨z4, h5⟩ := ti_ex ((fv Po 301 20) - 1 : Int32)
  have wz4 := ti_full z4
  refine mp_t (s_isub (v := z4) dX7_isPossible_8 h5) (mpp 9 rfl ?_)
  try have e6 : z4.toInt = (fv Po 301 20).toInt - 1 := ti_subz h5 rfl rfl (by omega) (by omega)
  refine mp_Tb (t := 28) (j_icmp_ge dX7_isPossible_9) (by decide) (fun c7 => ?_) (fun c7 => mpp 12 rfl ?_)
  · have c7 : v1.toInt ≥ z4.toInt := ti_ge c7
    refine mp_a (a_iconst (v := 1) dX7_isPossible_28 rfl) (mpp 29 rfl ?_)
    have u8 : 0 ≤ (1 : Int) ∧ (1 : Int) ≤ 1 := by omega
    exact mp_iret ⟨⟨_, rfl, u8⟩, rfl⟩ dX7_isPossible_29 (Or.inr ⟨rfl, by decide⟩)
  · have c7 : v1.toInt < z4.toInt := ti_ge_n c7
    refine mp_a (a_aload_n dX7_isPossible_12 rfl) (mpp 13 rfl ?_)
    refine mp_a (a_iload_n dX7_isPossible_13 rfl) (mpp 14 rfl ?_)
    have p9 : 0 ≤ v1.toInt := by omega
    have p10 : v1.toInt + 2 ≤ (fv Po 301 20).toInt := by omega
    have p11 : (fv Po 301 20).toInt ≤ 7 := by omega
    refine mt_callv (i := 264) (q' := q_203) (As := [.int v1]) (rest := []) hT dX7_isPossible_14 rfl qm_203 (by decide) rfl rl_301 (by decide) rfl (Nat.le_of_ble_eq_true rfl) rfl ⟨rfl, rfl⟩ ⟨Nat.le_of_ble_eq_true rfl, Nat.le_of_ble_eq_true rfl⟩ (EvP.mono (by decide) (c_M_collides hT p9 p10 p11 )) (fun r12 P13 g14 => mpp 17 rfl ?_)
    obtain ⟨⟨x15, rfl, g16⟩, e17⟩ := g14
    have e17 := e17.symm
    subst e17
    have wx15 := ti_full x15
    have g16 : 0 ≤ x15.toInt ∧ x15.toInt ≤ 1 := g16
    show MEvP _ none q_202 17 [(0, .ref 301), (1, .int v1)] [.int x15] _ _ _ _
    refine mp_Tb (t := 22) (j_if_eq dX7_isPossible_17) (by decide) (fun c18 => ?_) (fun c18 => mpp 20 rfl ?_)
    · have c18 : x15.toInt = 0 := ti_eq c18
      obtain ⟨z19, h20⟩ := ti_ex (v1 + 1 : Int32)
      have wz19 := ti_full z19
      refine mp_a (a_iinc (v := z19) (L' := [(1, .int z19), (0, .ref 301)]) dX7_isPossible_22 (by decide) rfl h20 rfl) (mpp 25 rfl ?_)
      try have e21 : z19.toInt = v1.toInt + 1 := ti_addz h20 rfl rfl (by omega) (by omega)
      refine mp_a (a_goto (t := 2) dX7_isPossible_25 (by decide)) ?_
      refine MEvP.less (L := [(0, .ref 301), (1, .int z19)]) rfl rfl ⟨rfl, rfl, trivial⟩ ?_
      have i22 : 0 ≤ z19.toInt := by omega
      exact ih _ (by omega) _ i22 rfl
    · have c18 : x15.toInt ≠ 0 := ti_eq_n c18
      refine mp_a (a_iconst (v := 0) dX7_isPossible_20 rfl) (mpp 21 rfl ?_)
      have u23 : 0 ≤ (0 : Int) ∧ (0 : Int) ≤ 1 := by omega
      exact mp_iret ⟨⟨_, rfl, u23⟩, rfl⟩ dX7_isPossible_21 (Or.inr ⟨rfl, by decide⟩)

set_option maxHeartbeats 4000000 in
theorem c_M_isPossible {Po : mP}  (hT : Typ Po)  (hp0 : (fv Po 301 20).toInt ≤ 7)  : EvP 4 202 [.ref 301] Po (fun r P' => (∃ x : Int32, r = some (.int x) ∧ (0 ≤ x.toInt ∧ x.toInt ≤ 1)) ∧ P' = Po) := by
  refine EvP.of qm_202 (Nat.le_of_ble_eq_true rfl) rfl ?_
  show MEvP _ none q_202 0 [(0, .ref 301)] [] _ 0 0 _
  have g1 : (0 : Int) ≤ (fv Po 301 20).toInt ∧ (fv Po 301 20).toInt ≤ 8 := Typ.rng hT rl_301 (by decide) (by decide) rfl
  refine mp_a (a_iconst (v := 0) dX7_isPossible_0 rfl) (mpp 1 rfl ?_)
  refine mp_a (a_istore_n (L' := [(1, .int 0), (0, .ref 301)]) dX7_isPossible_1 (by decide) rfl) (mpp 2 rfl ?_)
  refine MEvP.less (L := [(0, .ref 301), (1, .int 0)]) rfl rfl ⟨rfl, rfl, trivial⟩ ?_
  have i2 : 0 ≤ (0 : Int) := by omega
  exact c_M_isPossible_l2 hT  hp0 _ _ i2 rfl

set_option maxHeartbeats 4000000 in
theorem c_M_gives_r0_l17 {Po : mP} {t1 : Int32} (hp0 : 0 ≤ t1.toInt) (hp1 : (fv Po 301 20).toInt = t1.toInt + 0) (hp2 : (fv Po 301 20).toInt ≤ 7)  : ∀ (n : Nat) (v2 : Int32), ∀ (P : mP), Typ P → KW [1109, 1728] Po P → (0 ≤ v2.toInt) → (2147483647 - v2.toInt).toNat = n → MEvP 4 none q_201 17 [(0, .ref 301), (1, .int t1), (2, .int v2)] [] P 0 0 (fun r P' => (r = none ∧ (True)) ∧ Typ P' ∧ KW [1109, 1728] Po P' ∧ True) := by
  intro n
  induction n using Nat.strongRecOn with | _ n ih => ?_
  intro v2 P hT hK i_0 hm
  have w_t1 := ti_full t1
  have w_v2 := ti_full v2
  refine mp_a (a_iload_n dX7_gives_17 rfl) (mpp 18 rfl ?_)
  refine mp_a (a_aload_n dX7_gives_18 rfl) (mpp 19 rfl ?_)
  have e1 : (fv P 301 20).toInt = (fv Po 301 20).toInt := congrArg Int32.toInt (KW.at hK 20 rl_301 rfl)
  refine mt_getI (i := 255) (k := 20) hT dX7_gives_19 rfl rl_301 (by decide) rfl (by decide) rfl (fun g2 g3 => mpp 22 rfl ?_)
  refine mp_Tb (t := 50) (j_icmp_ge dX7_gives_22) (by decide) (fun c4 => ?_) (fun c4 => mpp 25 rfl ?_)
  · have c4 : v2.toInt ≥ (fv P 301 20).toInt := ti_ge c4
    refine mp_a (a_aload_n dX7_gives_50 rfl) (mpp 51 rfl ?_)
    refine mp_t (s_dup dX7_gives_51 rfl) (mpp 52 rfl ?_)
    have g5 := ti_full (fv P 301 21)
    refine mt_getI (i := 270) (k := 21) hT dX7_gives_52 rfl rl_301 (by decide) rfl (by decide) rfl (fun g6 g7 => mpp 55 rfl ?_)
    refine mp_a (a_iconst (v := 1) dX7_gives_55 rfl) (mpp 56 rfl ?_)
    obtain ⟨z8, h9⟩ := ti_ex ((fv P 301 21) + 1 : Int32)
    have wz8 := ti_full z8
    refine mp_t (s_iadd (v := z8) dX7_gives_56 h9) (mpp 57 rfl ?_)
    try have e10 : z8.toInt = (fv P 301 21).toInt + 1 := ti_addz h9 rfl rfl (by omega) (by omega)
    refine mt_putI (i := 270) (k := 21) (x := z8) hT dX7_gives_57 rfl rl_301 (by decide) rfl (by decide) rfl (ti_full z8) rfl rfl (fun P11 hT12 f13 f14 f15 => mpp 60 rfl ?_)
    have k16 : KW [1109, 1728] Po P11 := KW.step hK rl_301 rfl f14 f15
    have e17 : (fv P11 301 21).toInt = z8.toInt := congrArg Int32.toInt f13
    exact mp_ret ⟨⟨rfl, trivial⟩, hT12, k16, trivial⟩ dX7_gives_60 rfl
  · have c4 : v2.toInt < (fv P 301 20).toInt := ti_ge_n c4
    refine mp_a (a_aload_n dX7_gives_25 rfl) (mpp 26 rfl ?_)
    have g18 := ti_full (fv P 301 21)
    refine mt_getI (i := 270) (k := 21) hT dX7_gives_26 rfl rl_301 (by decide) rfl (by decide) rfl (fun g19 g20 => mpp 29 rfl ?_)
    refine mp_Tb (t := 50) (j_if_ne dX7_gives_29) (by decide) (fun c21 => ?_) (fun c21 => mpp 32 rfl ?_)
    · have c21 : (fv P 301 21).toInt ≠ 0 := ti_ne c21
      refine mp_a (a_aload_n dX7_gives_50 rfl) (mpp 51 rfl ?_)
      refine mp_t (s_dup dX7_gives_51 rfl) (mpp 52 rfl ?_)
      refine mt_getI (i := 270) (k := 21) hT dX7_gives_52 rfl rl_301 (by decide) rfl (by decide) rfl (fun g22 g23 => mpp 55 rfl ?_)
      refine mp_a (a_iconst (v := 1) dX7_gives_55 rfl) (mpp 56 rfl ?_)
      obtain ⟨z24, h25⟩ := ti_ex ((fv P 301 21) + 1 : Int32)
      have wz24 := ti_full z24
      refine mp_t (s_iadd (v := z24) dX7_gives_56 h25) (mpp 57 rfl ?_)
      try have e26 : z24.toInt = (fv P 301 21).toInt + 1 := ti_addz h25 rfl rfl (by omega) (by omega)
      refine mt_putI (i := 270) (k := 21) (x := z24) hT dX7_gives_57 rfl rl_301 (by decide) rfl (by decide) rfl (ti_full z24) rfl rfl (fun P27 hT28 f29 f30 f31 => mpp 60 rfl ?_)
      have k32 : KW [1109, 1728] Po P27 := KW.step hK rl_301 rfl f30 f31
      have e33 : (fv P27 301 21).toInt = z24.toInt := congrArg Int32.toInt f29
      exact mp_ret ⟨⟨rfl, trivial⟩, hT28, k32, trivial⟩ dX7_gives_60 rfl
    · have c21 : (fv P 301 21).toInt = 0 := ti_ne_n c21
      refine mp_a (a_aload_n dX7_gives_32 rfl) (mpp 33 rfl ?_)
      refine mt_getU (i := 37) (k := 16) (A := 311) hT dX7_gives_33 rfl rl_301 (by decide) rfl (by decide) rfl un_27 (mpp 36 rfl ?_)
      refine mp_a (a_iload_n dX7_gives_36 rfl) (mpp 37 rfl ?_)
      refine mp_a (a_aload_n dX7_gives_37 rfl) (mpp 38 rfl ?_)
      refine mt_getU (i := 34) (k := 15) (A := 310) hT dX7_gives_38 rfl rl_301 (by decide) rfl (by decide) rfl un_26 (mpp 41 rfl ?_)
      refine mp_a (a_iload_n dX7_gives_41 rfl) (mpp 42 rfl ?_)
      refine mt_ial (n := 7) hT dX7_gives_42 rl_310 (by decide) rfl rfl (by omega) (by omega) rfl (fun g34 g35 => mpp 43 rfl ?_)
      refine mt_ias (n := 7) hT dX7_gives_43 rl_311 (by decide) rfl rfl (by omega) (by omega) rfl (ti_full (fv P 310 v2.toInt.toNat)) (fun P36 hT37 f38 f39 f40 => mpp 44 rfl ?_)
      have k41 : KW [1109, 1728] Po P36 := KW.step hK rl_311 rfl f39 f40
      obtain ⟨z42, h43⟩ := ti_ex (v2 + 1 : Int32)
      have wz42 := ti_full z42
      refine mp_a (a_iinc (v := z42) (L' := [(2, .int z42), (0, .ref 301), (1, .int t1)]) dX7_gives_44 (by decide) rfl h43 rfl) (mpp 47 rfl ?_)
      try have e44 : z42.toInt = v2.toInt + 1 := ti_addz h43 rfl rfl (by omega) (by omega)
      refine mp_a (a_goto (t := 17) dX7_gives_47 (by decide)) ?_
      refine MEvP.less (L := [(0, .ref 301), (1, .int t1), (2, .int z42)]) rfl rfl ⟨rfl, rfl, rfl, trivial⟩ ?_
      have i45 : 0 ≤ z42.toInt := by omega
      exact ih _ (by omega) _ P36 hT37 k41 i45 rfl

set_option maxHeartbeats 4000000 in
theorem c_M_gives_r0 {Po : mP} {t1 : Int32} (hT : Typ Po)  (hp0 : 0 ≤ t1.toInt) (hp1 : (fv Po 301 20).toInt = t1.toInt + 0) (hp2 : (fv Po 301 20).toInt ≤ 7)  : EvP 5 201 [.ref 301, .int t1] Po (fun r P' => (r = none ∧ (True)) ∧ Typ P' ∧ KW [1109, 1728] Po P' ∧ True) := by
  refine EvP.of qm_201 (Nat.le_of_ble_eq_true rfl) rfl ?_
  show MEvP _ none q_201 0 [(0, .ref 301), (1, .int t1)] [] _ 0 0 _
  have g1 : (0 : Int) ≤ (fv Po 301 20).toInt ∧ (fv Po 301 20).toInt ≤ 8 := Typ.rng hT rl_301 (by decide) (by decide) rfl
  refine mp_a (a_iload_n dX7_gives_0 rfl) (mpp 1 rfl ?_)
  refine mp_a (a_aload_n dX7_gives_1 rfl) (mpp 2 rfl ?_)
  refine mt_getI (i := 255) (k := 20) hT dX7_gives_2 rfl rl_301 (by decide) rfl (by decide) rfl (fun g2 g3 => mpp 5 rfl ?_)
  refine mp_Tb (t := 61) (j_icmp_ne dX7_gives_5) (by decide) (fun c4 => ?_) (fun c4 => mpp 8 rfl ?_)
  · have c4 : t1.toInt ≠ (fv Po 301 20).toInt := ti_ne c4
    exfalso
    omega
  · have c4 : t1.toInt = (fv Po 301 20).toInt := ti_ne_n c4
    refine mp_a (a_aload_n dX7_gives_8 rfl) (mpp 9 rfl ?_)
    have p5 : (fv Po 301 20).toInt ≤ 7 := by omega
    refine mt_callv (i := 267) (q' := q_202) (As := []) (rest := []) hT dX7_gives_9 rfl qm_202 (by decide) rfl rl_301 (by decide) rfl (Nat.le_of_ble_eq_true rfl) rfl ⟨rfl, rfl⟩ ⟨Nat.le_of_ble_eq_true rfl, Nat.le_of_ble_eq_true rfl⟩ (EvP.mono (by decide) (c_M_isPossible hT p5 )) (fun r6 P7 g8 => mpp 12 rfl ?_)
    obtain ⟨⟨x9, rfl, g10⟩, e11⟩ := g8
    have e11 := e11.symm
    subst e11
    have wx9 := ti_full x9
    have g10 : 0 ≤ x9.toInt ∧ x9.toInt ≤ 1 := g10
    show MEvP _ none q_201 12 [(0, .ref 301), (1, .int t1)] [.int x9] _ _ _ _
    refine mp_Tb (t := 60) (j_if_eq dX7_gives_12) (by decide) (fun c12 => ?_) (fun c12 => mpp 15 rfl ?_)
    · have c12 : x9.toInt = 0 := ti_eq c12
      exact mp_ret ⟨⟨rfl, trivial⟩, hT, KW.refl, trivial⟩ dX7_gives_60 rfl
    · have c12 : x9.toInt ≠ 0 := ti_eq_n c12
      refine mp_a (a_iconst (v := 0) dX7_gives_15 rfl) (mpp 16 rfl ?_)
      refine mp_a (a_istore_n (L' := [(2, .int 0), (0, .ref 301), (1, .int t1)]) dX7_gives_16 (by decide) rfl) (mpp 17 rfl ?_)
      refine MEvP.less (L := [(0, .ref 301), (1, .int t1), (2, .int 0)]) rfl rfl ⟨rfl, rfl, rfl, trivial⟩ ?_
      have i13 : 0 ≤ (0 : Int) := by omega
      exact c_M_gives_r0_l17   hp0 hp1 hp2 _ _ Po hT KW.refl i13 rfl

