/-! methods on typed pools, 19 (written by a program) -/
set_option maxHeartbeats 4000000 in
theorem c_CS_copyFrom_NState_State {Po : mP} {a1_ : Nat} (hT : Typ Po) (hX : XR Po)  (hJ : Inj Po) (ha1 : rl a1_ = 1) : EvP 3 17 [.ref 1, .ref a1_] Po (fun r P' => (r = none ∧ (True)) ∧ Typ P' ∧ KW [256, 320, 1985, 1986, 1987, 2112, 2113, 2114] Po P' ∧ Inj P' ∧ fv P' 1 1 = fv Po a1_ 1 ∧ fv P' 1 2 = fv Po a1_ 2 ∧ fv P' 1 3 = fv Po a1_ 3 ∧ (∀ k : Nat, k < 8 → (k : Int) < (fv Po a1_ 1).toInt → PE P' (rv P' 2 k) Po (a1_ + 2 + 3 * k)) ∧ KI 1 (1 + 26) Po P') := by
  refine EvP.of qm_17 (Nat.le_of_ble_eq_true rfl) rfl ?_
  show MEvP _ none q_17 0 [(0, .ref 1), (1, .ref a1_)] [] _ 0 0 _
  have w1 := st_ar ha1
  have g2 : (0 : Int) ≤ (fv Po a1_ 1).toInt ∧ (fv Po a1_ 1).toInt ≤ 8 := Typ.rng hT ha1 (by decide) (by decide) rfl
  refine mp_a (a_aload_n dX5_copyFrom_0 rfl) (mpp 1 rfl ?_)
  refine mp_a (a_aload_n dX5_copyFrom_1 rfl) (mpp 2 rfl ?_)
  refine mt_getI (i := 22) (k := 1) hT dX5_copyFrom_2 rfl ha1 (by decide) rfl (by decide) rfl (fun g3 g4 => mpp 5 rfl ?_)
  refine mt_putI (i := 22) (k := 1) (x := (fv Po a1_ 1)) hT dX5_copyFrom_5 rfl rl_1 (by decide) rfl (by decide) rfl ⟨by omega, by omega⟩ rfl rfl (fun P5 hT6 f7 f8 f9 => mpp 8 rfl ?_)
  have k10 : KW [256, 320, 1985, 1986, 1987, 2112, 2113, 2114] Po P5 := KW.step KW.refl rl_1 rfl f8 f9
  have J11 := Inj.st hJ f9
  have e12 : (fv P5 1 1).toInt = (fv Po a1_ 1).toInt := congrArg Int32.toInt f7
  refine mp_a (a_aload_n dX5_copyFrom_8 rfl) (mpp 9 rfl ?_)
  refine mp_a (a_aload_n dX5_copyFrom_9 rfl) (mpp 10 rfl ?_)
  have g13 := ti_full (fv P5 a1_ 2)
  refine mt_getI (i := 17) (k := 2) hT6 dX5_copyFrom_10 rfl ha1 (by decide) rfl (by decide) rfl (fun g14 g15 => mpp 13 rfl ?_)
  refine mt_putI (i := 17) (k := 2) (x := (fv P5 a1_ 2)) hT6 dX5_copyFrom_13 rfl rl_1 (by decide) rfl (by decide) rfl (ti_full (fv P5 a1_ 2)) rfl rfl (fun P16 hT17 f18 f19 f20 => mpp 16 rfl ?_)
  have k21 : KW [256, 320, 1985, 1986, 1987, 2112, 2113, 2114] Po P16 := KW.step k10 rl_1 rfl f19 f20
  have J22 := Inj.st J11 f20
  have e23 : (fv P16 1 2).toInt = (fv P5 a1_ 2).toInt := congrArg Int32.toInt f18
  refine mp_a (a_aload_n dX5_copyFrom_16 rfl) (mpp 17 rfl ?_)
  refine mp_a (a_aload_n dX5_copyFrom_17 rfl) (mpp 18 rfl ?_)
  have g24 := ti_full (fv P16 a1_ 3)
  refine mt_getI (i := 25) (k := 3) hT17 dX5_copyFrom_18 rfl ha1 (by decide) rfl (by decide) rfl (fun g25 g26 => mpp 21 rfl ?_)
  refine mt_putI (i := 25) (k := 3) (x := (fv P16 a1_ 3)) hT17 dX5_copyFrom_21 rfl rl_1 (by decide) rfl (by decide) rfl (ti_full (fv P16 a1_ 3)) rfl rfl (fun P27 hT28 f29 f30 f31 => mpp 24 rfl ?_)
  have k32 : KW [256, 320, 1985, 1986, 1987, 2112, 2113, 2114] Po P27 := KW.step k21 rl_1 rfl f30 f31
  have J33 := Inj.st J22 f31
  have e34 : (fv P27 1 3).toInt = (fv P16 a1_ 3).toInt := congrArg Int32.toInt f29
  refine mp_a (a_iconst (v := 0) dX5_copyFrom_24 rfl) (mpp 25 rfl ?_)
  refine mp_a (a_istore_n (L' := [(2, .int 0), (0, .ref 1), (1, .ref a1_)]) dX5_copyFrom_25 (by decide) rfl) (mpp 26 rfl ?_)
  refine MEvP.less (L := [(0, .ref 1), (1, .ref a1_), (2, .int 0)]) rfl rfl ⟨rfl, rfl, rfl, trivial⟩ ?_
  have i35 : (fv P27 1 1 = fv Po a1_ 1 ∧ fv P27 1 2 = fv Po a1_ 2 ∧ fv P27 1 3 = fv Po a1_ 3) := ⟨by rw [f30 1 1 (by omega), f19 1 1 (by omega), f7], by rw [f30 1 2 (by omega), f18, f8 a1_ 2 (by omega)], by rw [f29, f19 a1_ 3 (by omega), f8 a1_ 3 (by omega)]⟩
  have i36 : ∀ k : Nat, k < 8 → (k : Int) < (0 : Int) → PE P27 (rv Po 2 k) Po (a1_ + 2 + 3 * k) := fun k hk h => absurd h (by omega)
  have i37 : KI 1 (1 + 26) Po P27 := by intro x j hx; rw [f30 x j (by omega), f19 x j (by omega), f8 x j (by omega)]
  have e38 : (fv P27 1 1).toInt = (fv P5 1 1).toInt := congrArg Int32.toInt ((f30 1 1 (ne_k rfl)).trans (f19 1 1 (ne_k rfl)))
  have i39 : (fv P27 1 1).toInt = (fv Po a1_ 1).toInt := by omega
  have i40 : 0 ≤ (0 : Int) := by omega
  have i41 : 0 ≤ (0 : Int) := by omega
  exact c_CS_copyFrom_NState_State_l26 hT hX hJ ha1 _ _ P27 hT28 k32 J33 i35 i36 i37 i39 i40 i41 rfl

set_option maxHeartbeats 4000000 in
theorem c_F_withCreasesAsTold {Po : mP} {t1 : Int32} (hT : Typ Po) (hX : XR Po)   : EvP 2 108 [.ref 0, .int t1] Po (fun r P' => (∃ x : Int32, r = some (.int x) ∧ (((t1.toInt < 0 ∨ (fv Po 1 1).toInt ≤ t1.toInt ∨ 8 ≤ t1.toInt) ∧ x.toInt = t1.toInt) ∨ ((0 ≤ t1.toInt ∧ t1.toInt + 1 ≤ (fv Po 1 1).toInt ∧ t1.toInt ≤ 7) ∧ ccQ Po (rv Po 2 t1.toInt.toNat) = (fv Po 289 6).toInt ∧ x.toInt = t1.toInt) ∨ ((0 ≤ t1.toInt ∧ t1.toInt + 1 ≤ (fv Po 1 1).toInt ∧ t1.toInt ≤ 7) ∧ ¬ ccQ Po (rv Po 2 t1.toInt.toNat) = (fv Po 289 6).toInt ∧ x.toInt = -1002))) ∧ P' = Po) := by
  refine EvP.of qm_108 (Nat.le_of_ble_eq_true rfl) rfl ?_
  show MEvP _ none q_108 0 [(0, .ref 0), (1, .int t1)] [] _ 0 0 _
  have w_t1 := ti_full t1
  have g1 : (0 : Int) ≤ (fv Po 1 1).toInt ∧ (fv Po 1 1).toInt ≤ 8 := Typ.rng hT rl_1 (by decide) (by decide) rfl
  have g2 := ti_full (fv Po 289 6)
  refine mp_a (a_aload_n dX6_withCreasesAsTold_0 rfl) (mpp 1 rfl ?_)
  refine mt_getU (i := 10) (k := 0) (A := 1) hT dX6_withCreasesAsTold_1 rfl rl_0 (by decide) rfl (by decide) rfl un_31 (mpp 4 rfl ?_)
  refine mp_a (a_iload_n dX6_withCreasesAsTold_4 rfl) (mpp 5 rfl ?_)
  refine mt_callv (i := 94) (q' := q_9) (As := [.int t1]) (rest := []) hT dX6_withCreasesAsTold_5 rfl qm_9 (by decide) rfl rl_1 (by decide) rfl (Nat.le_of_ble_eq_true rfl) rfl ⟨rfl, rfl⟩ ⟨Nat.le_of_ble_eq_true rfl, Nat.le_of_ble_eq_true rfl⟩ (EvP.mono (by decide) (c_CS_pieceAt_NState hT hX )) (fun r3 P4 g5 => mpp 8 rfl ?_)
  obtain ⟨g5, e6⟩ := g5
  have e6 := e6.symm
  subst e6
  rcases g5 with ⟨rfl, q8n⟩ | ⟨b7, rfl, q8, q8r⟩
  · show MEvP _ none q_108 8 [(0, .ref 0), (1, .int t1)] [.null] _ _ _ _
    replace q8n : t1.toInt < 0 ∨ (fv Po 1 1).toInt ≤ t1.toInt ∨ 8 ≤ t1.toInt := q8n
    refine mp_a (a_astore_nN (L' := [(2, .null), (0, .ref 0), (1, .int t1)]) dX6_withCreasesAsTold_8 (by decide) rfl) (mpp 9 rfl ?_)
    refine mp_a (a_aload_nN dX6_withCreasesAsTold_9 rfl) (mpp 10 rfl ?_)
    refine mp_t (s_ifnonnullN dX6_withCreasesAsTold_10) (mpp 13 rfl ?_)
    refine mp_a (a_iload_n dX6_withCreasesAsTold_13 rfl) (mpp 14 rfl ?_)
    have u9 : ((t1.toInt < 0 ∨ (fv Po 1 1).toInt ≤ t1.toInt ∨ 8 ≤ t1.toInt) ∧ t1.toInt = t1.toInt) ∨ ((0 ≤ t1.toInt ∧ t1.toInt + 1 ≤ (fv Po 1 1).toInt ∧ t1.toInt ≤ 7) ∧ ccQ Po (rv Po 2 t1.toInt.toNat) = (fv Po 289 6).toInt ∧ t1.toInt = t1.toInt) ∨ ((0 ≤ t1.toInt ∧ t1.toInt + 1 ≤ (fv Po 1 1).toInt ∧ t1.toInt ≤ 7) ∧ ¬ ccQ Po (rv Po 2 t1.toInt.toNat) = (fv Po 289 6).toInt ∧ t1.toInt = -1002) := Or.inl ⟨by omega, rfl⟩
    exact mp_iret ⟨⟨_, rfl, u9⟩, rfl⟩ dX6_withCreasesAsTold_14 (Or.inl rfl)
  · show MEvP _ none q_108 8 [(0, .ref 0), (1, .int t1)] [.ref b7] _ _ _ _
    replace q8r : 0 ≤ t1.toInt ∧ t1.toInt ≤ 7 ∧ t1.toInt + 1 ≤ (fv Po 1 1).toInt ∧ rv Po 2 t1.toInt.toNat = b7 := q8r
    have w10 := np_ar q8
    refine mp_a (a_astore_n (L' := [(2, .ref b7), (0, .ref 0), (1, .int t1)]) dX6_withCreasesAsTold_8 (by decide) rfl) (mpp 9 rfl ?_)
    refine mp_a (a_aload_n dX6_withCreasesAsTold_9 rfl) (mpp 10 rfl ?_)
    refine mp_t (s_ifnonnullR (t := 15) dX6_withCreasesAsTold_10 (by decide)) ?_
    refine mp_a (a_aload_n dX6_withCreasesAsTold_15 rfl) (mpp 16 rfl ?_)
    refine mt_callv (i := 123) (q' := q_25) (As := []) (rest := []) hT dX6_withCreasesAsTold_16 rfl qm_25 (by decide) rfl q8 (by decide) rfl (Nat.le_of_ble_eq_true rfl) rfl ⟨rfl, rfl⟩ ⟨Nat.le_of_ble_eq_true rfl, Nat.le_of_ble_eq_true rfl⟩ (EvP.mono (by decide) (c_CP_creaseCount_NPiece hT hX q8)) (fun r11 P12 g13 => mpp 19 rfl ?_)
    obtain ⟨⟨x14, rfl, g15⟩, e16⟩ := g13
    have e16 := e16.symm
    subst e16
    have wx14 := ti_full x14
    replace g15 : -1 ≤ x14.toInt ∧ x14.toInt ≤ (fv Po b7 1).toInt ∧ (((fv Po b7 0).toInt = 0 ∧ x14.toInt = (fv Po b7 1).toInt - 1) ∨ ((fv Po b7 0).toInt ≠ 0 ∧ x14.toInt = (fv Po b7 1).toInt)) := g15
    have g17 : (0 : Int) ≤ (fv Po b7 1).toInt ∧ (fv Po b7 1).toInt ≤ 8 := Typ.rng hT q8 (by decide) (by decide) rfl
    have g18 := ti_full (fv Po b7 0)
    show MEvP _ none q_108 19 [(2, .ref b7), (0, .ref 0), (1, .int t1)] [.int x14] _ _ _ _
    refine mp_a (a_aload_n dX6_withCreasesAsTold_19 rfl) (mpp 20 rfl ?_)
    refine mt_getU (i := 32) (k := 4) (A := 289) hT dX6_withCreasesAsTold_20 rfl rl_0 (by decide) rfl (by decide) rfl un_8 (mpp 23 rfl ?_)
    refine mt_getI (i := 309) (k := 6) hT dX6_withCreasesAsTold_23 rfl rl_289 (by decide) rfl (by decide) rfl (fun g19 g20 => mpp 26 rfl ?_)
    refine mp_Tb (t := 33) (j_icmp_ne dX6_withCreasesAsTold_26) (by decide) (fun c21 => ?_) (fun c21 => mpp 29 rfl ?_)
    · have c21 : x14.toInt ≠ (fv Po 289 6).toInt := ti_ne c21
      refine mp_a (a_sipush (v := -1002) dX6_withCreasesAsTold_33 rfl) (mpp 36 rfl ?_)
      have w23_ : ccQ Po b7 = x14.toInt := by unfold ccQ; split <;> omega
      have u22 : ((t1.toInt < 0 ∨ (fv Po 1 1).toInt ≤ t1.toInt ∨ 8 ≤ t1.toInt) ∧ (-1002 : Int) = t1.toInt) ∨ ((0 ≤ t1.toInt ∧ t1.toInt + 1 ≤ (fv Po 1 1).toInt ∧ t1.toInt ≤ 7) ∧ ccQ Po (rv Po 2 t1.toInt.toNat) = (fv Po 289 6).toInt ∧ (-1002 : Int) = t1.toInt) ∨ ((0 ≤ t1.toInt ∧ t1.toInt + 1 ≤ (fv Po 1 1).toInt ∧ t1.toInt ≤ 7) ∧ ¬ ccQ Po (rv Po 2 t1.toInt.toNat) = (fv Po 289 6).toInt ∧ (-1002 : Int) = -1002) := by rw [q8r.2.2.2, w23_]; exact Or.inr (Or.inr ⟨by omega, by omega, by omega⟩)
      exact mp_iret ⟨⟨_, rfl, u22⟩, rfl⟩ dX6_withCreasesAsTold_36 (Or.inl rfl)
    · have c21 : x14.toInt = (fv Po 289 6).toInt := ti_ne_n c21
      refine mp_a (a_iload_n dX6_withCreasesAsTold_29 rfl) (mpp 30 rfl ?_)
      refine mp_a (a_goto (t := 36) dX6_withCreasesAsTold_30 (by decide)) ?_
      have w25_ : ccQ Po b7 = x14.toInt := by unfold ccQ; split <;> omega
      have u24 : ((t1.toInt < 0 ∨ (fv Po 1 1).toInt ≤ t1.toInt ∨ 8 ≤ t1.toInt) ∧ t1.toInt = t1.toInt) ∨ ((0 ≤ t1.toInt ∧ t1.toInt + 1 ≤ (fv Po 1 1).toInt ∧ t1.toInt ≤ 7) ∧ ccQ Po (rv Po 2 t1.toInt.toNat) = (fv Po 289 6).toInt ∧ t1.toInt = t1.toInt) ∨ ((0 ≤ t1.toInt ∧ t1.toInt + 1 ≤ (fv Po 1 1).toInt ∧ t1.toInt ≤ 7) ∧ ¬ ccQ Po (rv Po 2 t1.toInt.toNat) = (fv Po 289 6).toInt ∧ t1.toInt = -1002) := by rw [q8r.2.2.2, w25_]; exact Or.inr (Or.inl ⟨by omega, by omega, by omega⟩)
      exact mp_iret ⟨⟨_, rfl, u24⟩, rfl⟩ dX6_withCreasesAsTold_36 (Or.inl rfl)

set_option maxHeartbeats 4000000 in
theorem c_F_perform {Po : mP}  (hT : Typ Po) (hX : XR Po)  (hJ : Inj Po)  : EvP 6 107 [.ref 0] Po (fun r P' => (∃ x : Int32, r = some (.int x) ∧ (KPX Po P' ∧ PFC Po P' x.toInt (fv Po 289 3).toInt (fv Po 289 4).toInt (fv Po 289 5).toInt (fv Po 289 6).toInt (fv Po 289 7).toInt)) ∧ Typ P' ∧ KW [10, 11, 12, 65, 66, 67, 192, 193, 194, 256, 320, 385, 386, 640, 641, 704, 768, 1985, 1987, 2048, 2112, 2113, 2114] Po P' ∧ Inj P' ∧ True) := by
  refine EvP.of qm_107 (Nat.le_of_ble_eq_true rfl) rfl ?_
  show MEvP _ none q_107 0 [(0, .ref 0)] [] _ 0 0 _
  have g1 := ti_full (fv Po 289 3)
  have g2 := ti_full (fv Po 289 4)
  have g3 := ti_full (fv Po 289 5)
  have g4 := ti_full (fv Po 289 6)
  have g5 := ti_full (fv Po 289 7)
  refine mp_a (a_aload_n dX6_perform_0 rfl) (mpp 1 rfl ?_)
  refine mt_getU (i := 32) (k := 4) (A := 289) hT dX6_perform_1 rfl rl_0 (by decide) rfl (by decide) rfl un_8 (mpp 4 rfl ?_)
  refine mt_getI (i := 276) (k := 3) hT dX6_perform_4 rfl rl_289 (by decide) rfl (by decide) rfl (fun g6 g7 => mpp 7 rfl ?_)
  have c8 : ((fv Po 289 3).toInt < 99 ∨ 120 < (fv Po 289 3).toInt) ∨ (fv Po 289 3).toInt = 99 ∨ (fv Po 289 3).toInt = 100 ∨ (fv Po 289 3).toInt = 101 ∨ (fv Po 289 3).toInt = 102 ∨ (fv Po 289 3).toInt = 103 ∨ (fv Po 289 3).toInt = 104 ∨ (fv Po 289 3).toInt = 105 ∨ (fv Po 289 3).toInt = 106 ∨ (fv Po 289 3).toInt = 107 ∨ (fv Po 289 3).toInt = 108 ∨ (fv Po 289 3).toInt = 109 ∨ (fv Po 289 3).toInt = 110 ∨ (fv Po 289 3).toInt = 111 ∨ (fv Po 289 3).toInt = 112 ∨ (fv Po 289 3).toInt = 113 ∨ (fv Po 289 3).toInt = 114 ∨ (fv Po 289 3).toInt = 115 ∨ (fv Po 289 3).toInt = 116 ∨ (fv Po 289 3).toInt = 117 ∨ (fv Po 289 3).toInt = 118 ∨ (fv Po 289 3).toInt = 119 ∨ (fv Po 289 3).toInt = 120 := by omega
  rcases c8 with c8 | c8 | c8 | c8 | c8 | c8 | c8 | c8 | c8 | c8 | c8 | c8 | c8 | c8 | c8 | c8 | c8 | c8 | c8 | c8 | c8 | c8 | c8
  · refine mp_t (s_tabOut (t := 230) dX6_perform_7 c8 (by decide)) ?_
    refine mp_a (a_sipush (v := -1002) dX6_perform_230 rfl) (mpp 233 rfl ?_)
    have u9 : KPX Po Po ∧ PFC Po Po (-1002 : Int) (fv Po 289 3).toInt (fv Po 289 4).toInt (fv Po 289 5).toInt (fv Po 289 6).toInt (fv Po 289 7).toInt := ⟨⟨rfl, fun _ _ _ => rfl⟩, Or.inr (Or.inr (Or.inr (Or.inr (Or.inr (Or.inr (Or.inr (⟨by omega, rfl⟩)))))))⟩
    exact mp_iret ⟨⟨_, rfl, u9⟩, hT, KW.refl, hJ, trivial⟩ dX6_perform_233 (Or.inl rfl)
  · refine mp_t (s_tabIn (t := 132) (off := 125) dX6_perform_7 (by omega) (by rw [c8]; rfl) (by decide)) ?_
    refine mp_a (a_aload_n dX6_perform_132 rfl) (mpp 133 rfl ?_)
    refine mp_a (a_aload_n dX6_perform_133 rfl) (mpp 134 rfl ?_)
    refine mp_a (a_iconst (v := 1) dX6_perform_134 rfl) (mpp 135 rfl ?_)
    refine mp_a (a_aload_n dX6_perform_135 rfl) (mpp 136 rfl ?_)
    refine mt_getU (i := 32) (k := 4) (A := 289) hT dX6_perform_136 rfl rl_0 (by decide) rfl (by decide) rfl un_8 (mpp 139 rfl ?_)
    refine mt_getI (i := 279) (k := 4) hT dX6_perform_139 rfl rl_289 (by decide) rfl (by decide) rfl (fun g11 g12 => mpp 142 rfl ?_)
    refine mp_a (a_aload_n dX6_perform_142 rfl) (mpp 143 rfl ?_)
    refine mt_getU (i := 32) (k := 4) (A := 289) hT dX6_perform_143 rfl rl_0 (by decide) rfl (by decide) rfl un_8 (mpp 146 rfl ?_)
    refine mt_getI (i := 282) (k := 5) hT dX6_perform_146 rfl rl_289 (by decide) rfl (by decide) rfl (fun g13 g14 => mpp 149 rfl ?_)
    refine mt_callv (i := 284) (q' := q_20) (As := [.int 1, .int (fv Po 289 4), .int (fv Po 289 5)]) (rest := [.ref 0]) hT dX6_perform_149 rfl qm_20 (by decide) rfl rl_0 (by decide) rfl (Nat.le_of_ble_eq_true rfl) rfl ⟨rfl, rfl⟩ ⟨Nat.le_of_ble_eq_true rfl, Nat.le_of_ble_eq_true rfl⟩ (EvP.mono (by decide) (c_F_add hT hX hJ )) (fun r15 P16 g17 => mpp 152 rfl ?_)
    obtain ⟨⟨x18, rfl, g19⟩, hT20, k21, J24, R22⟩ := g17
    have k23 : KW [10, 11, 12, 65, 66, 67, 192, 193, 194, 256, 320, 385, 386, 640, 641, 704, 768, 1985, 1987, 2048, 2112, 2113, 2114] Po P16 := KW.trans KW.refl k21 rfl
    have wx18 := ti_full x18
    replace g19 : KPX Po P16 ∧ addC Po P16 x18.toInt (1 : Int) (fv Po 289 4).toInt (fv Po 289 5).toInt := g19
    show MEvP _ none q_107 152 [(0, .ref 0)] [.int x18, .ref 0] _ _ _ _
    refine mt_callv (i := 288) (q' := q_108) (As := [.int x18]) (rest := []) hT20 dX6_perform_152 rfl qm_108 (by decide) rfl rl_0 (by decide) rfl (Nat.le_of_ble_eq_true rfl) rfl ⟨rfl, rfl⟩ ⟨Nat.le_of_ble_eq_true rfl, Nat.le_of_ble_eq_true rfl⟩ (EvP.mono (by decide) (c_F_withCreasesAsTold hT20 (KW.xr k23 hX) )) (fun r25 P26 g27 => mpp 155 rfl ?_)
    obtain ⟨⟨x28, rfl, g29⟩, e30⟩ := g27
    have e30 := e30.symm
    subst e30
    have wx28 := ti_full x28
    replace g29 : ((x18.toInt < 0 ∨ (fv P16 1 1).toInt ≤ x18.toInt ∨ 8 ≤ x18.toInt) ∧ x28.toInt = x18.toInt) ∨ ((0 ≤ x18.toInt ∧ x18.toInt + 1 ≤ (fv P16 1 1).toInt ∧ x18.toInt ≤ 7) ∧ ccQ P16 (rv P16 2 x18.toInt.toNat) = (fv P16 289 6).toInt ∧ x28.toInt = x18.toInt) ∨ ((0 ≤ x18.toInt ∧ x18.toInt + 1 ≤ (fv P16 1 1).toInt ∧ x18.toInt ≤ 7) ∧ ¬ ccQ P16 (rv P16 2 x18.toInt.toNat) = (fv P16 289 6).toInt ∧ x28.toInt = -1002) := g29
    have g31 : (0 : Int) ≤ (fv P16 1 1).toInt ∧ (fv P16 1 1).toInt ≤ 8 := Typ.rng hT20 rl_1 (by decide) (by decide) rfl
    have e32 : (fv P16 289 6).toInt = (fv Po 289 6).toInt := congrArg Int32.toInt (KW.at k21 6 rl_289 rfl)
    show MEvP _ none q_107 155 [(0, .ref 0)] [.int x28] _ _ _ _
    have w34_ := g29
    have w34_s : (fv P16 289 6).toInt = (fv Po 289 6).toInt := congrArg Int32.toInt (g19.1.2 289 6 (by omega))
    rw [w34_s] at w34_
    have u33 : KPX Po P16 ∧ PFC Po P16 x28.toInt (fv Po 289 3).toInt (fv Po 289 4).toInt (fv Po 289 5).toInt (fv Po 289 6).toInt (fv Po 289 7).toInt := ⟨g19.1, Or.inr (Or.inl (⟨by omega, _, g19.2, w34_⟩))⟩
    exact mp_iret ⟨⟨_, rfl, u33⟩, hT20, k23, J24, trivial⟩ dX6_perform_155 (Or.inl rfl)
  · refine mp_t (s_tabIn (t := 230) (off := 223) dX6_perform_7 (by omega) (by rw [c8]; rfl) (by decide)) ?_
    refine mp_a (a_sipush (v := -1002) dX6_perform_230 rfl) (mpp 233 rfl ?_)
    have u35 : KPX Po Po ∧ PFC Po Po (-1002 : Int) (fv Po 289 3).toInt (fv Po 289 4).toInt (fv Po 289 5).toInt (fv Po 289 6).toInt (fv Po 289 7).toInt := ⟨⟨rfl, fun _ _ _ => rfl⟩, Or.inr (Or.inr (Or.inr (Or.inr (Or.inr (Or.inr (Or.inr (⟨by omega, rfl⟩)))))))⟩
    exact mp_iret ⟨⟨_, rfl, u35⟩, hT, KW.refl, hJ, trivial⟩ dX6_perform_233 (Or.inl rfl)
  · refine mp_t (s_tabIn (t := 230) (off := 223) dX6_perform_7 (by omega) (by rw [c8]; rfl) (by decide)) ?_
    refine mp_a (a_sipush (v := -1002) dX6_perform_230 rfl) (mpp 233 rfl ?_)
    have u37 : KPX Po Po ∧ PFC Po Po (-1002 : Int) (fv Po 289 3).toInt (fv Po 289 4).toInt (fv Po 289 5).toInt (fv Po 289 6).toInt (fv Po 289 7).toInt := ⟨⟨rfl, fun _ _ _ => rfl⟩, Or.inr (Or.inr (Or.inr (Or.inr (Or.inr (Or.inr (Or.inr (⟨by omega, rfl⟩)))))))⟩
    exact mp_iret ⟨⟨_, rfl, u37⟩, hT, KW.refl, hJ, trivial⟩ dX6_perform_233 (Or.inl rfl)
  · refine mp_t (s_tabIn (t := 194) (off := 187) dX6_perform_7 (by omega) (by rw [c8]; rfl) (by decide)) ?_
    refine mp_a (a_aload_n dX6_perform_194 rfl) (mpp 195 rfl ?_)
    refine mp_a (a_aload_n dX6_perform_195 rfl) (mpp 196 rfl ?_)
    refine mt_getU (i := 32) (k := 4) (A := 289) hT dX6_perform_196 rfl rl_0 (by decide) rfl (by decide) rfl un_8 (mpp 199 rfl ?_)
    refine mt_getI (i := 279) (k := 4) hT dX6_perform_199 rfl rl_289 (by decide) rfl (by decide) rfl (fun g39 g40 => mpp 202 rfl ?_)
    refine mt_callv (i := 300) (q' := q_41) (As := [.int (fv Po 289 4)]) (rest := []) hT dX6_perform_202 rfl qm_41 (by decide) rfl rl_0 (by decide) rfl (Nat.le_of_ble_eq_true rfl) rfl ⟨rfl, rfl⟩ ⟨Nat.le_of_ble_eq_true rfl, Nat.le_of_ble_eq_true rfl⟩ (EvP.mono (by decide) (c_F_fold hT hX hJ )) (fun r41 P42 g43 => mpp 205 rfl ?_)
    obtain ⟨⟨x44, rfl, g45⟩, hT46, k47, J50, R48⟩ := g43
    have k49 : KW [10, 11, 12, 65, 66, 67, 192, 193, 194, 256, 320, 385, 386, 640, 641, 704, 768, 1985, 1987, 2048, 2112, 2113, 2114] Po P42 := KW.trans KW.refl k47 rfl
    have wx44 := ti_full x44
    replace g45 : KPX Po P42 ∧ foldC Po P42 x44.toInt (fv Po 289 4).toInt := g45
    show MEvP _ none q_107 205 [(0, .ref 0)] [.int x44] _ _ _ _
    have u51 : KPX Po P42 ∧ PFC Po P42 x44.toInt (fv Po 289 3).toInt (fv Po 289 4).toInt (fv Po 289 5).toInt (fv Po 289 6).toInt (fv Po 289 7).toInt := ⟨g45.1, Or.inr (Or.inr (Or.inr (Or.inr (Or.inl (⟨by omega, g45.2⟩)))))⟩
    exact mp_iret ⟨⟨_, rfl, u51⟩, hT46, k49, J50, trivial⟩ dX6_perform_205 (Or.inl rfl)
  · refine mp_t (s_tabIn (t := 230) (off := 223) dX6_perform_7 (by omega) (by rw [c8]; rfl) (by decide)) ?_
    refine mp_a (a_sipush (v := -1002) dX6_perform_230 rfl) (mpp 233 rfl ?_)
    have u53 : KPX Po Po ∧ PFC Po Po (-1002 : Int) (fv Po 289 3).toInt (fv Po 289 4).toInt (fv Po 289 5).toInt (fv Po 289 6).toInt (fv Po 289 7).toInt := ⟨⟨rfl, fun _ _ _ => rfl⟩, Or.inr (Or.inr (Or.inr (Or.inr (Or.inr (Or.inr (Or.inr (⟨by omega, rfl⟩)))))))⟩
    exact mp_iret ⟨⟨_, rfl, u53⟩, hT, KW.refl, hJ, trivial⟩ dX6_perform_233 (Or.inl rfl)
  · refine mp_t (s_tabIn (t := 230) (off := 223) dX6_perform_7 (by omega) (by rw [c8]; rfl) (by decide)) ?_
    refine mp_a (a_sipush (v := -1002) dX6_perform_230 rfl) (mpp 233 rfl ?_)
    have u55 : KPX Po Po ∧ PFC Po Po (-1002 : Int) (fv Po 289 3).toInt (fv Po 289 4).toInt (fv Po 289 5).toInt (fv Po 289 6).toInt (fv Po 289 7).toInt := ⟨⟨rfl, fun _ _ _ => rfl⟩, Or.inr (Or.inr (Or.inr (Or.inr (Or.inr (Or.inr (Or.inr (⟨by omega, rfl⟩)))))))⟩
    exact mp_iret ⟨⟨_, rfl, u55⟩, hT, KW.refl, hJ, trivial⟩ dX6_perform_233 (Or.inl rfl)
  · refine mp_t (s_tabIn (t := 230) (off := 223) dX6_perform_7 (by omega) (by rw [c8]; rfl) (by decide)) ?_
    refine mp_a (a_sipush (v := -1002) dX6_perform_230 rfl) (mpp 233 rfl ?_)
    have u57 : KPX Po Po ∧ PFC Po Po (-1002 : Int) (fv Po 289 3).toInt (fv Po 289 4).toInt (fv Po 289 5).toInt (fv Po 289 6).toInt (fv Po 289 7).toInt := ⟨⟨rfl, fun _ _ _ => rfl⟩, Or.inr (Or.inr (Or.inr (Or.inr (Or.inr (Or.inr (Or.inr (⟨by omega, rfl⟩)))))))⟩
    exact mp_iret ⟨⟨_, rfl, u57⟩, hT, KW.refl, hJ, trivial⟩ dX6_perform_233 (Or.inl rfl)
  · refine mp_t (s_tabIn (t := 230) (off := 223) dX6_perform_7 (by omega) (by rw [c8]; rfl) (by decide)) ?_
    refine mp_a (a_sipush (v := -1002) dX6_perform_230 rfl) (mpp 233 rfl ?_)
    have u59 : KPX Po Po ∧ PFC Po Po (-1002 : Int) (fv Po 289 3).toInt (fv Po 289 4).toInt (fv Po 289 5).toInt (fv Po 289 6).toInt (fv Po 289 7).toInt := ⟨⟨rfl, fun _ _ _ => rfl⟩, Or.inr (Or.inr (Or.inr (Or.inr (Or.inr (Or.inr (Or.inr (⟨by omega, rfl⟩)))))))⟩
    exact mp_iret ⟨⟨_, rfl, u59⟩, hT, KW.refl, hJ, trivial⟩ dX6_perform_233 (Or.inl rfl)
  · refine mp_t (s_tabIn (t := 230) (off := 223) dX6_perform_7 (by omega) (by rw [c8]; rfl) (by decide)) ?_
    refine mp_a (a_sipush (v := -1002) dX6_perform_230 rfl) (mpp 233 rfl ?_)
    have u61 : KPX Po Po ∧ PFC Po Po (-1002 : Int) (fv Po 289 3).toInt (fv Po 289 4).toInt (fv Po 289 5).toInt (fv Po 289 6).toInt (fv Po 289 7).toInt := ⟨⟨rfl, fun _ _ _ => rfl⟩, Or.inr (Or.inr (Or.inr (Or.inr (Or.inr (Or.inr (Or.inr (⟨by omega, rfl⟩)))))))⟩
    exact mp_iret ⟨⟨_, rfl, u61⟩, hT, KW.refl, hJ, trivial⟩ dX6_perform_233 (Or.inl rfl)
  · refine mp_t (s_tabIn (t := 230) (off := 223) dX6_perform_7 (by omega) (by rw [c8]; rfl) (by decide)) ?_
    refine mp_a (a_sipush (v := -1002) dX6_perform_230 rfl) (mpp 233 rfl ?_)
    have u63 : KPX Po Po ∧ PFC Po Po (-1002 : Int) (fv Po 289 3).toInt (fv Po 289 4).toInt (fv Po 289 5).toInt (fv Po 289 6).toInt (fv Po 289 7).toInt := ⟨⟨rfl, fun _ _ _ => rfl⟩, Or.inr (Or.inr (Or.inr (Or.inr (Or.inr (Or.inr (Or.inr (⟨by omega, rfl⟩)))))))⟩
    exact mp_iret ⟨⟨_, rfl, u63⟩, hT, KW.refl, hJ, trivial⟩ dX6_perform_233 (Or.inl rfl)
  · refine mp_t (s_tabIn (t := 156) (off := 149) dX6_perform_7 (by omega) (by rw [c8]; rfl) (by decide)) ?_
    refine mp_a (a_aload_n dX6_perform_156 rfl) (mpp 157 rfl ?_)
    refine mp_a (a_aload_n dX6_perform_157 rfl) (mpp 158 rfl ?_)
    refine mt_getU (i := 32) (k := 4) (A := 289) hT dX6_perform_158 rfl rl_0 (by decide) rfl (by decide) rfl un_8 (mpp 161 rfl ?_)
    refine mt_getI (i := 279) (k := 4) hT dX6_perform_161 rfl rl_289 (by decide) rfl (by decide) rfl (fun g65 g66 => mpp 164 rfl ?_)
    refine mp_a (a_aload_n dX6_perform_164 rfl) (mpp 165 rfl ?_)
    refine mt_getU (i := 32) (k := 4) (A := 289) hT dX6_perform_165 rfl rl_0 (by decide) rfl (by decide) rfl un_8 (mpp 168 rfl ?_)
    refine mt_getI (i := 282) (k := 5) hT dX6_perform_168 rfl rl_289 (by decide) rfl (by decide) rfl (fun g67 g68 => mpp 171 rfl ?_)
    refine mp_a (a_aload_n dX6_perform_171 rfl) (mpp 172 rfl ?_)
    refine mt_getU (i := 32) (k := 4) (A := 289) hT dX6_perform_172 rfl rl_0 (by decide) rfl (by decide) rfl un_8 (mpp 175 rfl ?_)
    refine mt_getI (i := 291) (k := 7) hT dX6_perform_175 rfl rl_289 (by decide) rfl (by decide) rfl (fun g69 g70 => mpp 178 rfl ?_)
    refine mt_callv (i := 294) (q' := q_28) (As := [.int (fv Po 289 4), .int (fv Po 289 5), .int (fv Po 289 7)]) (rest := []) hT dX6_perform_178 rfl qm_28 (by decide) rfl rl_0 (by decide) rfl (Nat.le_of_ble_eq_true rfl) rfl ⟨rfl, rfl⟩ ⟨Nat.le_of_ble_eq_true rfl, Nat.le_of_ble_eq_true rfl⟩ (EvP.mono (by decide) (c_F_mark hT hX hJ )) (fun r71 P72 g73 => mpp 181 rfl ?_)
    obtain ⟨⟨x74, rfl, g75⟩, hT76, k77, J80, R78⟩ := g73
    have k79 : KW [10, 11, 12, 65, 66, 67, 192, 193, 194, 256, 320, 385, 386, 640, 641, 704, 768, 1985, 1987, 2048, 2112, 2113, 2114] Po P72 := KW.trans KW.refl k77 rfl
    have wx74 := ti_full x74
    replace g75 : KPX Po P72 ∧ markC Po P72 x74.toInt (fv Po 289 4).toInt (fv Po 289 5).toInt (fv Po 289 7).toInt := g75
    show MEvP _ none q_107 181 [(0, .ref 0)] [.int x74] _ _ _ _
    have u81 : KPX Po P72 ∧ PFC Po P72 x74.toInt (fv Po 289 3).toInt (fv Po 289 4).toInt (fv Po 289 5).toInt (fv Po 289 6).toInt (fv Po 289 7).toInt := ⟨g75.1, Or.inr (Or.inr (Or.inl (⟨by omega, g75.2⟩)))⟩
    exact mp_iret ⟨⟨_, rfl, u81⟩, hT76, k79, J80, trivial⟩ dX6_perform_181 (Or.inl rfl)
  · refine mp_t (s_tabIn (t := 230) (off := 223) dX6_perform_7 (by omega) (by rw [c8]; rfl) (by decide)) ?_
    refine mp_a (a_sipush (v := -1002) dX6_perform_230 rfl) (mpp 233 rfl ?_)
    have u83 : KPX Po Po ∧ PFC Po Po (-1002 : Int) (fv Po 289 3).toInt (fv Po 289 4).toInt (fv Po 289 5).toInt (fv Po 289 6).toInt (fv Po 289 7).toInt := ⟨⟨rfl, fun _ _ _ => rfl⟩, Or.inr (Or.inr (Or.inr (Or.inr (Or.inr (Or.inr (Or.inr (⟨by omega, rfl⟩)))))))⟩
    exact mp_iret ⟨⟨_, rfl, u83⟩, hT, KW.refl, hJ, trivial⟩ dX6_perform_233 (Or.inl rfl)
  · refine mp_t (s_tabIn (t := 230) (off := 223) dX6_perform_7 (by omega) (by rw [c8]; rfl) (by decide)) ?_
    refine mp_a (a_sipush (v := -1002) dX6_perform_230 rfl) (mpp 233 rfl ?_)
    have u85 : KPX Po Po ∧ PFC Po Po (-1002 : Int) (fv Po 289 3).toInt (fv Po 289 4).toInt (fv Po 289 5).toInt (fv Po 289 6).toInt (fv Po 289 7).toInt := ⟨⟨rfl, fun _ _ _ => rfl⟩, Or.inr (Or.inr (Or.inr (Or.inr (Or.inr (Or.inr (Or.inr (⟨by omega, rfl⟩)))))))⟩
    exact mp_iret ⟨⟨_, rfl, u85⟩, hT, KW.refl, hJ, trivial⟩ dX6_perform_233 (Or.inl rfl)
  · refine mp_t (s_tabIn (t := 230) (off := 223) dX6_perform_7 (by omega) (by rw [c8]; rfl) (by decide)) ?_
    refine mp_a (a_sipush (v := -1002) dX6_perform_230 rfl) (mpp 233 rfl ?_)
    have u87 : KPX Po Po ∧ PFC Po Po (-1002 : Int) (fv Po 289 3).toInt (fv Po 289 4).toInt (fv Po 289 5).toInt (fv Po 289 6).toInt (fv Po 289 7).toInt := ⟨⟨rfl, fun _ _ _ => rfl⟩, Or.inr (Or.inr (Or.inr (Or.inr (Or.inr (Or.inr (Or.inr (⟨by omega, rfl⟩)))))))⟩
    exact mp_iret ⟨⟨_, rfl, u87⟩, hT, KW.refl, hJ, trivial⟩ dX6_perform_233 (Or.inl rfl)
  · refine mp_t (s_tabIn (t := 230) (off := 223) dX6_perform_7 (by omega) (by rw [c8]; rfl) (by decide)) ?_
    refine mp_a (a_sipush (v := -1002) dX6_perform_230 rfl) (mpp 233 rfl ?_)
    have u89 : KPX Po Po ∧ PFC Po Po (-1002 : Int) (fv Po 289 3).toInt (fv Po 289 4).toInt (fv Po 289 5).toInt (fv Po 289 6).toInt (fv Po 289 7).toInt := ⟨⟨rfl, fun _ _ _ => rfl⟩, Or.inr (Or.inr (Or.inr (Or.inr (Or.inr (Or.inr (Or.inr (⟨by omega, rfl⟩)))))))⟩
    exact mp_iret ⟨⟨_, rfl, u89⟩, hT, KW.refl, hJ, trivial⟩ dX6_perform_233 (Or.inl rfl)
  · refine mp_t (s_tabIn (t := 230) (off := 223) dX6_perform_7 (by omega) (by rw [c8]; rfl) (by decide)) ?_
    refine mp_a (a_sipush (v := -1002) dX6_perform_230 rfl) (mpp 233 rfl ?_)
    have u91 : KPX Po Po ∧ PFC Po Po (-1002 : Int) (fv Po 289 3).toInt (fv Po 289 4).toInt (fv Po 289 5).toInt (fv Po 289 6).toInt (fv Po 289 7).toInt := ⟨⟨rfl, fun _ _ _ => rfl⟩, Or.inr (Or.inr (Or.inr (Or.inr (Or.inr (Or.inr (Or.inr (⟨by omega, rfl⟩)))))))⟩
    exact mp_iret ⟨⟨_, rfl, u91⟩, hT, KW.refl, hJ, trivial⟩ dX6_perform_233 (Or.inl rfl)
  · refine mp_t (s_tabIn (t := 108) (off := 101) dX6_perform_7 (by omega) (by rw [c8]; rfl) (by decide)) ?_
    refine mp_a (a_aload_n dX6_perform_108 rfl) (mpp 109 rfl ?_)
    refine mp_a (a_aload_n dX6_perform_109 rfl) (mpp 110 rfl ?_)
    refine mp_a (a_iconst (v := 0) dX6_perform_110 rfl) (mpp 111 rfl ?_)
    refine mp_a (a_aload_n dX6_perform_111 rfl) (mpp 112 rfl ?_)
    refine mt_getU (i := 32) (k := 4) (A := 289) hT dX6_perform_112 rfl rl_0 (by decide) rfl (by decide) rfl un_8 (mpp 115 rfl ?_)
    refine mt_getI (i := 279) (k := 4) hT dX6_perform_115 rfl rl_289 (by decide) rfl (by decide) rfl (fun g93 g94 => mpp 118 rfl ?_)
    refine mp_a (a_aload_n dX6_perform_118 rfl) (mpp 119 rfl ?_)
    refine mt_getU (i := 32) (k := 4) (A := 289) hT dX6_perform_119 rfl rl_0 (by decide) rfl (by decide) rfl un_8 (mpp 122 rfl ?_)
    refine mt_getI (i := 282) (k := 5) hT dX6_perform_122 rfl rl_289 (by decide) rfl (by decide) rfl (fun g95 g96 => mpp 125 rfl ?_)
    refine mt_callv (i := 284) (q' := q_20) (As := [.int 0, .int (fv Po 289 4), .int (fv Po 289 5)]) (rest := [.ref 0]) hT dX6_perform_125 rfl qm_20 (by decide) rfl rl_0 (by decide) rfl (Nat.le_of_ble_eq_true rfl) rfl ⟨rfl, rfl⟩ ⟨Nat.le_of_ble_eq_true rfl, Nat.le_of_ble_eq_true rfl⟩ (EvP.mono (by decide) (c_F_add hT hX hJ )) (fun r97 P98 g99 => mpp 128 rfl ?_)
    obtain ⟨⟨x100, rfl, g101⟩, hT102, k103, J106, R104⟩ := g99
    have k105 : KW [10, 11, 12, 65, 66, 67, 192, 193, 194, 256, 320, 385, 386, 640, 641, 704, 768, 1985, 1987, 2048, 2112, 2113, 2114] Po P98 := KW.trans KW.refl k103 rfl
    have wx100 := ti_full x100
    replace g101 : KPX Po P98 ∧ addC Po P98 x100.toInt (0 : Int) (fv Po 289 4).toInt (fv Po 289 5).toInt := g101
    show MEvP _ none q_107 128 [(0, .ref 0)] [.int x100, .ref 0] _ _ _ _
    refine mt_callv (i := 288) (q' := q_108) (As := [.int x100]) (rest := []) hT102 dX6_perform_128 rfl qm_108 (by decide) rfl rl_0 (by decide) rfl (Nat.le_of_ble_eq_true rfl) rfl ⟨rfl, rfl⟩ ⟨Nat.le_of_ble_eq_true rfl, Nat.le_of_ble_eq_true rfl⟩ (EvP.mono (by decide) (c_F_withCreasesAsTold hT102 (KW.xr k105 hX) )) (fun r107 P108 g109 => mpp 131 rfl ?_)
    obtain ⟨⟨x110, rfl, g111⟩, e112⟩ := g109
    have e112 := e112.symm
    subst e112
    have wx110 := ti_full x110
    replace g111 : ((x100.toInt < 0 ∨ (fv P98 1 1).toInt ≤ x100.toInt ∨ 8 ≤ x100.toInt) ∧ x110.toInt = x100.toInt) ∨ ((0 ≤ x100.toInt ∧ x100.toInt + 1 ≤ (fv P98 1 1).toInt ∧ x100.toInt ≤ 7) ∧ ccQ P98 (rv P98 2 x100.toInt.toNat) = (fv P98 289 6).toInt ∧ x110.toInt = x100.toInt) ∨ ((0 ≤ x100.toInt ∧ x100.toInt + 1 ≤ (fv P98 1 1).toInt ∧ x100.toInt ≤ 7) ∧ ¬ ccQ P98 (rv P98 2 x100.toInt.toNat) = (fv P98 289 6).toInt ∧ x110.toInt = -1002) := g111
    have g113 : (0 : Int) ≤ (fv P98 1 1).toInt ∧ (fv P98 1 1).toInt ≤ 8 := Typ.rng hT102 rl_1 (by decide) (by decide) rfl
    have e114 : (fv P98 289 6).toInt = (fv Po 289 6).toInt := congrArg Int32.toInt (KW.at k103 6 rl_289 rfl)
    show MEvP _ none q_107 131 [(0, .ref 0)] [.int x110] _ _ _ _
    have w116_ := g111
    have w116_s : (fv P98 289 6).toInt = (fv Po 289 6).toInt := congrArg Int32.toInt (g101.1.2 289 6 (by omega))
    rw [w116_s] at w116_
    have u115 : KPX Po P98 ∧ PFC Po P98 x110.toInt (fv Po 289 3).toInt (fv Po 289 4).toInt (fv Po 289 5).toInt (fv Po 289 6).toInt (fv Po 289 7).toInt := ⟨g101.1, Or.inl (⟨by omega, _, g101.2, w116_⟩)⟩
    exact mp_iret ⟨⟨_, rfl, u115⟩, hT102, k105, J106, trivial⟩ dX6_perform_131 (Or.inl rfl)
  · refine mp_t (s_tabIn (t := 182) (off := 175) dX6_perform_7 (by omega) (by rw [c8]; rfl) (by decide)) ?_
    refine mp_a (a_aload_n dX6_perform_182 rfl) (mpp 183 rfl ?_)
    refine mp_a (a_aload_n dX6_perform_183 rfl) (mpp 184 rfl ?_)
    refine mt_getU (i := 32) (k := 4) (A := 289) hT dX6_perform_184 rfl rl_0 (by decide) rfl (by decide) rfl un_8 (mpp 187 rfl ?_)
    refine mt_getI (i := 279) (k := 4) hT dX6_perform_187 rfl rl_289 (by decide) rfl (by decide) rfl (fun g117 g118 => mpp 190 rfl ?_)
    refine mt_callv (i := 297) (q' := q_30) (As := [.int (fv Po 289 4)]) (rest := []) hT dX6_perform_190 rfl qm_30 (by decide) rfl rl_0 (by decide) rfl (Nat.le_of_ble_eq_true rfl) rfl ⟨rfl, rfl⟩ ⟨Nat.le_of_ble_eq_true rfl, Nat.le_of_ble_eq_true rfl⟩ (EvP.mono (by decide) (c_F_turn hT hX hJ )) (fun r119 P120 g121 => mpp 193 rfl ?_)
    obtain ⟨⟨x122, rfl, g123⟩, hT124, k125, J128, R126⟩ := g121
    have k127 : KW [10, 11, 12, 65, 66, 67, 192, 193, 194, 256, 320, 385, 386, 640, 641, 704, 768, 1985, 1987, 2048, 2112, 2113, 2114] Po P120 := KW.trans KW.refl k125 rfl
    have wx122 := ti_full x122
    replace g123 : KPX Po P120 ∧ turnC Po P120 x122.toInt (fv Po 289 4).toInt := g123
    show MEvP _ none q_107 193 [(0, .ref 0)] [.int x122] _ _ _ _
    have u129 : KPX Po P120 ∧ PFC Po P120 x122.toInt (fv Po 289 3).toInt (fv Po 289 4).toInt (fv Po 289 5).toInt (fv Po 289 6).toInt (fv Po 289 7).toInt := ⟨g123.1, Or.inr (Or.inr (Or.inr (Or.inl (⟨by omega, g123.2⟩))))⟩
    exact mp_iret ⟨⟨_, rfl, u129⟩, hT124, k127, J128, trivial⟩ dX6_perform_193 (Or.inl rfl)
  · refine mp_t (s_tabIn (t := 206) (off := 199) dX6_perform_7 (by omega) (by rw [c8]; rfl) (by decide)) ?_
    refine mp_a (a_aload_n dX6_perform_206 rfl) (mpp 207 rfl ?_)
    refine mp_a (a_aload_n dX6_perform_207 rfl) (mpp 208 rfl ?_)
    refine mt_getU (i := 32) (k := 4) (A := 289) hT dX6_perform_208 rfl rl_0 (by decide) rfl (by decide) rfl un_8 (mpp 211 rfl ?_)
    refine mt_getI (i := 279) (k := 4) hT dX6_perform_211 rfl rl_289 (by decide) rfl (by decide) rfl (fun g131 g132 => mpp 214 rfl ?_)
    refine mt_callv (i := 303) (q' := q_56) (As := [.int (fv Po 289 4)]) (rest := []) hT dX6_perform_214 rfl qm_56 (by decide) rfl rl_0 (by decide) rfl (Nat.le_of_ble_eq_true rfl) rfl ⟨rfl, rfl⟩ ⟨Nat.le_of_ble_eq_true rfl, Nat.le_of_ble_eq_true rfl⟩ (EvP.mono (by decide) (c_F_unfold hT hX hJ )) (fun r133 P134 g135 => mpp 217 rfl ?_)
    obtain ⟨⟨x136, rfl, g137⟩, hT138, k139, J142, R140⟩ := g135
    have k141 : KW [10, 11, 12, 65, 66, 67, 192, 193, 194, 256, 320, 385, 386, 640, 641, 704, 768, 1985, 1987, 2048, 2112, 2113, 2114] Po P134 := KW.trans KW.refl k139 rfl
    have wx136 := ti_full x136
    replace g137 : KPX Po P134 ∧ unfoldC Po P134 x136.toInt (fv Po 289 4).toInt := g137
    show MEvP _ none q_107 217 [(0, .ref 0)] [.int x136] _ _ _ _
    have u143 : KPX Po P134 ∧ PFC Po P134 x136.toInt (fv Po 289 3).toInt (fv Po 289 4).toInt (fv Po 289 5).toInt (fv Po 289 6).toInt (fv Po 289 7).toInt := ⟨g137.1, Or.inr (Or.inr (Or.inr (Or.inr (Or.inr (Or.inl (⟨by omega, g137.2⟩))))))⟩
    exact mp_iret ⟨⟨_, rfl, u143⟩, hT138, k141, J142, trivial⟩ dX6_perform_217 (Or.inl rfl)
  · refine mp_t (s_tabIn (t := 230) (off := 223) dX6_perform_7 (by omega) (by rw [c8]; rfl) (by decide)) ?_
    refine mp_a (a_sipush (v := -1002) dX6_perform_230 rfl) (mpp 233 rfl ?_)
    have u145 : KPX Po Po ∧ PFC Po Po (-1002 : Int) (fv Po 289 3).toInt (fv Po 289 4).toInt (fv Po 289 5).toInt (fv Po 289 6).toInt (fv Po 289 7).toInt := ⟨⟨rfl, fun _ _ _ => rfl⟩, Or.inr (Or.inr (Or.inr (Or.inr (Or.inr (Or.inr (Or.inr (⟨by omega, rfl⟩)))))))⟩
    exact mp_iret ⟨⟨_, rfl, u145⟩, hT, KW.refl, hJ, trivial⟩ dX6_perform_233 (Or.inl rfl)
  · refine mp_t (s_tabIn (t := 230) (off := 223) dX6_perform_7 (by omega) (by rw [c8]; rfl) (by decide)) ?_
    refine mp_a (a_sipush (v := -1002) dX6_perform_230 rfl) (mpp 233 rfl ?_)
    have u147 : KPX Po Po ∧ PFC Po Po (-1002 : Int) (fv Po 289 3).toInt (fv Po 289 4).toInt (fv Po 289 5).toInt (fv Po 289 6).toInt (fv Po 289 7).toInt := ⟨⟨rfl, fun _ _ _ => rfl⟩, Or.inr (Or.inr (Or.inr (Or.inr (Or.inr (Or.inr (Or.inr (⟨by omega, rfl⟩)))))))⟩
    exact mp_iret ⟨⟨_, rfl, u147⟩, hT, KW.refl, hJ, trivial⟩ dX6_perform_233 (Or.inl rfl)
  · refine mp_t (s_tabIn (t := 218) (off := 211) dX6_perform_7 (by omega) (by rw [c8]; rfl) (by decide)) ?_
    refine mp_a (a_aload_n dX6_perform_218 rfl) (mpp 219 rfl ?_)
    refine mp_a (a_aload_n dX6_perform_219 rfl) (mpp 220 rfl ?_)
    refine mt_getU (i := 32) (k := 4) (A := 289) hT dX6_perform_220 rfl rl_0 (by decide) rfl (by decide) rfl un_8 (mpp 223 rfl ?_)
    refine mt_getI (i := 279) (k := 4) hT dX6_perform_223 rfl rl_289 (by decide) rfl (by decide) rfl (fun g149 g150 => mpp 226 rfl ?_)
    refine mt_callv (i := 306) (q' := q_57) (As := [.int (fv Po 289 4)]) (rest := []) hT dX6_perform_226 rfl qm_57 (by decide) rfl rl_0 (by decide) rfl (Nat.le_of_ble_eq_true rfl) rfl ⟨rfl, rfl⟩ ⟨Nat.le_of_ble_eq_true rfl, Nat.le_of_ble_eq_true rfl⟩ (EvP.mono (by decide) (c_F_drop hT hX hJ )) (fun r151 P152 g153 => mpp 229 rfl ?_)
    obtain ⟨⟨x154, rfl, g155⟩, hT156, k157, J160, R158⟩ := g153
    have k159 : KW [10, 11, 12, 65, 66, 67, 192, 193, 194, 256, 320, 385, 386, 640, 641, 704, 768, 1985, 1987, 2048, 2112, 2113, 2114] Po P152 := KW.trans KW.refl k157 rfl
    have wx154 := ti_full x154
    replace g155 : KPX Po P152 ∧ dropC Po P152 x154.toInt (fv Po 289 4).toInt := g155
    show MEvP _ none q_107 229 [(0, .ref 0)] [.int x154] _ _ _ _
    have u161 : KPX Po P152 ∧ PFC Po P152 x154.toInt (fv Po 289 3).toInt (fv Po 289 4).toInt (fv Po 289 5).toInt (fv Po 289 6).toInt (fv Po 289 7).toInt := ⟨g155.1, Or.inr (Or.inr (Or.inr (Or.inr (Or.inr (Or.inr (Or.inl (⟨by omega, g155.2⟩)))))))⟩
    exact mp_iret ⟨⟨_, rfl, u161⟩, hT156, k159, J160, trivial⟩ dX6_perform_229 (Or.inl rfl)

set_option maxHeartbeats 4000000 in
theorem c_F_read_l58 {Po : mP}  (hTo : Typ Po) (hX : XR Po) (hJo : Inj Po)  : ∀ (n : Nat) (v1 : Int32) (v2 : Int32) (v3 : Int32), ∀ (P : mP), Typ P → KW [9, 10, 11, 12, 65, 66, 67, 192, 193, 194, 256, 320, 385, 386, 387, 513, 514, 515, 516, 517, 518, 519, 640, 641, 704, 768, 1985, 1986, 1987, 2048, 2112, 2113, 2114] Po P → Inj P → ((0 ≤ v3.toInt ∧ ∀ (R : mP) (a : Int), TRD (chC Po) (fv Po 289 1).toInt (fv P 289 2).toInt P R a → TRD (chC Po) (fv Po 289 1).toInt 0 Po R a) ∨ (v3.toInt < 0 ∧ ∀ (R : mP) (a : Int), a < 0 → TRD (chC Po) (fv Po 289 1).toInt 0 Po R a)) → ((∀ j : Nat, fv P 290 j = fv Po 290 j) ∧ fv P 289 1 = fv Po 289 1) → (v3.toInt < 0 ∨ (fv Po 289 1).toInt ≤ (fv P 289 2).toInt ∨ TKT (chC Po) (fv Po 289 1).toInt (fv P 289 2).toInt) → (0 ≤ (fv P 289 2).toInt ∧ (fv P 289 2).toInt ≤ (fv Po 289 1).toInt ∧ 0 ≤ v2.toInt ∧ 2 * v2.toInt ≤ (fv P 289 2).toInt ∧ (fv Po 289 1).toInt ≤ 80) → ((fv P 79 3).toInt = 1) → ((∀ x j : Nat, (53 ≤ x ∧ x < 79) ∨ (80 ≤ x ∧ x < 289) → fv P x j = fv Po x j) ∧ fv P 79 1 = fv Po 79 1 ∧ fv P 79 2 = fv Po 79 2 ∧ fv P 0 8 = fv Po 0 8) → (SCn P 27 Po) → (2147483647 - v2.toInt).toNat = n → MEvP 6 none q_94 58 [(0, .ref 0), (1, .int v1), (2, .int v2), (3, .int v3)] [] P 0 0 (fun r P' => (∃ x : Int32, r = some (.int x) ∧ ((fv P' 289 1).toInt = 0)) ∧ Typ P' ∧ KW [9, 10, 11, 12, 65, 66, 67, 192, 193, 194, 256, 320, 385, 386, 387, 513, 514, 515, 516, 517, 518, 519, 640, 641, 704, 768, 1985, 1986, 1987, 2048, 2112, 2113, 2114] Po P' ∧ Inj P' ∧ True) := by
  intro n
  induction n using Nat.strongRecOn with | _ n ih => ?_
  intro v1 v2 v3 P hT hK hJ i_0 i_1 i_2 i_3 i_4 i_5 i_6 hm
  have w_v1 := ti_full v1
  have w_v2 := ti_full v2
  have w_v3 := ti_full v3
  have g1 := ti_full (fv P 289 2)
  have g2 := ti_full (fv P 289 2)
  refine mp_a (a_iload_n dX6_read_58 rfl) (mpp 59 rfl ?_)
  refine mp_a (a_bipush (v := 80) dX6_read_59 rfl) (mpp 61 rfl ?_)
  refine mp_Tb (t := 104) (j_icmp_ge dX6_read_61) (by decide) (fun c3 => ?_) (fun c3 => mpp 64 rfl ?_)
  · have c3 : v2.toInt ≥ 80 := ti_ge c3
    refine mp_a (a_aload_n dX6_read_104 rfl) (mpp 105 rfl ?_)
    refine mp_a (a_sipush (v := -1004) dX6_read_105 rfl) (mpp 108 rfl ?_)
    refine mt_putI (i := 57) (k := 9) (x := (-1004)) hT dX6_read_108 rfl rl_0 (by decide) rfl (by decide) rfl (by decide) rfl rfl (fun P4 hT5 f6 f7 f8 => mpp 111 rfl ?_)
    have k9 : KW [9, 10, 11, 12, 65, 66, 67, 192, 193, 194, 256, 320, 385, 386, 387, 513, 514, 515, 516, 517, 518, 519, 640, 641, 704, 768, 1985, 1986, 1987, 2048, 2112, 2113, 2114] Po P4 := KW.step hK rl_0 rfl f7 f8
    have J10 := Inj.st hJ f8
    have e11 : (fv P4 0 9).toInt = (-1004) := congrArg Int32.toInt f6
    refine mp_a (a_aload_n dX6_read_111 rfl) (mpp 112 rfl ?_)
    refine mt_getU (i := 25) (k := 3) (A := 79) hT5 dX6_read_112 rfl rl_0 (by decide) rfl (by decide) rfl un_6 (mpp 115 rfl ?_)
    refine mp_a (a_iconst (v := 0) dX6_read_115 rfl) (mpp 116 rfl ?_)
    refine mt_putI (i := 230) (k := 3) (x := 0) hT5 dX6_read_116 rfl rl_79 (by decide) rfl (by decide) rfl (by decide) rfl rfl (fun P12 hT13 f14 f15 f16 => mpp 119 rfl ?_)
    have k17 : KW [9, 10, 11, 12, 65, 66, 67, 192, 193, 194, 256, 320, 385, 386, 387, 513, 514, 515, 516, 517, 518, 519, 640, 641, 704, 768, 1985, 1986, 1987, 2048, 2112, 2113, 2114] Po P12 := KW.step k9 rl_79 rfl f15 f16
    have J18 := Inj.st J10 f16
    have e19 : (fv P12 79 3).toInt = 0 := congrArg Int32.toInt f14
    refine mp_a (a_aload_n dX6_read_119 rfl) (mpp 120 rfl ?_)
    refine mt_getU (i := 32) (k := 4) (A := 289) hT13 dX6_read_120 rfl rl_0 (by decide) rfl (by decide) rfl un_8 (mpp 123 rfl ?_)
    refine mt_callv (i := 225) (q' := q_106) (As := []) (rest := []) hT13 dX6_read_123 rfl qm_106 (by decide) rfl rl_289 (by decide) rfl (Nat.le_of_ble_eq_true rfl) rfl ⟨rfl, rfl⟩ ⟨Nat.le_of_ble_eq_true rfl, Nat.le_of_ble_eq_true rfl⟩ (EvP.mono (by decide) (c_CS_clear_Script hT13 (KW.xr k17 hX) )) (fun r20 P21 g22 => mpp 126 rfl ?_)
    obtain ⟨⟨rfl, g24⟩, hT25, k26, R27⟩ := g22
    have k28 : KW [9, 10, 11, 12, 65, 66, 67, 192, 193, 194, 256, 320, 385, 386, 387, 513, 514, 515, 516, 517, 518, 519, 640, 641, 704, 768, 1985, 1986, 1987, 2048, 2112, 2113, 2114] Po P21 := KW.trans k17 k26 rfl
    have J30 := Inj.kw J18 k26 rfl
    replace g24 : (fv P21 289 1).toInt = 0 := g24
    have g31 : (0 : Int) ≤ (fv P21 289 1).toInt ∧ (fv P21 289 1).toInt ≤ 80 := Typ.rng hT25 rl_289 (by decide) (by decide) rfl
    show MEvP _ none q_94 126 [(0, .ref 0), (1, .int v1), (2, .int v2), (3, .int v3)] [] _ _ _ _
    refine mp_a (a_iload_n dX6_read_126 rfl) (mpp 127 rfl ?_)
    refine mp_Tb (t := 158) (j_if_ge dX6_read_127) (by decide) (fun c32 => ?_) (fun c32 => mpp 130 rfl ?_)
    · have c32 : v3.toInt ≥ 0 := ti_ge c32
      refine mp_a (a_aload_n dX6_read_158 rfl) (mpp 159 rfl ?_)
      refine mt_getU (i := 25) (k := 3) (A := 79) hT25 dX6_read_159 rfl rl_0 (by decide) rfl (by decide) rfl un_6 (mpp 162 rfl ?_)
      refine mp_a (a_aload_n dX6_read_162 rfl) (mpp 163 rfl ?_)
      refine mt_getE (i := 16) (k := 1) hT25 dX6_read_163 rfl rl_0 (by decide) rfl (by decide) rfl (KW.xr k28 hX).2.2.2.1 (fun q33 => mpp 166 rfl ?_)
      have p34 : 27 + 26 ≤ 81 := by omega
      refine mt_callv (i := 72) (q' := q_15) (As := [.ref 27]) (rest := []) hT25 dX6_read_166 rfl qm_15 (by decide) rfl rl_79 (by decide) rfl (Nat.le_of_ble_eq_true rfl) rfl ⟨rfl, rfl⟩ ⟨Nat.le_of_ble_eq_true rfl, Nat.le_of_ble_eq_true rfl⟩ (EvP.mono (by decide) (c_CH_push_History_State hT25 (KW.xr k28 hX) J30 p34 q33)) (fun r35 P36 g37 => mpp 169 rfl ?_)
      obtain ⟨⟨rfl, g39⟩, hT40, k41, J44, R42⟩ := g37
      have k43 : KW [9, 10, 11, 12, 65, 66, 67, 192, 193, 194, 256, 320, 385, 386, 387, 513, 514, 515, 516, 517, 518, 519, 640, 641, 704, 768, 1985, 1986, 1987, 2048, 2112, 2113, 2114] Po P36 := KW.trans k28 k41 rfl
      show MEvP _ none q_94 169 [(0, .ref 0), (1, .int v1), (2, .int v2), (3, .int v3)] [] _ _ _ _
      refine mp_a (a_iload_n dX6_read_169 rfl) (mpp 170 rfl ?_)
      have e45 : (fv P36 289 1).toInt = (fv P21 289 1).toInt := congrArg Int32.toInt (KW.at k41 1 rl_289 rfl)
      have u46 : (fv P36 289 1).toInt = 0 := by omega
      exact mp_iret ⟨⟨_, rfl, u46⟩, hT40, k43, J44, trivial⟩ dX6_read_170 (Or.inl rfl)
    · have c32 : v3.toInt < 0 := ti_ge_n c32
      refine mp_a (a_aload_n dX6_read_130 rfl) (mpp 131 rfl ?_)
      refine mt_getU (i := 10) (k := 0) (A := 1) hT25 dX6_read_131 rfl rl_0 (by decide) rfl (by decide) rfl un_31 (mpp 134 rfl ?_)
      refine mp_a (a_aload_n dX6_read_134 rfl) (mpp 135 rfl ?_)
      refine mt_getE (i := 16) (k := 1) hT25 dX6_read_135 rfl rl_0 (by decide) rfl (by decide) rfl (KW.xr k28 hX).2.2.2.1 (fun q47 => mpp 138 rfl ?_)
      refine mt_callv (i := 228) (q' := q_17) (As := [.ref 27]) (rest := []) hT25 dX6_read_138 rfl qm_17 (by decide) rfl rl_1 (by decide) rfl (Nat.le_of_ble_eq_true rfl) rfl ⟨rfl, rfl⟩ ⟨Nat.le_of_ble_eq_true rfl, Nat.le_of_ble_eq_true rfl⟩ (EvP.mono (by decide) (c_CS_copyFrom_NState_State hT25 (KW.xr k28 hX) J30 q47)) (fun r48 P49 g50 => mpp 141 rfl ?_)
      obtain ⟨⟨rfl, g52⟩, hT53, k54, J57, R55⟩ := g50
      have k56 : KW [9, 10, 11, 12, 65, 66, 67, 192, 193, 194, 256, 320, 385, 386, 387, 513, 514, 515, 516, 517, 518, 519, 640, 641, 704, 768, 1985, 1986, 1987, 2048, 2112, 2113, 2114] Po P49 := KW.trans k28 k54 rfl
      show MEvP _ none q_94 141 [(0, .ref 0), (1, .int v1), (2, .int v2), (3, .int v3)] [] _ _ _ _
      refine mp_a (a_iload_n dX6_read_141 rfl) (mpp 142 rfl ?_)
      refine mp_a (a_sipush (v := -1003) dX6_read_142 rfl) (mpp 145 rfl ?_)
      refine mp_Tb (t := 154) (j_icmp_ne dX6_read_145) (by decide) (fun c58 => ?_) (fun c58 => mpp 148 rfl ?_)
      · have c58 : v3.toInt ≠ (-1003) := ti_ne c58
        refine mp_a (a_sipush (v := -1002) dX6_read_154 rfl) (mpp 157 rfl ?_)
        have e59 : (fv P49 289 1).toInt = (fv P21 289 1).toInt := congrArg Int32.toInt (KW.at k54 1 rl_289 rfl)
        have u60 : (fv P49 289 1).toInt = 0 := by omega
        exact mp_iret ⟨⟨_, rfl, u60⟩, hT53, k56, J57, trivial⟩ dX6_read_157 (Or.inl rfl)
      · have c58 : v3.toInt = (-1003) := ti_ne_n c58
        refine mp_a (a_sipush (v := -1003) dX6_read_148 rfl) (mpp 151 rfl ?_)
        refine mp_a (a_goto (t := 157) dX6_read_151 (by decide)) ?_
        have e61 : (fv P49 289 1).toInt = (fv P21 289 1).toInt := congrArg Int32.toInt (KW.at k54 1 rl_289 rfl)
        have u62 : (fv P49 289 1).toInt = 0 := by omega
        exact mp_iret ⟨⟨_, rfl, u62⟩, hT53, k56, J57, trivial⟩ dX6_read_157 (Or.inl rfl)
  · have c3 : v2.toInt < 80 := ti_ge_n c3
    refine mp_a (a_iload_n dX6_read_64 rfl) (mpp 65 rfl ?_)
    refine mp_Tb (t := 104) (j_if_lt dX6_read_65) (by decide) (fun c63 => ?_) (fun c63 => mpp 68 rfl ?_)
    · have c63 : v3.toInt < 0 := ti_lt c63
      refine mp_a (a_aload_n dX6_read_104 rfl) (mpp 105 rfl ?_)
      refine mp_a (a_sipush (v := -1004) dX6_read_105 rfl) (mpp 108 rfl ?_)
      refine mt_putI (i := 57) (k := 9) (x := (-1004)) hT dX6_read_108 rfl rl_0 (by decide) rfl (by decide) rfl (by decide) rfl rfl (fun P64 hT65 f66 f67 f68 => mpp 111 rfl ?_)
      have k69 : KW [9, 10, 11, 12, 65, 66, 67, 192, 193, 194, 256, 320, 385, 386, 387, 513, 514, 515, 516, 517, 518, 519, 640, 641, 704, 768, 1985, 1986, 1987, 2048, 2112, 2113, 2114] Po P64 := KW.step hK rl_0 rfl f67 f68
      have J70 := Inj.st hJ f68
      have e71 : (fv P64 0 9).toInt = (-1004) := congrArg Int32.toInt f66
      refine mp_a (a_aload_n dX6_read_111 rfl) (mpp 112 rfl ?_)
      refine mt_getU (i := 25) (k := 3) (A := 79) hT65 dX6_read_112 rfl rl_0 (by decide) rfl (by decide) rfl un_6 (mpp 115 rfl ?_)
      refine mp_a (a_iconst (v := 0) dX6_read_115 rfl) (mpp 116 rfl ?_)
      refine mt_putI (i := 230) (k := 3) (x := 0) hT65 dX6_read_116 rfl rl_79 (by decide) rfl (by decide) rfl (by decide) rfl rfl (fun P72 hT73 f74 f75 f76 => mpp 119 rfl ?_)
      have k77 : KW [9, 10, 11, 12, 65, 66, 67, 192, 193, 194, 256, 320, 385, 386, 387, 513, 514, 515, 516, 517, 518, 519, 640, 641, 704, 768, 1985, 1986, 1987, 2048, 2112, 2113, 2114] Po P72 := KW.step k69 rl_79 rfl f75 f76
      have J78 := Inj.st J70 f76
      have e79 : (fv P72 79 3).toInt = 0 := congrArg Int32.toInt f74
      refine mp_a (a_aload_n dX6_read_119 rfl) (mpp 120 rfl ?_)
      refine mt_getU (i := 32) (k := 4) (A := 289) hT73 dX6_read_120 rfl rl_0 (by decide) rfl (by decide) rfl un_8 (mpp 123 rfl ?_)
      refine mt_callv (i := 225) (q' := q_106) (As := []) (rest := []) hT73 dX6_read_123 rfl qm_106 (by decide) rfl rl_289 (by decide) rfl (Nat.le_of_ble_eq_true rfl) rfl ⟨rfl, rfl⟩ ⟨Nat.le_of_ble_eq_true rfl, Nat.le_of_ble_eq_true rfl⟩ (EvP.mono (by decide) (c_CS_clear_Script hT73 (KW.xr k77 hX) )) (fun r80 P81 g82 => mpp 126 rfl ?_)
      obtain ⟨⟨rfl, g84⟩, hT85, k86, R87⟩ := g82
      have k88 : KW [9, 10, 11, 12, 65, 66, 67, 192, 193, 194, 256, 320, 385, 386, 387, 513, 514, 515, 516, 517, 518, 519, 640, 641, 704, 768, 1985, 1986, 1987, 2048, 2112, 2113, 2114] Po P81 := KW.trans k77 k86 rfl
      have J90 := Inj.kw J78 k86 rfl
      replace g84 : (fv P81 289 1).toInt = 0 := g84
      have g91 : (0 : Int) ≤ (fv P81 289 1).toInt ∧ (fv P81 289 1).toInt ≤ 80 := Typ.rng hT85 rl_289 (by decide) (by decide) rfl
      show MEvP _ none q_94 126 [(0, .ref 0), (1, .int v1), (2, .int v2), (3, .int v3)] [] _ _ _ _
      refine mp_a (a_iload_n dX6_read_126 rfl) (mpp 127 rfl ?_)
      refine mp_Tb (t := 158) (j_if_ge dX6_read_127) (by decide) (fun c92 => ?_) (fun c92 => mpp 130 rfl ?_)
      · have c92 : v3.toInt ≥ 0 := ti_ge c92
        refine mp_a (a_aload_n dX6_read_158 rfl) (mpp 159 rfl ?_)
        refine mt_getU (i := 25) (k := 3) (A := 79) hT85 dX6_read_159 rfl rl_0 (by decide) rfl (by decide) rfl un_6 (mpp 162 rfl ?_)
        refine mp_a (a_aload_n dX6_read_162 rfl) (mpp 163 rfl ?_)
        refine mt_getE (i := 16) (k := 1) hT85 dX6_read_163 rfl rl_0 (by decide) rfl (by decide) rfl (KW.xr k88 hX).2.2.2.1 (fun q93 => mpp 166 rfl ?_)
        have p94 : 27 + 26 ≤ 81 := by omega
        refine mt_callv (i := 72) (q' := q_15) (As := [.ref 27]) (rest := []) hT85 dX6_read_166 rfl qm_15 (by decide) rfl rl_79 (by decide) rfl (Nat.le_of_ble_eq_true rfl) rfl ⟨rfl, rfl⟩ ⟨Nat.le_of_ble_eq_true rfl, Nat.le_of_ble_eq_true rfl⟩ (EvP.mono (by decide) (c_CH_push_History_State hT85 (KW.xr k88 hX) J90 p94 q93)) (fun r95 P96 g97 => mpp 169 rfl ?_)
        obtain ⟨⟨rfl, g99⟩, hT100, k101, J104, R102⟩ := g97
        have k103 : KW [9, 10, 11, 12, 65, 66, 67, 192, 193, 194, 256, 320, 385, 386, 387, 513, 514, 515, 516, 517, 518, 519, 640, 641, 704, 768, 1985, 1986, 1987, 2048, 2112, 2113, 2114] Po P96 := KW.trans k88 k101 rfl
        show MEvP _ none q_94 169 [(0, .ref 0), (1, .int v1), (2, .int v2), (3, .int v3)] [] _ _ _ _
        refine mp_a (a_iload_n dX6_read_169 rfl) (mpp 170 rfl ?_)
        have e105 : (fv P96 289 1).toInt = (fv P81 289 1).toInt := congrArg Int32.toInt (KW.at k101 1 rl_289 rfl)
        have u106 : (fv P96 289 1).toInt = 0 := by omega
        exact mp_iret ⟨⟨_, rfl, u106⟩, hT100, k103, J104, trivial⟩ dX6_read_170 (Or.inl rfl)
      · have c92 : v3.toInt < 0 := ti_ge_n c92
        refine mp_a (a_aload_n dX6_read_130 rfl) (mpp 131 rfl ?_)
        refine mt_getU (i := 10) (k := 0) (A := 1) hT85 dX6_read_131 rfl rl_0 (by decide) rfl (by decide) rfl un_31 (mpp 134 rfl ?_)
        refine mp_a (a_aload_n dX6_read_134 rfl) (mpp 135 rfl ?_)
        refine mt_getE (i := 16) (k := 1) hT85 dX6_read_135 rfl rl_0 (by decide) rfl (by decide) rfl (KW.xr k88 hX).2.2.2.1 (fun q107 => mpp 138 rfl ?_)
        refine mt_callv (i := 228) (q' := q_17) (As := [.ref 27]) (rest := []) hT85 dX6_read_138 rfl qm_17 (by decide) rfl rl_1 (by decide) rfl (Nat.le_of_ble_eq_true rfl) rfl ⟨rfl, rfl⟩ ⟨Nat.le_of_ble_eq_true rfl, Nat.le_of_ble_eq_true rfl⟩ (EvP.mono (by decide) (c_CS_copyFrom_NState_State hT85 (KW.xr k88 hX) J90 q107)) (fun r108 P109 g110 => mpp 141 rfl ?_)
        obtain ⟨⟨rfl, g112⟩, hT113, k114, J117, R115⟩ := g110
        have k116 : KW [9, 10, 11, 12, 65, 66, 67, 192, 193, 194, 256, 320, 385, 386, 387, 513, 514, 515, 516, 517, 518, 519, 640, 641, 704, 768, 1985, 1986, 1987, 2048, 2112, 2113, 2114] Po P109 := KW.trans k88 k114 rfl
        show MEvP _ none q_94 141 [(0, .ref 0), (1, .int v1), (2, .int v2), (3, .int v3)] [] _ _ _ _
        refine mp_a (a_iload_n dX6_read_141 rfl) (mpp 142 rfl ?_)
        refine mp_a (a_sipush (v := -1003) dX6_read_142 rfl) (mpp 145 rfl ?_)
        refine mp_Tb (t := 154) (j_icmp_ne dX6_read_145) (by decide) (fun c118 => ?_) (fun c118 => mpp 148 rfl ?_)
        · have c118 : v3.toInt ≠ (-1003) := ti_ne c118
          refine mp_a (a_sipush (v := -1002) dX6_read_154 rfl) (mpp 157 rfl ?_)
          have e119 : (fv P109 289 1).toInt = (fv P81 289 1).toInt := congrArg Int32.toInt (KW.at k114 1 rl_289 rfl)
          have u120 : (fv P109 289 1).toInt = 0 := by omega
          exact mp_iret ⟨⟨_, rfl, u120⟩, hT113, k116, J117, trivial⟩ dX6_read_157 (Or.inl rfl)
        · have c118 : v3.toInt = (-1003) := ti_ne_n c118
          refine mp_a (a_sipush (v := -1003) dX6_read_148 rfl) (mpp 151 rfl ?_)
          refine mp_a (a_goto (t := 157) dX6_read_151 (by decide)) ?_
          have e121 : (fv P109 289 1).toInt = (fv P81 289 1).toInt := congrArg Int32.toInt (KW.at k114 1 rl_289 rfl)
          have u122 : (fv P109 289 1).toInt = 0 := by omega
          exact mp_iret ⟨⟨_, rfl, u122⟩, hT113, k116, J117, trivial⟩ dX6_read_157 (Or.inl rfl)
    · have c63 : v3.toInt ≥ 0 := ti_lt_n c63
      refine mp_a (a_aload_n dX6_read_68 rfl) (mpp 69 rfl ?_)
      refine mt_getU (i := 32) (k := 4) (A := 289) hT dX6_read_69 rfl rl_0 (by decide) rfl (by decide) rfl un_8 (mpp 72 rfl ?_)
      have p123 : 0 ≤ (fv P 289 2).toInt := by omega
      refine mt_callv (i := 236) (q' := q_97) (As := []) (rest := []) hT dX6_read_72 rfl qm_97 (by decide) rfl rl_289 (by decide) rfl (Nat.le_of_ble_eq_true rfl) rfl ⟨rfl, rfl⟩ ⟨Nat.le_of_ble_eq_true rfl, Nat.le_of_ble_eq_true rfl⟩ (EvP.mono (by decide) (c_CS_takeCommand_Script hT (KW.xr hK hX) p123 )) (fun r124 P125 g126 => mpp 75 rfl ?_)
      obtain ⟨⟨x127, rfl, g128⟩, hT129, k130, R131⟩ := g126
      have k132 : KW [9, 10, 11, 12, 65, 66, 67, 192, 193, 194, 256, 320, 385, 386, 387, 513, 514, 515, 516, 517, 518, 519, 640, 641, 704, 768, 1985, 1986, 1987, 2048, 2112, 2113, 2114] Po P125 := KW.trans hK k130 rfl
      have J134 := Inj.kw hJ k130 rfl
      have wx127 := ti_full x127
      replace g128 : 0 ≤ x127.toInt ∧ x127.toInt ≤ 1 ∧ (0 ≤ (fv P125 289 2).toInt ∧ ((x127.toInt = 1 ∧ CMD (chC P) (fv P 289 2).toInt (fv P125 289 2).toInt (fv P125 289 3).toInt (fv P125 289 4).toInt (fv P125 289 5).toInt (fv P125 289 6).toInt (fv P125 289 7).toInt) ∨ (x127.toInt = 0 ∧ ¬ CMO (chC P) (fv P 289 2).toInt))) := g128
      have g135 := ti_full (fv P125 289 2)
      have g136 := ti_full (fv P125 289 2)
      have g137 := ti_full (fv P125 289 3)
      have g138 := ti_full (fv P125 289 4)
      have g139 := ti_full (fv P125 289 5)
      have g140 := ti_full (fv P125 289 6)
      have g141 := ti_full (fv P125 289 7)
      show MEvP _ none q_94 75 [(0, .ref 0), (1, .int v1), (2, .int v2), (3, .int v3)] [.int x127] _ _ _ _
      refine mp_Tb (t := 104) (j_if_eq dX6_read_75) (by decide) (fun c142 => ?_) (fun c142 => mpp 78 rfl ?_)
      · have c142 : x127.toInt = 0 := ti_eq c142
        refine mp_a (a_aload_n dX6_read_104 rfl) (mpp 105 rfl ?_)
        refine mp_a (a_sipush (v := -1004) dX6_read_105 rfl) (mpp 108 rfl ?_)
        refine mt_putI (i := 57) (k := 9) (x := (-1004)) hT129 dX6_read_108 rfl rl_0 (by decide) rfl (by decide) rfl (by decide) rfl rfl (fun P143 hT144 f145 f146 f147 => mpp 111 rfl ?_)
        have k148 : KW [9, 10, 11, 12, 65, 66, 67, 192, 193, 194, 256, 320, 385, 386, 387, 513, 514, 515, 516, 517, 518, 519, 640, 641, 704, 768, 1985, 1986, 1987, 2048, 2112, 2113, 2114] Po P143 := KW.step k132 rl_0 rfl f146 f147
        have J149 := Inj.st J134 f147
        have e150 : (fv P143 0 9).toInt = (-1004) := congrArg Int32.toInt f145
        refine mp_a (a_aload_n dX6_read_111 rfl) (mpp 112 rfl ?_)
        refine mt_getU (i := 25) (k := 3) (A := 79) hT144 dX6_read_112 rfl rl_0 (by decide) rfl (by decide) rfl un_6 (mpp 115 rfl ?_)
        refine mp_a (a_iconst (v := 0) dX6_read_115 rfl) (mpp 116 rfl ?_)
        refine mt_putI (i := 230) (k := 3) (x := 0) hT144 dX6_read_116 rfl rl_79 (by decide) rfl (by decide) rfl (by decide) rfl rfl (fun P151 hT152 f153 f154 f155 => mpp 119 rfl ?_)
        have k156 : KW [9, 10, 11, 12, 65, 66, 67, 192, 193, 194, 256, 320, 385, 386, 387, 513, 514, 515, 516, 517, 518, 519, 640, 641, 704, 768, 1985, 1986, 1987, 2048, 2112, 2113, 2114] Po P151 := KW.step k148 rl_79 rfl f154 f155
        have J157 := Inj.st J149 f155
        have e158 : (fv P151 79 3).toInt = 0 := congrArg Int32.toInt f153
        refine mp_a (a_aload_n dX6_read_119 rfl) (mpp 120 rfl ?_)
        refine mt_getU (i := 32) (k := 4) (A := 289) hT152 dX6_read_120 rfl rl_0 (by decide) rfl (by decide) rfl un_8 (mpp 123 rfl ?_)
        refine mt_callv (i := 225) (q' := q_106) (As := []) (rest := []) hT152 dX6_read_123 rfl qm_106 (by decide) rfl rl_289 (by decide) rfl (Nat.le_of_ble_eq_true rfl) rfl ⟨rfl, rfl⟩ ⟨Nat.le_of_ble_eq_true rfl, Nat.le_of_ble_eq_true rfl⟩ (EvP.mono (by decide) (c_CS_clear_Script hT152 (KW.xr k156 hX) )) (fun r159 P160 g161 => mpp 126 rfl ?_)
        obtain ⟨⟨rfl, g163⟩, hT164, k165, R166⟩ := g161
        have k167 : KW [9, 10, 11, 12, 65, 66, 67, 192, 193, 194, 256, 320, 385, 386, 387, 513, 514, 515, 516, 517, 518, 519, 640, 641, 704, 768, 1985, 1986, 1987, 2048, 2112, 2113, 2114] Po P160 := KW.trans k156 k165 rfl
        have J169 := Inj.kw J157 k165 rfl
        replace g163 : (fv P160 289 1).toInt = 0 := g163
        have g170 : (0 : Int) ≤ (fv P160 289 1).toInt ∧ (fv P160 289 1).toInt ≤ 80 := Typ.rng hT164 rl_289 (by decide) (by decide) rfl
        show MEvP _ none q_94 126 [(0, .ref 0), (1, .int v1), (2, .int v2), (3, .int v3)] [] _ _ _ _
        refine mp_a (a_iload_n dX6_read_126 rfl) (mpp 127 rfl ?_)
        refine mp_Tb (t := 158) (j_if_ge dX6_read_127) (by decide) (fun c171 => ?_) (fun c171 => mpp 130 rfl ?_)
        · have c171 : v3.toInt ≥ 0 := ti_ge c171
          refine mp_a (a_aload_n dX6_read_158 rfl) (mpp 159 rfl ?_)
          refine mt_getU (i := 25) (k := 3) (A := 79) hT164 dX6_read_159 rfl rl_0 (by decide) rfl (by decide) rfl un_6 (mpp 162 rfl ?_)
          refine mp_a (a_aload_n dX6_read_162 rfl) (mpp 163 rfl ?_)
          refine mt_getE (i := 16) (k := 1) hT164 dX6_read_163 rfl rl_0 (by decide) rfl (by decide) rfl (KW.xr k167 hX).2.2.2.1 (fun q172 => mpp 166 rfl ?_)
          have p173 : 27 + 26 ≤ 81 := by omega
          refine mt_callv (i := 72) (q' := q_15) (As := [.ref 27]) (rest := []) hT164 dX6_read_166 rfl qm_15 (by decide) rfl rl_79 (by decide) rfl (Nat.le_of_ble_eq_true rfl) rfl ⟨rfl, rfl⟩ ⟨Nat.le_of_ble_eq_true rfl, Nat.le_of_ble_eq_true rfl⟩ (EvP.mono (by decide) (c_CH_push_History_State hT164 (KW.xr k167 hX) J169 p173 q172)) (fun r174 P175 g176 => mpp 169 rfl ?_)
          obtain ⟨⟨rfl, g178⟩, hT179, k180, J183, R181⟩ := g176
          have k182 : KW [9, 10, 11, 12, 65, 66, 67, 192, 193, 194, 256, 320, 385, 386, 387, 513, 514, 515, 516, 517, 518, 519, 640, 641, 704, 768, 1985, 1986, 1987, 2048, 2112, 2113, 2114] Po P175 := KW.trans k167 k180 rfl
          show MEvP _ none q_94 169 [(0, .ref 0), (1, .int v1), (2, .int v2), (3, .int v3)] [] _ _ _ _
          refine mp_a (a_iload_n dX6_read_169 rfl) (mpp 170 rfl ?_)
          have e184 : (fv P175 289 1).toInt = (fv P160 289 1).toInt := congrArg Int32.toInt (KW.at k180 1 rl_289 rfl)
          have u185 : (fv P175 289 1).toInt = 0 := by omega
          exact mp_iret ⟨⟨_, rfl, u185⟩, hT179, k182, J183, trivial⟩ dX6_read_170 (Or.inl rfl)
        · have c171 : v3.toInt < 0 := ti_ge_n c171
          refine mp_a (a_aload_n dX6_read_130 rfl) (mpp 131 rfl ?_)
          refine mt_getU (i := 10) (k := 0) (A := 1) hT164 dX6_read_131 rfl rl_0 (by decide) rfl (by decide) rfl un_31 (mpp 134 rfl ?_)
          refine mp_a (a_aload_n dX6_read_134 rfl) (mpp 135 rfl ?_)
          refine mt_getE (i := 16) (k := 1) hT164 dX6_read_135 rfl rl_0 (by decide) rfl (by decide) rfl (KW.xr k167 hX).2.2.2.1 (fun q186 => mpp 138 rfl ?_)
          refine mt_callv (i := 228) (q' := q_17) (As := [.ref 27]) (rest := []) hT164 dX6_read_138 rfl qm_17 (by decide) rfl rl_1 (by decide) rfl (Nat.le_of_ble_eq_true rfl) rfl ⟨rfl, rfl⟩ ⟨Nat.le_of_ble_eq_true rfl, Nat.le_of_ble_eq_true rfl⟩ (EvP.mono (by decide) (c_CS_copyFrom_NState_State hT164 (KW.xr k167 hX) J169 q186)) (fun r187 P188 g189 => mpp 141 rfl ?_)
          obtain ⟨⟨rfl, g191⟩, hT192, k193, J196, R194⟩ := g189
          have k195 : KW [9, 10, 11, 12, 65, 66, 67, 192, 193, 194, 256, 320, 385, 386, 387, 513, 514, 515, 516, 517, 518, 519, 640, 641, 704, 768, 1985, 1986, 1987, 2048, 2112, 2113, 2114] Po P188 := KW.trans k167 k193 rfl
          show MEvP _ none q_94 141 [(0, .ref 0), (1, .int v1), (2, .int v2), (3, .int v3)] [] _ _ _ _
          refine mp_a (a_iload_n dX6_read_141 rfl) (mpp 142 rfl ?_)
          refine mp_a (a_sipush (v := -1003) dX6_read_142 rfl) (mpp 145 rfl ?_)
          refine mp_Tb (t := 154) (j_icmp_ne dX6_read_145) (by decide) (fun c197 => ?_) (fun c197 => mpp 148 rfl ?_)
          · have c197 : v3.toInt ≠ (-1003) := ti_ne c197
            refine mp_a (a_sipush (v := -1002) dX6_read_154 rfl) (mpp 157 rfl ?_)
            have e198 : (fv P188 289 1).toInt = (fv P160 289 1).toInt := congrArg Int32.toInt (KW.at k193 1 rl_289 rfl)
            have u199 : (fv P188 289 1).toInt = 0 := by omega
            exact mp_iret ⟨⟨_, rfl, u199⟩, hT192, k195, J196, trivial⟩ dX6_read_157 (Or.inl rfl)
          · have c197 : v3.toInt = (-1003) := ti_ne_n c197
            refine mp_a (a_sipush (v := -1003) dX6_read_148 rfl) (mpp 151 rfl ?_)
            refine mp_a (a_goto (t := 157) dX6_read_151 (by decide)) ?_
            have e200 : (fv P188 289 1).toInt = (fv P160 289 1).toInt := congrArg Int32.toInt (KW.at k193 1 rl_289 rfl)
            have u201 : (fv P188 289 1).toInt = 0 := by omega
            exact mp_iret ⟨⟨_, rfl, u201⟩, hT192, k195, J196, trivial⟩ dX6_read_157 (Or.inl rfl)
      · have c142 : x127.toInt ≠ 0 := ti_eq_n c142
        refine mp_a (a_aload_n dX6_read_78 rfl) (mpp 79 rfl ?_)
        refine mp_a (a_iload_n dX6_read_79 rfl) (mpp 80 rfl ?_)
        refine mt_putI (i := 57) (k := 9) (x := v2) hT129 dX6_read_80 rfl rl_0 (by decide) rfl (by decide) rfl (ti_full v2) rfl rfl (fun P202 hT203 f204 f205 f206 => mpp 83 rfl ?_)
        have k207 : KW [9, 10, 11, 12, 65, 66, 67, 192, 193, 194, 256, 320, 385, 386, 387, 513, 514, 515, 516, 517, 518, 519, 640, 641, 704, 768, 1985, 1986, 1987, 2048, 2112, 2113, 2114] Po P202 := KW.step k132 rl_0 rfl f205 f206
        have J208 := Inj.st J134 f206
        have e209 : (fv P202 0 9).toInt = v2.toInt := congrArg Int32.toInt f204
        refine mp_a (a_aload_n dX6_read_83 rfl) (mpp 84 rfl ?_)
        refine mt_callv (i := 239) (q' := q_107) (As := []) (rest := []) hT203 dX6_read_84 rfl qm_107 (by decide) rfl rl_0 (by decide) rfl (Nat.le_of_ble_eq_true rfl) rfl ⟨rfl, rfl⟩ ⟨Nat.le_of_ble_eq_true rfl, Nat.le_of_ble_eq_true rfl⟩ (EvP.mono (by decide) (c_F_perform hT203 (KW.xr k207 hX) J208 )) (fun r210 P211 g212 => mpp 87 rfl ?_)
        obtain ⟨⟨x213, rfl, g214⟩, hT215, k216, J219, R217⟩ := g212
        have k218 : KW [9, 10, 11, 12, 65, 66, 67, 192, 193, 194, 256, 320, 385, 386, 387, 513, 514, 515, 516, 517, 518, 519, 640, 641, 704, 768, 1985, 1986, 1987, 2048, 2112, 2113, 2114] Po P211 := KW.trans k207 k216 rfl
        have wx213 := ti_full x213
        replace g214 : KPX P202 P211 ∧ PFC P202 P211 x213.toInt (fv P202 289 3).toInt (fv P202 289 4).toInt (fv P202 289 5).toInt (fv P202 289 6).toInt (fv P202 289 7).toInt := g214
        have e220 : (fv P202 289 3).toInt = (fv P125 289 3).toInt := congrArg Int32.toInt (f205 289 3 (ne_r rl_289 rl_0 rfl))
        have e221 : (fv P202 289 4).toInt = (fv P125 289 4).toInt := congrArg Int32.toInt (f205 289 4 (ne_r rl_289 rl_0 rfl))
        have e222 : (fv P202 289 5).toInt = (fv P125 289 5).toInt := congrArg Int32.toInt (f205 289 5 (ne_r rl_289 rl_0 rfl))
        have e223 : (fv P202 289 6).toInt = (fv P125 289 6).toInt := congrArg Int32.toInt (f205 289 6 (ne_r rl_289 rl_0 rfl))
        have e224 : (fv P202 289 7).toInt = (fv P125 289 7).toInt := congrArg Int32.toInt (f205 289 7 (ne_r rl_289 rl_0 rfl))
        show MEvP _ none q_94 87 [(0, .ref 0), (1, .int v1), (2, .int v2), (3, .int v3)] [.int x213] _ _ _ _
        refine mp_a (a_istore_n (L' := [(3, .int x213), (0, .ref 0), (1, .int v1), (2, .int v2)]) dX6_read_87 (by decide) rfl) (mpp 88 rfl ?_)
        obtain ⟨z225, h226⟩ := ti_ex (v2 + 1 : Int32)
        have wz225 := ti_full z225
        refine mp_a (a_iinc (v := z225) (L' := [(2, .int z225), (3, .int x213), (0, .ref 0), (1, .int v1)]) dX6_read_88 (by decide) rfl h226 rfl) (mpp 91 rfl ?_)
        try have e227 : z225.toInt = v2.toInt + 1 := ti_addz h226 rfl rfl (by omega) (by omega)
        refine mp_a (a_aload_n dX6_read_91 rfl) (mpp 92 rfl ?_)
        refine mt_getU (i := 32) (k := 4) (A := 289) hT215 dX6_read_92 rfl rl_0 (by decide) rfl (by decide) rfl un_8 (mpp 95 rfl ?_)
        refine mp_a (a_bipush (v := 59) dX6_read_95 rfl) (mpp 97 rfl ?_)
        have e228 : (fv P211 289 2).toInt = (fv P125 289 2).toInt := congrArg Int32.toInt ((KW.at k216 2 rl_289 rfl).trans (f205 289 2 (ne_r rl_289 rl_0 rfl)))
        have p229 : 0 ≤ (fv P211 289 2).toInt := by omega
        have p230 : 1 ≤ (59 : Int) := by omega
        refine mt_callv (i := 242) (q' := q_100) (As := [.int 59]) (rest := []) hT215 dX6_read_97 rfl qm_100 (by decide) rfl rl_289 (by decide) rfl (Nat.le_of_ble_eq_true rfl) rfl ⟨rfl, rfl⟩ ⟨Nat.le_of_ble_eq_true rfl, Nat.le_of_ble_eq_true rfl⟩ (EvP.mono (by decide) (c_CS_takeSign_Script hT215 (KW.xr k218 hX) p229 p230 )) (fun r231 P232 g233 => mpp 100 rfl ?_)
        obtain ⟨⟨x234, rfl, g235⟩, hT236, k237, R238⟩ := g233
        have k239 : KW [9, 10, 11, 12, 65, 66, 67, 192, 193, 194, 256, 320, 385, 386, 387, 513, 514, 515, 516, 517, 518, 519, 640, 641, 704, 768, 1985, 1986, 1987, 2048, 2112, 2113, 2114] Po P232 := KW.trans k218 k237 rfl
        have J241 := Inj.kw J219 k237 rfl
        have wx234 := ti_full x234
        replace g235 : 0 ≤ x234.toInt ∧ x234.toInt ≤ 1 ∧ ((x234.toInt = 1 ∧ (chC P211 (fv P211 289 2).toInt).toInt = (59 : Int) ∧ (fv P232 289 2).toInt = (fv P211 289 2).toInt + 1) ∨ (x234.toInt = 0 ∧ ¬ (chC P211 (fv P211 289 2).toInt).toInt = (59 : Int) ∧ (fv P232 289 2).toInt = (fv P211 289 2).toInt)) := g235
        have g242 := ti_full (fv P232 289 2)
        have g243 := ti_full (fv P232 289 2)
        show MEvP _ none q_94 100 [(2, .int z225), (3, .int x213), (0, .ref 0), (1, .int v1)] [.int x234] _ _ _ _
        refine mp_t (s_pop dX6_read_100 rfl) (mpp 101 rfl ?_)
        refine mp_a (a_goto (t := 58) dX6_read_101 (by decide)) ?_
        refine MEvP.less (L := [(0, .ref 0), (1, .int v1), (2, .int z225), (3, .int x213)]) rfl rfl ⟨rfl, rfl, rfl, rfl, trivial⟩ ?_
        have w245_c : chC P = chC Po := chC_eq i_1.1 i_1.2
        have w245_l : (fv P 289 1).toInt = (fv Po 289 1).toInt := congrArg Int32.toInt i_1.2
        have w245_g := g128.2.2.2
        rw [w245_c] at w245_g
        have w245_m := (w245_g.resolve_right (by omega)).2
        have w245_n := CMD.len (t := fun j => fv Po 290 j) (L := (fv Po 289 1).toInt) w245_m
        have w245_a := CMD.adv w245_m
        have w245_t := (i_2.resolve_left (by omega)).resolve_left (by omega)
        have w245_ab : ∀ y j : Nat, 1 ≤ y → y < 289 → fv P202 y j = fv P y j := fun y j h1 h2 => (f205 y j (by omega)).trans (R131.2 y j (by omega))
        have w245_k := g214.1
        have w245_p := g214.2
        rw [show fv P202 289 3 = fv P125 289 3 from f205 289 3 (by omega), show fv P202 289 4 = fv P125 289 4 from f205 289 4 (by omega), show fv P202 289 5 = fv P125 289 5 from f205 289 5 (by omega), show fv P202 289 6 = fv P125 289 6 from f205 289 6 (by omega), show fv P202 289 7 = fv P125 289 7 from f205 289 7 (by omega)] at w245_p
        have w245_h := PFC.hist w245_p (CMD.let w245_m) (by rw [w245_ab 79 3 (by omega) (by omega)]; exact i_4)
        have w245_cd : ∀ y j : Nat, y < 289 → fv P232 y j = fv P211 y j := fun y j h1 => R238.2.2.2.2.2.2 y j (by omega)
        have w245_x : chC P211 = chC Po := (chC_eq (fun j => (w245_k.2 290 j (by omega)).trans ((f205 290 j (by omega)).trans (R131.2 290 j (by omega)))) ((w245_k.2 289 1 (by omega)).trans ((f205 289 1 (by omega)).trans (R131.1)))).trans w245_c
        have w245_q : (fv P211 289 2).toInt = (fv P125 289 2).toInt := congrArg Int32.toInt ((w245_k.2 289 2 (by omega)).trans (f205 289 2 (by omega)))
        have w245_s := g235
        rw [w245_x, w245_q] at w245_s
        have w245_e : (fv P125 289 2).toInt = (fv Po 289 1).toInt ∨ ((chC Po (fv P125 289 2).toInt).toInt = 59 ∧ TKT (chC Po) (fv Po 289 1).toInt ((fv P125 289 2).toInt + 1)) := (TKT.at w245_m).mp w245_t
        have w245_o : (chC Po (fv Po 289 1).toInt).toInt = -1 := by rw [show chC Po (fv Po 289 1).toInt = -1 from ch_out (by omega)]; rfl
        have w245_u : (fv P125 289 2).toInt = (fv Po 289 1).toInt → ¬ (chC Po (fv P125 289 2).toInt).toInt = 59 := fun q => by rw [q, w245_o]; decide
        have w245_z : ((fv P125 289 2).toInt = (fv Po 289 1).toInt ∧ (fv P232 289 2).toInt = (fv Po 289 1).toInt) ∨ ((fv P125 289 2).toInt < (fv Po 289 1).toInt ∧ (fv P232 289 2).toInt = (fv P125 289 2).toInt + 1 ∧ TKT (chC Po) (fv Po 289 1).toInt ((fv P125 289 2).toInt + 1)) := by
          rcases w245_e with q | ⟨q, q2⟩
          · have := w245_u q
            exact Or.inl ⟨q, by omega⟩
          · have hlt := ch_lt (t := fun j => fv Po 290 j) (L := (fv Po 289 1).toInt) (i := (fv P125 289 2).toInt) (show ¬ (chC Po (fv P125 289 2).toInt).toInt = -1 from by omega)
            exact Or.inr ⟨by omega, by omega, q2⟩
        have w245_i := (i_0.resolve_right (by omega)).2
        have w245_S : SMC P P202 := ⟨fun y j h1 h2 => w245_ab y j h1 (by omega), fun k => (f206 2 k).trans (k130.2.2 rfl k)⟩
        have w245_T : SMC P211 P232 := ⟨fun y j h1 h2 => w245_cd y j (by omega), fun k => k237.2.2 rfl k⟩
        have i244 : (0 ≤ x213.toInt ∧ ∀ (R : mP) (a : Int), TRD (chC Po) (fv Po 289 1).toInt (fv P232 289 2).toInt P232 R a → TRD (chC Po) (fv Po 289 1).toInt 0 Po R a) ∨ (x213.toInt < 0 ∧ ∀ (R : mP) (a : Int), a < 0 → TRD (chC Po) (fv Po 289 1).toInt 0 Po R a) := if hv : x213.toInt < 0 then Or.inr ⟨hv, fun R a q => w245_i R a ⟨1, by omega, _, _, _, _, _, _, _, _, _, P232, w245_m, w245_S, hT203, J208, w245_p, hT215, Or.inl ⟨hv, q⟩⟩⟩ else Or.inl ⟨by omega, fun R a q => w245_i R a (by obtain ⟨n, q⟩ := q; exact ⟨n + 1, by omega, _, _, _, _, _, _, _, _, _, P232, w245_m, w245_S, hT203, J208, w245_p, hT215, Or.inr ⟨by omega, w245_T, hT236, by rcases w245_z with ⟨z1, z2⟩ | ⟨z1, z2, z3⟩; exact TRC.fin (by omega) (by omega) q; rw [z2] at q; exact q⟩⟩)⟩
        have i246 : (∀ j : Nat, fv P232 290 j = fv Po 290 j) ∧ fv P232 289 1 = fv Po 289 1 := ⟨fun j => (R238.2.2.2.2.2.2 290 j (by omega)).trans ((w245_k.2 290 j (by omega)).trans ((f205 290 j (by omega)).trans ((R131.2 290 j (by omega)).trans (i_1.1 j)))), (R238.1).trans ((w245_k.2 289 1 (by omega)).trans ((f205 289 1 (by omega)).trans ((R131.1).trans i_1.2)))⟩
        have i247 : x213.toInt < 0 ∨ (fv Po 289 1).toInt ≤ (fv P232 289 2).toInt ∨ TKT (chC Po) (fv Po 289 1).toInt (fv P232 289 2).toInt := Or.inr (w245_z.elim (fun q => Or.inl (by omega)) (fun q => Or.inr (by rw [q.2.1]; exact q.2.2)))
        have i248 : 0 ≤ (fv P232 289 2).toInt ∧ (fv P232 289 2).toInt ≤ (fv Po 289 1).toInt ∧ 0 ≤ z225.toInt ∧ 2 * z225.toInt ≤ (fv P232 289 2).toInt ∧ (fv Po 289 1).toInt ≤ 80 := by omega
        have i249 : (fv P232 79 3).toInt = 1 := (congrArg Int32.toInt ((w245_cd 79 3 (by omega)).trans ((w245_h 79 3 (by omega) (by omega)).trans (w245_ab 79 3 (by omega) (by omega))))).trans i_4
        have i250 : (∀ x j : Nat, (53 ≤ x ∧ x < 79) ∨ (80 ≤ x ∧ x < 289) → fv P232 x j = fv Po x j) ∧ fv P232 79 1 = fv Po 79 1 ∧ fv P232 79 2 = fv Po 79 2 ∧ fv P232 0 8 = fv Po 0 8 := ⟨fun y j hy => (show fv P232 y j = fv P y j from (w245_cd y j (by omega)).trans ((show fv P211 y j = fv P202 y j from if hq : y < 79 then w245_k.2 y j (by omega) else w245_h y j (by omega) (by omega)).trans (w245_ab y j (by omega) (by omega)))).trans (i_5.1 y j hy), ((w245_cd 79 1 (by omega)).trans ((w245_h 79 1 (by omega) (by omega)).trans (w245_ab 79 1 (by omega) (by omega)))).trans i_5.2.1, ((w245_cd 79 2 (by omega)).trans ((w245_h 79 2 (by omega) (by omega)).trans (w245_ab 79 2 (by omega) (by omega)))).trans i_5.2.2.1, ((w245_cd 0 8 (by omega)).trans ((w245_k.1).trans ((f205 0 8 (by omega)).trans (R131.2 0 8 (by omega))))).trans i_5.2.2.2⟩
        have i251 : SCn P232 27 Po := SCn.cong i_6 (fun y j h1 h2 => (w245_cd y j (by omega)).trans ((w245_k.2 y j (by omega)).trans (w245_ab y j (by omega) (by omega))))
        exact ih _ (by omega) _ _ _ P232 hT236 k239 J241 i244 i246 i247 i248 i249 i250 i251 rfl

set_option maxHeartbeats 4000000 in
theorem c_F_read {Po : mP}  (hT : Typ Po) (hX : XR Po)  (hJ : Inj Po)  : EvP 7 94 [.ref 0] Po (fun r P' => (∃ x : Int32, r = some (.int x) ∧ ((fv P' 289 1).toInt = 0)) ∧ Typ P' ∧ KW [9, 10, 11, 12, 65, 66, 67, 192, 193, 194, 256, 320, 385, 386, 387, 513, 514, 515, 516, 517, 518, 519, 640, 641, 704, 768, 1985, 1986, 1987, 2048, 2112, 2113, 2114] Po P' ∧ Inj P' ∧ True) := by
  refine EvP.of qm_94 (Nat.le_of_ble_eq_true rfl) rfl ?_
  show MEvP _ none q_94 0 [(0, .ref 0)] [] _ 0 0 _
  refine mp_a (a_aload_n dX6_read_0 rfl) (mpp 1 rfl ?_)
  refine mt_getU (i := 32) (k := 4) (A := 289) hT dX6_read_1 rfl rl_0 (by decide) rfl (by decide) rfl un_8 (mpp 4 rfl ?_)
  refine mt_callv (i := 222) (q' := q_95) (As := []) (rest := []) hT dX6_read_4 rfl qm_95 (by decide) rfl rl_289 (by decide) rfl (Nat.le_of_ble_eq_true rfl) rfl ⟨rfl, rfl⟩ ⟨Nat.le_of_ble_eq_true rfl, Nat.le_of_ble_eq_true rfl⟩ (EvP.mono (by decide) (c_CS_faultPosition_Script hT hX )) (fun r1 P2 g3 => mpp 7 rfl ?_)
  obtain ⟨⟨x4, rfl, g5⟩, hT6, k7, R8⟩ := g3
  have k9 : KW [9, 10, 11, 12, 65, 66, 67, 192, 193, 194, 256, 320, 385, 386, 387, 513, 514, 515, 516, 517, 518, 519, 640, 641, 704, 768, 1985, 1986, 1987, 2048, 2112, 2113, 2114] Po P2 := KW.trans KW.refl k7 rfl
  have J11 := Inj.kw hJ k7 rfl
  have wx4 := ti_full x4
  replace g5 : (x4.toInt = -1004 ∧ TKT (chC Po) (fv Po 289 1).toInt 0) ∨ (0 ≤ x4.toInt ∧ ¬ TKT (chC Po) (fv Po 289 1).toInt 0) := g5
  have g12 : (0 : Int) ≤ (fv Po 289 1).toInt ∧ (fv Po 289 1).toInt ≤ 80 := Typ.rng hT rl_289 (by decide) (by decide) rfl
  show MEvP _ none q_94 7 [(0, .ref 0)] [.int x4] _ _ _ _
  refine mp_a (a_istore_n (L' := [(1, .int x4), (0, .ref 0)]) dX6_read_7 (by decide) rfl) (mpp 8 rfl ?_)
  refine mp_a (a_iload_n dX6_read_8 rfl) (mpp 9 rfl ?_)
  refine mp_a (a_sipush (v := -1004) dX6_read_9 rfl) (mpp 12 rfl ?_)
  refine mp_Tb (t := 28) (j_icmp_eq dX6_read_12) (by decide) (fun c13 => ?_) (fun c13 => mpp 15 rfl ?_)
  · have c13 : x4.toInt = (-1004) := ti_eq c13
    refine mp_a (a_aload_n dX6_read_28 rfl) (mpp 29 rfl ?_)
    refine mt_getE (i := 16) (k := 1) hT6 dX6_read_29 rfl rl_0 (by decide) rfl (by decide) rfl (KW.xr k9 hX).2.2.2.1 (fun q14 => mpp 32 rfl ?_)
    refine mp_a (a_aload_n dX6_read_32 rfl) (mpp 33 rfl ?_)
    refine mt_getU (i := 10) (k := 0) (A := 1) hT6 dX6_read_33 rfl rl_0 (by decide) rfl (by decide) rfl un_31 (mpp 36 rfl ?_)
    refine mt_callv (i := 228) (q' := q_17) (As := [.ref 1]) (rest := []) hT6 dX6_read_36 rfl qm_17 (by decide) rfl q14 (by decide) rfl (Nat.le_of_ble_eq_true rfl) rfl ⟨rfl, rfl⟩ ⟨Nat.le_of_ble_eq_true rfl, Nat.le_of_ble_eq_true rfl⟩ (EvP.mono (by decide) (c_CS_copyFrom_State_NState hT6 (KW.xr k9 hX) J11 q14)) (fun r15 P16 g17 => mpp 39 rfl ?_)
    obtain ⟨⟨rfl, g19⟩, hT20, k21, J24, R22⟩ := g17
    have k23 : KW [9, 10, 11, 12, 65, 66, 67, 192, 193, 194, 256, 320, 385, 386, 387, 513, 514, 515, 516, 517, 518, 519, 640, 641, 704, 768, 1985, 1986, 1987, 2048, 2112, 2113, 2114] Po P16 := KW.trans k9 k21 rfl
    show MEvP _ none q_94 39 [(1, .int x4), (0, .ref 0)] [] _ _ _ _
    refine mp_a (a_aload_n dX6_read_39 rfl) (mpp 40 rfl ?_)
    refine mt_getU (i := 25) (k := 3) (A := 79) hT20 dX6_read_40 rfl rl_0 (by decide) rfl (by decide) rfl un_6 (mpp 43 rfl ?_)
    refine mp_a (a_iconst (v := 1) dX6_read_43 rfl) (mpp 44 rfl ?_)
    refine mt_putI (i := 230) (k := 3) (x := 1) hT20 dX6_read_44 rfl rl_79 (by decide) rfl (by decide) rfl (by decide) rfl rfl (fun P25 hT26 f27 f28 f29 => mpp 47 rfl ?_)
    have k30 : KW [9, 10, 11, 12, 65, 66, 67, 192, 193, 194, 256, 320, 385, 386, 387, 513, 514, 515, 516, 517, 518, 519, 640, 641, 704, 768, 1985, 1986, 1987, 2048, 2112, 2113, 2114] Po P25 := KW.step k23 rl_79 rfl f28 f29
    have J31 := Inj.st J24 f29
    have e32 : (fv P25 79 3).toInt = 1 := congrArg Int32.toInt f27
    refine mp_a (a_aload_n dX6_read_47 rfl) (mpp 48 rfl ?_)
    refine mt_getU (i := 32) (k := 4) (A := 289) hT26 dX6_read_48 rfl rl_0 (by decide) rfl (by decide) rfl un_8 (mpp 51 rfl ?_)
    refine mt_callv (i := 233) (q' := q_96) (As := []) (rest := []) hT26 dX6_read_51 rfl qm_96 (by decide) rfl rl_289 (by decide) rfl (Nat.le_of_ble_eq_true rfl) rfl ⟨rfl, rfl⟩ ⟨Nat.le_of_ble_eq_true rfl, Nat.le_of_ble_eq_true rfl⟩ (EvP.mono (by decide) (c_CS_rewind_Script hT26 (KW.xr k30 hX) )) (fun r33 P34 g35 => mpp 54 rfl ?_)
    obtain ⟨⟨rfl, g37⟩, hT38, k39, R40⟩ := g35
    have k41 : KW [9, 10, 11, 12, 65, 66, 67, 192, 193, 194, 256, 320, 385, 386, 387, 513, 514, 515, 516, 517, 518, 519, 640, 641, 704, 768, 1985, 1986, 1987, 2048, 2112, 2113, 2114] Po P34 := KW.trans k30 k39 rfl
    have J43 := Inj.kw J31 k39 rfl
    replace g37 : (fv P34 289 2).toInt = 0 := g37
    have g44 := ti_full (fv P34 289 2)
    show MEvP _ none q_94 54 [(1, .int x4), (0, .ref 0)] [] _ _ _ _
    refine mp_a (a_iconst (v := 0) dX6_read_54 rfl) (mpp 55 rfl ?_)
    refine mp_a (a_istore_n (L' := [(2, .int 0), (1, .int x4), (0, .ref 0)]) dX6_read_55 (by decide) rfl) (mpp 56 rfl ?_)
    refine mp_a (a_iconst (v := 0) dX6_read_56 rfl) (mpp 57 rfl ?_)
    refine mp_a (a_istore_n (L' := [(3, .int 0), (2, .int 0), (1, .int x4), (0, .ref 0)]) dX6_read_57 (by decide) rfl) (mpp 58 rfl ?_)
    refine MEvP.less (L := [(0, .ref 0), (1, .int x4), (2, .int 0), (3, .int 0)]) rfl rfl ⟨rfl, rfl, rfl, rfl, trivial⟩ ?_
    have q0 : (fv P34 289 2).toInt = 0 := by omega
    have i45 : (0 ≤ (0 : Int) ∧ ∀ (R : mP) (a : Int), TRD (chC Po) (fv Po 289 1).toInt (fv P34 289 2).toInt P34 R a → TRD (chC Po) (fv Po 289 1).toInt 0 Po R a) ∨ ((0 : Int) < 0 ∧ ∀ (R : mP) (a : Int), a < 0 → TRD (chC Po) (fv Po 289 1).toInt 0 Po R a) := Or.inl ⟨by decide, fun R a q => by rw [q0] at q; obtain ⟨n, q⟩ := q; exact ⟨n, TRC.from ⟨fun y j h1 h2 => by rw [R40.2 y j (by omega), f28 y j (by omega), R22.2.2.2.2 y j (by omega), R8.2 y j (by omega)], fun k => by rw [k39.2.2 rfl k, f29 2 k, k21.2.2 rfl k, k7.2.2 rfl k]⟩ hT q⟩⟩
    have i46 : (∀ j : Nat, fv P34 290 j = fv Po 290 j) ∧ fv P34 289 1 = fv Po 289 1 := ⟨fun j => by rw [R40.2 290 j (by omega), f28 290 j (by omega), R22.2.2.2.2 290 j (by omega), R8.2 290 j (by omega)], by rw [R40.1, f28 289 1 (by omega), R22.2.2.2.2 289 1 (by omega), R8.1]⟩
    have i47 : (0 : Int) < 0 ∨ (fv Po 289 1).toInt ≤ (fv P34 289 2).toInt ∨ TKT (chC Po) (fv Po 289 1).toInt (fv P34 289 2).toInt := Or.inr (Or.inr (by rw [show (fv P34 289 2).toInt = 0 from by omega]; exact ((g5).resolve_right (by omega)).2))
    have q49 : (0 : Int) ≤ (fv Po 289 1).toInt ∧ (fv Po 289 1).toInt ≤ 80 := Typ.rng hT rl_289 (by decide) (by decide) rfl
    have i48 : 0 ≤ (fv P34 289 2).toInt ∧ (fv P34 289 2).toInt ≤ (fv Po 289 1).toInt ∧ 0 ≤ (0 : Int) ∧ 2 * (0 : Int) ≤ (fv P34 289 2).toInt ∧ (fv Po 289 1).toInt ≤ 80 := by omega
    have i50 : (fv P34 79 3).toInt = 1 := by rw [R40.2 79 3 (by omega), f27]; rfl
    have i51 : (∀ x j : Nat, (53 ≤ x ∧ x < 79) ∨ (80 ≤ x ∧ x < 289) → fv P34 x j = fv Po x j) ∧ fv P34 79 1 = fv Po 79 1 ∧ fv P34 79 2 = fv Po 79 2 ∧ fv P34 0 8 = fv Po 0 8 := ⟨fun x j hx => by rw [R40.2 x j (by omega), f28 x j (by omega), R22.2.2.2.2 x j (by omega), R8.2 x j (by omega)], by rw [R40.2 79 1 (by omega), f28 79 1 (by omega), R22.2.2.2.2 79 1 (by omega), R8.2 79 1 (by omega)], by rw [R40.2 79 2 (by omega), f28 79 2 (by omega), R22.2.2.2.2 79 2 (by omega), R8.2 79 2 (by omega)], by rw [R40.2 0 8 (by omega), f28 0 8 (by omega), R22.2.2.2.2 0 8 (by omega), R8.2 0 8 (by omega)]⟩
    have k27 : KI 289 290 Po P2 := fun x j hx => by rw [R8.2 x j (by omega)]
    have s27 : SCn P16 27 P2 := ⟨R22.1, R22.2.1, R22.2.2.1, R22.2.2.2.1⟩
    have r27 : SCn P16 27 Po := SCn.src s27 hT (fun x j hx => by rw [R8.2 x j (by omega)]) (fun k => by rw [k7.2.2 rfl k])
    have i52 : SCn P34 27 Po := SCn.keep (lo := 79) (hi := 290) r27 (fun x j hx => by rw [R40.2 x j (by omega), f28 x j (by omega)]) (Or.inl (by omega))
    exact c_F_read_l58 hT hX hJ  _ _ _ _ P34 hT38 k41 J43 i45 i46 i47 i48 i50 i51 i52 rfl
  · have c13 : x4.toInt ≠ (-1004) := ti_eq_n c13
    refine mp_a (a_aload_n dX6_read_15 rfl) (mpp 16 rfl ?_)
    refine mt_getU (i := 32) (k := 4) (A := 289) hT6 dX6_read_16 rfl rl_0 (by decide) rfl (by decide) rfl un_8 (mpp 19 rfl ?_)
    refine mt_callv (i := 225) (q' := q_106) (As := []) (rest := []) hT6 dX6_read_19 rfl qm_106 (by decide) rfl rl_289 (by decide) rfl (Nat.le_of_ble_eq_true rfl) rfl ⟨rfl, rfl⟩ ⟨Nat.le_of_ble_eq_true rfl, Nat.le_of_ble_eq_true rfl⟩ (EvP.mono (by decide) (c_CS_clear_Script hT6 (KW.xr k9 hX) )) (fun r53 P54 g55 => mpp 22 rfl ?_)
    obtain ⟨⟨rfl, g57⟩, hT58, k59, R60⟩ := g55
    have k61 : KW [9, 10, 11, 12, 65, 66, 67, 192, 193, 194, 256, 320, 385, 386, 387, 513, 514, 515, 516, 517, 518, 519, 640, 641, 704, 768, 1985, 1986, 1987, 2048, 2112, 2113, 2114] Po P54 := KW.trans k9 k59 rfl
    have J63 := Inj.kw J11 k59 rfl
    replace g57 : (fv P54 289 1).toInt = 0 := g57
    have g64 : (0 : Int) ≤ (fv P54 289 1).toInt ∧ (fv P54 289 1).toInt ≤ 80 := Typ.rng hT58 rl_289 (by decide) (by decide) rfl
    show MEvP _ none q_94 22 [(1, .int x4), (0, .ref 0)] [] _ _ _ _
    refine mp_a (a_sipush (v := -2000) dX6_read_22 rfl) (mpp 25 rfl ?_)
    refine mp_a (a_iload_n dX6_read_25 rfl) (mpp 26 rfl ?_)
    obtain ⟨z65, h66⟩ := ti_ex ((-2000) - x4 : Int32)
    have wz65 := ti_full z65
    refine mp_t (s_isub (v := z65) dX6_read_26 h66) (mpp 27 rfl ?_)
    try have e67 : z65.toInt = (-2000) - x4.toInt := ti_subz h66 rfl rfl (by omega) (by omega)
    have u68 : (fv P54 289 1).toInt = 0 := by omega
    exact mp_iret ⟨⟨_, rfl, u68⟩, hT58, k61, J63, trivial⟩ dX6_read_27 (Or.inl rfl)

