/-! methods on typed pools, 24 (written by a program) -/
set_option maxHeartbeats 4000000 in
theorem c_M_cut {Po : mP} {t1 : Int32} {t2 : Int32} (hT : Typ Po) (hR : Rel Po)  : EvP 7 156 [.ref 301, .int t1, .int t2] Po (fun r P' => (∃ x : Int32, r = some (.int x) ∧ (True)) ∧ Typ P' ∧ KW [1092, 1093, 1094, 1095, 1152, 1216, 1344, 1408, 1472] Po P' ∧ Rel P') := by
  refine EvP.of qm_156 (Nat.le_of_ble_eq_true rfl) rfl ?_
  show MEvP _ none q_156 0 [(0, .ref 301), (1, .int t1), (2, .int t2)] [] _ 0 0 _
  refine mp_a (a_aload_n dX7_cut_0 rfl) (mpp 1 rfl ?_)
  refine mt_callv (i := 117) (q' := q_124) (As := []) (rest := []) hT dX7_cut_1 rfl qm_124 (by decide) rfl rl_301 (by decide) rfl (Nat.le_of_ble_eq_true rfl) rfl ⟨rfl, rfl⟩ ⟨Nat.le_of_ble_eq_true rfl, Nat.le_of_ble_eq_true rfl⟩ (EvP.mono (by decide) (c_M_keeps hT hR )) (fun r1 P2 g3 => mpp 4 rfl ?_)
  obtain ⟨⟨rfl, g5⟩, hT6, k7, R8r, R8⟩ := g3
  have k9 : KW [1092, 1093, 1094, 1095, 1152, 1216, 1344, 1408, 1472] Po P2 := KW.trans KW.refl k7 rfl
  show MEvP _ none q_156 4 [(0, .ref 301), (1, .int t1), (2, .int t2)] [] _ _ _ _
  refine mp_a (a_aload_n dX7_cut_4 rfl) (mpp 5 rfl ?_)
  refine mp_a (a_aload_n dX7_cut_5 rfl) (mpp 6 rfl ?_)
  refine mp_a (a_iload_n dX7_cut_6 rfl) (mpp 7 rfl ?_)
  refine mp_a (a_iload_n dX7_cut_7 rfl) (mpp 8 rfl ?_)
  refine mt_callv (i := 158) (q' := q_157) (As := [.int t1, .int t2]) (rest := [.ref 301]) hT6 dX7_cut_8 rfl qm_157 (by decide) rfl rl_301 (by decide) rfl (Nat.le_of_ble_eq_true rfl) rfl ⟨rfl, rfl⟩ ⟨Nat.le_of_ble_eq_true rfl, Nat.le_of_ble_eq_true rfl⟩ (EvP.mono (by decide) (c_M_cuts hT6 R8r )) (fun r11 P12 g13 => mpp 11 rfl ?_)
  obtain ⟨⟨x14, rfl, g15⟩, hT16, k17, R18⟩ := g13
  have k19 : KW [1092, 1093, 1094, 1095, 1152, 1216, 1344, 1408, 1472] Po P12 := KW.trans k9 k17 rfl
  have wx14 := ti_full x14
  show MEvP _ none q_156 11 [(0, .ref 301), (1, .int t1), (2, .int t2)] [.int x14, .ref 301] _ _ _ _
  refine mt_callv (i := 124) (q' := q_139) (As := [.int x14]) (rest := []) hT16 dX7_cut_11 rfl qm_139 (by decide) rfl rl_301 (by decide) rfl (Nat.le_of_ble_eq_true rfl) rfl ⟨rfl, rfl⟩ ⟨Nat.le_of_ble_eq_true rfl, Nat.le_of_ble_eq_true rfl⟩ (EvP.mono (by decide) (c_M_ends hT16 R18 )) (fun r21 P22 g23 => mpp 14 rfl ?_)
  obtain ⟨⟨x24, rfl, g25⟩, hT26, k27, R28r, R28⟩ := g23
  have k29 : KW [1092, 1093, 1094, 1095, 1152, 1216, 1344, 1408, 1472] Po P22 := KW.trans k19 k27 rfl
  have wx24 := ti_full x24
  have g25 : x24.toInt = x14.toInt := g25
  show MEvP _ none q_156 14 [(0, .ref 301), (1, .int t1), (2, .int t2)] [.int x24] _ _ _ _
  exact mp_iret ⟨⟨_, rfl, trivial⟩, hT26, k29, R28r⟩ dX7_cut_14 (Or.inl rfl)

set_option maxHeartbeats 4000000 in
theorem c_M_lays_l21 {Po : mP} {t1 : Int32} (hp0 : 0 ≤ t1.toInt) (hp1 : t1.toInt ≤ 7)  : ∀ (n : Nat) (v2 : Int32), ∀ (P : mP), Typ P → KW [1101, 1102, 1536, 1600] Po P → (0 ≤ v2.toInt) → (2147483647 - v2.toInt).toNat = n → MEvP 3 none q_164 21 [(0, .ref 301), (1, .int t1), (2, .int v2)] [] P 0 0 (fun r P' => (r = none ∧ (True)) ∧ Typ P' ∧ KW [1101, 1102, 1536, 1600] Po P' ∧ True) := by
  intro n
  induction n using Nat.strongRecOn with | _ n ih => ?_
  intro v2 P hT hK i_0 hm
  have w_t1 := ti_full t1
  have w_v2 := ti_full v2
  refine mp_a (a_iload_n dX7_lays_21 rfl) (mpp 22 rfl ?_)
  refine mp_a (a_bipush (v := 8) dX7_lays_22 rfl) (mpp 24 rfl ?_)
  refine mp_Tb (t := 57) (j_icmp_ge dX7_lays_24) (by decide) (fun c1 => ?_) (fun c1 => mpp 27 rfl ?_)
  · have c1 : v2.toInt ≥ 8 := ti_ge c1
    exact mp_ret ⟨⟨rfl, trivial⟩, hT, hK, trivial⟩ dX7_lays_57 rfl
  · have c1 : v2.toInt < 8 := ti_ge_n c1
    refine mp_a (a_aload_n dX7_lays_27 rfl) (mpp 28 rfl ?_)
    refine mt_getU (i := 28) (k := 11) (A := 308) hT dX7_lays_28 rfl rl_301 (by decide) rfl (by decide) rfl un_24 (mpp 31 rfl ?_)
    refine mp_a (a_iload_n dX7_lays_31 rfl) (mpp 32 rfl ?_)
    refine mp_a (a_aload_n dX7_lays_32 rfl) (mpp 33 rfl ?_)
    refine mp_a (a_iload_n dX7_lays_33 rfl) (mpp 34 rfl ?_)
    refine mp_a (a_iload_n dX7_lays_34 rfl) (mpp 35 rfl ?_)
    have p2 : 0 ≤ t1.toInt := by omega
    have p3 : t1.toInt ≤ 7 := by omega
    have p4 : 0 ≤ v2.toInt := by omega
    have p5 : v2.toInt ≤ 7 := by omega
    refine mt_callv (i := 142) (q' := q_152) (As := [.int t1, .int v2]) (rest := [.int v2, .ref 308]) hT dX7_lays_35 rfl qm_152 (by decide) rfl rl_301 (by decide) rfl (Nat.le_of_ble_eq_true rfl) rfl ⟨rfl, rfl⟩ ⟨Nat.le_of_ble_eq_true rfl, Nat.le_of_ble_eq_true rfl⟩ (EvP.mono (by decide) (c_M_sizeOf hT p2 p3 p4 p5 )) (fun r6 P7 g8 => mpp 38 rfl ?_)
    obtain ⟨⟨x9, rfl, g10⟩, e11⟩ := g8
    have e11 := e11.symm
    subst e11
    have wx9 := ti_full x9
    show MEvP _ none q_164 38 [(0, .ref 301), (1, .int t1), (2, .int v2)] [.int x9, .int v2, .ref 308] _ _ _ _
    refine mt_ias (n := 8) hT dX7_lays_38 rl_308 (by decide) rfl rfl (by omega) (by omega) rfl (ti_full x9) (fun P12 hT13 f14 f15 f16 => mpp 39 rfl ?_)
    have k17 : KW [1101, 1102, 1536, 1600] Po P12 := KW.step hK rl_308 rfl f15 f16
    refine mp_a (a_aload_n dX7_lays_39 rfl) (mpp 40 rfl ?_)
    refine mt_getU (i := 31) (k := 12) (A := 309) hT13 dX7_lays_40 rfl rl_301 (by decide) rfl (by decide) rfl un_25 (mpp 43 rfl ?_)
    refine mp_a (a_iload_n dX7_lays_43 rfl) (mpp 44 rfl ?_)
    refine mp_a (a_aload_n dX7_lays_44 rfl) (mpp 45 rfl ?_)
    refine mp_a (a_iload_n dX7_lays_45 rfl) (mpp 46 rfl ?_)
    refine mp_a (a_iload_n dX7_lays_46 rfl) (mpp 47 rfl ?_)
    have p18 : 0 ≤ t1.toInt := by omega
    have p19 : t1.toInt ≤ 7 := by omega
    have p20 : 0 ≤ v2.toInt := by omega
    have p21 : v2.toInt ≤ 7 := by omega
    refine mt_callv (i := 92) (q' := q_146) (As := [.int t1, .int v2]) (rest := [.int v2, .ref 309]) hT13 dX7_lays_47 rfl qm_146 (by decide) rfl rl_301 (by decide) rfl (Nat.le_of_ble_eq_true rfl) rfl ⟨rfl, rfl⟩ ⟨Nat.le_of_ble_eq_true rfl, Nat.le_of_ble_eq_true rfl⟩ (EvP.mono (by decide) (c_M_creaseOf hT13 p18 p19 p20 p21 )) (fun r22 P23 g24 => mpp 50 rfl ?_)
    obtain ⟨⟨x25, rfl, g26⟩, e27⟩ := g24
    have e27 := e27.symm
    subst e27
    have wx25 := ti_full x25
    have g26 : x25.toInt = (fv P12 302 (14 + 19 * t1.toInt.toNat + v2.toInt.toNat)).toInt := g26
    show MEvP _ none q_164 50 [(0, .ref 301), (1, .int t1), (2, .int v2)] [.int x25, .int v2, .ref 309] _ _ _ _
    refine mt_ias (n := 8) hT13 dX7_lays_50 rl_309 (by decide) rfl rfl (by omega) (by omega) rfl (ti_full x25) (fun P28 hT29 f30 f31 f32 => mpp 51 rfl ?_)
    have k33 : KW [1101, 1102, 1536, 1600] Po P28 := KW.step k17 rl_309 rfl f31 f32
    obtain ⟨z34, h35⟩ := ti_ex (v2 + 1 : Int32)
    have wz34 := ti_full z34
    refine mp_a (a_iinc (v := z34) (L' := [(2, .int z34), (0, .ref 301), (1, .int t1)]) dX7_lays_51 (by decide) rfl h35 rfl) (mpp 54 rfl ?_)
    try have e36 : z34.toInt = v2.toInt + 1 := ti_addz h35 rfl rfl (by omega) (by omega)
    refine mp_a (a_goto (t := 21) dX7_lays_54 (by decide)) ?_
    refine MEvP.less (L := [(0, .ref 301), (1, .int t1), (2, .int z34)]) rfl rfl ⟨rfl, rfl, rfl, trivial⟩ ?_
    have i37 : 0 ≤ z34.toInt := by omega
    exact ih _ (by omega) _ P28 hT29 k33 i37 rfl

set_option maxHeartbeats 4000000 in
theorem c_M_lays {Po : mP} {t1 : Int32} (hT : Typ Po)  (hp0 : 0 ≤ t1.toInt) (hp1 : t1.toInt ≤ 7)  : EvP 4 164 [.ref 301, .int t1] Po (fun r P' => (r = none ∧ (True)) ∧ Typ P' ∧ KW [1101, 1102, 1536, 1600] Po P' ∧ True) := by
  refine EvP.of qm_164 (Nat.le_of_ble_eq_true rfl) rfl ?_
  show MEvP _ none q_164 0 [(0, .ref 301), (1, .int t1)] [] _ 0 0 _
  refine mp_a (a_aload_n dX7_lays_0 rfl) (mpp 1 rfl ?_)
  refine mp_a (a_aload_n dX7_lays_1 rfl) (mpp 2 rfl ?_)
  refine mp_a (a_iload_n dX7_lays_2 rfl) (mpp 3 rfl ?_)
  have p1 : 0 ≤ t1.toInt := by omega
  have p2 : t1.toInt ≤ 7 := by omega
  refine mt_callv (i := 81) (q' := q_138) (As := [.int t1]) (rest := [.ref 301]) hT dX7_lays_3 rfl qm_138 (by decide) rfl rl_301 (by decide) rfl (Nat.le_of_ble_eq_true rfl) rfl ⟨rfl, rfl⟩ ⟨Nat.le_of_ble_eq_true rfl, Nat.le_of_ble_eq_true rfl⟩ (EvP.mono (by decide) (c_M_isCorner hT p1 p2 )) (fun r3 P4 g5 => mpp 6 rfl ?_)
  obtain ⟨⟨x6, rfl, g7⟩, e8⟩ := g5
  have e8 := e8.symm
  subst e8
  have wx6 := ti_full x6
  have g7 : 0 ≤ x6.toInt ∧ x6.toInt ≤ 1 ∧ ((x6.toInt = 1 ∧ (fv Po 302 (3 + 19 * t1.toInt.toNat)).toInt = 1) ∨ (x6.toInt = 0 ∧ (fv Po 302 (3 + 19 * t1.toInt.toNat)).toInt = 0)) := g7
  have g9 := ti_full (fv Po 302 (3 + 19 * t1.toInt.toNat))
  show MEvP _ none q_164 6 [(0, .ref 301), (1, .int t1)] [.int x6, .ref 301] _ _ _ _
  refine mt_putI (i := 161) (k := 14) (x := x6) hT dX7_lays_6 rfl rl_301 (by decide) rfl (by decide) rfl ⟨by omega, by omega⟩ (ti_fit (by omega)) rfl (fun P10 hT11 f12 f13 f14 => mpp 9 rfl ?_)
  have k15 : KW [1101, 1102, 1536, 1600] Po P10 := KW.step KW.refl rl_301 rfl f13 f14
  have e16 : (fv P10 301 14).toInt = x6.toInt := congrArg Int32.toInt f12
  refine mp_a (a_aload_n dX7_lays_9 rfl) (mpp 10 rfl ?_)
  refine mp_a (a_aload_n dX7_lays_10 rfl) (mpp 11 rfl ?_)
  refine mp_a (a_iload_n dX7_lays_11 rfl) (mpp 12 rfl ?_)
  refine mp_a (a_iconst (v := 1) dX7_lays_12 rfl) (mpp 13 rfl ?_)
  have p17 : 0 ≤ t1.toInt := by omega
  have p18 : t1.toInt ≤ 7 := by omega
  have p19 : 0 ≤ (1 : Int) := by omega
  have p20 : (1 : Int) ≤ 18 := by omega
  refine mt_callv (i := 78) (q' := q_137) (As := [.int t1, .int 1]) (rest := [.ref 301]) hT11 dX7_lays_13 rfl qm_137 (by decide) rfl rl_301 (by decide) rfl (Nat.le_of_ble_eq_true rfl) rfl ⟨rfl, rfl⟩ ⟨Nat.le_of_ble_eq_true rfl, Nat.le_of_ble_eq_true rfl⟩ (EvP.mono (by decide) (c_M_of_c1 hT11 p17 p18 p19 p20 )) (fun r21 P22 g23 => mpp 16 rfl ?_)
  obtain ⟨⟨x24, rfl, g25⟩, e26⟩ := g23
  have e26 := e26.symm
  subst e26
  have wx24 := ti_full x24
  have g25 : x24.toInt = (fv P10 302 (4 + 19 * t1.toInt.toNat)).toInt ∧ 0 ≤ x24.toInt ∧ x24.toInt ≤ 8 := g25
  have g27 := ti_full (fv P10 302 (4 + 19 * t1.toInt.toNat))
  show MEvP _ none q_164 16 [(0, .ref 301), (1, .int t1)] [.int x24, .ref 301] _ _ _ _
  refine mt_putI (i := 165) (k := 13) (x := x24) hT11 dX7_lays_16 rfl rl_301 (by decide) rfl (by decide) rfl ⟨by omega, by omega⟩ rfl rfl (fun P28 hT29 f30 f31 f32 => mpp 19 rfl ?_)
  have k33 : KW [1101, 1102, 1536, 1600] Po P28 := KW.step k15 rl_301 rfl f31 f32
  have e34 : (fv P28 301 13).toInt = x24.toInt := congrArg Int32.toInt f30
  refine mp_a (a_iconst (v := 0) dX7_lays_19 rfl) (mpp 20 rfl ?_)
  refine mp_a (a_istore_n (L' := [(2, .int 0), (0, .ref 301), (1, .int t1)]) dX7_lays_20 (by decide) rfl) (mpp 21 rfl ?_)
  refine MEvP.less (L := [(0, .ref 301), (1, .int t1), (2, .int 0)]) rfl rfl ⟨rfl, rfl, rfl, trivial⟩ ?_
  have i35 : 0 ≤ (0 : Int) := by omega
  exact c_M_lays_l21   hp0 hp1 _ _ P28 hT29 k33 i35 rfl

