/-! methods on typed pools, 26 (written by a program) -/
set_option maxHeartbeats 4000000 in
theorem c_M_rotate {Po : mP} {t1 : Int32} {t2 : Int32} (hT : Typ Po) (hR : Rel Po)  : EvP 7 150 [.ref 301, .int t1, .int t2] Po (fun r P' => (∃ x : Int32, r = some (.int x) ∧ (TOPM Po P' x.toInt ∧ rotatesM (sr Po) (sr P') x.toInt t1.toInt t2.toInt)) ∧ Typ P' ∧ KW [1092, 1093, 1094, 1095, 1152, 1216, 1344, 1408, 1472] Po P' ∧ Rel P') := by
  refine EvP.of qm_150 (Nat.le_of_ble_eq_true rfl) rfl ?_
  show MEvP _ none q_150 0 [(0, .ref 301), (1, .int t1), (2, .int t2)] [] _ 0 0 _
  have w_t1 := ti_full t1
  have w_t2 := ti_full t2
  refine mp_a (a_aload_n dX7_rotate_0 rfl) (mpp 1 rfl ?_)
  refine mt_callv (i := 117) (q' := q_124) (As := []) (rest := []) hT dX7_rotate_1 rfl qm_124 (by decide) rfl rl_301 (by decide) rfl (Nat.le_of_ble_eq_true rfl) rfl ⟨rfl, rfl⟩ ⟨Nat.le_of_ble_eq_true rfl, Nat.le_of_ble_eq_true rfl⟩ (EvP.mono (by decide) (c_M_keeps hT hR )) (fun r1 P2 g3 => mpp 4 rfl ?_)
  obtain ⟨⟨rfl, g5⟩, hT6, k7, R8r, R8⟩ := g3
  have k9 : KW [1092, 1093, 1094, 1095, 1152, 1216, 1344, 1408, 1472] Po P2 := KW.trans KW.refl k7 rfl
  show MEvP _ none q_150 4 [(0, .ref 301), (1, .int t1), (2, .int t2)] [] _ _ _ _
  refine mp_a (a_aload_n dX7_rotate_4 rfl) (mpp 5 rfl ?_)
  refine mp_a (a_aload_n dX7_rotate_5 rfl) (mpp 6 rfl ?_)
  refine mp_a (a_iload_n dX7_rotate_6 rfl) (mpp 7 rfl ?_)
  refine mp_a (a_iload_n dX7_rotate_7 rfl) (mpp 8 rfl ?_)
  refine mt_callv (i := 145) (q' := q_151) (As := [.int t1, .int t2]) (rest := [.ref 301]) hT6 dX7_rotate_8 rfl qm_151 (by decide) rfl rl_301 (by decide) rfl (Nat.le_of_ble_eq_true rfl) rfl ⟨rfl, rfl⟩ ⟨Nat.le_of_ble_eq_true rfl, Nat.le_of_ble_eq_true rfl⟩ (EvP.mono (by decide) (c_M_rotates hT6 R8r )) (fun r11 P12 g13 => mpp 11 rfl ?_)
  obtain ⟨⟨x14, rfl, g15⟩, hT16, k17, R18⟩ := g13
  have k19 : KW [1092, 1093, 1094, 1095, 1152, 1216, 1344, 1408, 1472] Po P12 := KW.trans k9 k17 rfl
  have wx14 := ti_full x14
  replace g15 : rotatesM (sr P2) (sr P12) x14.toInt t1.toInt t2.toInt := g15
  show MEvP _ none q_150 11 [(0, .ref 301), (1, .int t1), (2, .int t2)] [.int x14, .ref 301] _ _ _ _
  refine mt_callv (i := 124) (q' := q_139) (As := [.int x14]) (rest := []) hT16 dX7_rotate_11 rfl qm_139 (by decide) rfl rl_301 (by decide) rfl (Nat.le_of_ble_eq_true rfl) rfl ⟨rfl, rfl⟩ ⟨Nat.le_of_ble_eq_true rfl, Nat.le_of_ble_eq_true rfl⟩ (EvP.mono (by decide) (c_M_ends hT16 R18 )) (fun r21 P22 g23 => mpp 14 rfl ?_)
  obtain ⟨⟨x24, rfl, g25⟩, hT26, k27, R28r, R28⟩ := g23
  have k29 : KW [1092, 1093, 1094, 1095, 1152, 1216, 1344, 1408, 1472] Po P22 := KW.trans k19 k27 rfl
  have wx24 := ti_full x24
  replace g25 : x24.toInt = x14.toInt := g25
  show MEvP _ none q_150 14 [(0, .ref 301), (1, .int t1), (2, .int t2)] [.int x24] _ _ _ _
  have w32_a : sr P2 = sr Po := funext (fun j => R8.2 302 j (by omega))
  have w32_b : sr P12 = sr P22 := funext (fun j => (R28.2.2.1 302 j (by omega) (by omega) (by omega)).symm)
  have w32_g := g15
  rw [w32_a, w32_b] at w32_g
  have w32_x : x24.toInt = x14.toInt := by omega
  rw [← w32_x] at w32_g
  have w32_t : TOPM Po P22 x24.toInt := TOPM.mk R8.1 (fun j => KW.at k17 j rl_303 rfl) (fun j => KW.at k17 j rl_304 rfl) (fun j => KW.at k17 j rl_305 rfl) (fun j => KW.at k17 j rl_314 rfl) (KW.at k17 8 rl_301 rfl) (KW.at k17 4 rl_301 rfl) (KW.at k17 23 rl_301 rfl) (by rw [w32_x]; exact R28.1) (by rw [w32_x]; exact R28.2.1) R28.2.2.1
  have u31 : TOPM Po P22 x24.toInt ∧ rotatesM (sr Po) (sr P22) x24.toInt t1.toInt t2.toInt := ⟨w32_t, w32_g⟩
  exact mp_iret ⟨⟨_, rfl, u31⟩, hT26, k29, R28r⟩ dX7_rotate_14 (Or.inl rfl)

set_option maxHeartbeats 4000000 in
theorem c_M_goes_l6 {Po : mP} {t1 : Int32} (hR : Rel Po) (hp0 : 0 ≤ t1.toInt) (hp1 : t1.toInt + 1 ≤ (fv Po 302 0).toInt)  : ∀ (n : Nat) (v2 : Int32), ∀ (P : mP), Typ P → KW [1152] Po P → (Mv Po P (3 + 19 * t1.toInt.toNat) v2.toInt.toNat) → (3 + 19 * t1.toInt ≤ v2.toInt) → (v2.toInt ≤ 19 * (fv Po 302 0).toInt - 16) → ((fv P 302 0).toInt = (fv Po 302 0).toInt) → ((fv Po 302 0).toInt ≤ 8) → (KI 302 303 Po P) → (2147483647 - v2.toInt).toNat = n → MEvP 1 none q_155 6 [(0, .ref 301), (1, .int t1), (2, .int v2)] [] P 0 0 (fun r P' => (r = none ∧ (True)) ∧ Typ P' ∧ KW [1152] Po P' ∧ Rel P' ∧ (∀ j : Nat, 1 ≤ j → fv P' 302 j = if 3 + 19 * t1.toInt.toNat ≤ j ∧ j < 3 + 19 * ((fv Po 302 0).toInt - 1).toNat then fv Po 302 (j + 19) else fv Po 302 j) ∧ ((fv P' 302 0).toInt = (fv Po 302 0).toInt - 1) ∧ KI 302 303 Po P') := by
  intro n
  induction n using Nat.strongRecOn with | _ n ih => ?_
  intro v2 P hT hK i_0 i_1 i_2 i_3 i_4 i_5 hm
  have w_t1 := ti_full t1
  have w_v2 := ti_full v2
  have g1 : (0 : Int) ≤ (fv P 302 0).toInt ∧ (fv P 302 0).toInt ≤ 8 := Typ.rng hT rl_302 (by decide) (by decide) rfl
  have g2 : (0 : Int) ≤ (fv P 302 0).toInt ∧ (fv P 302 0).toInt ≤ 8 := Typ.rng hT rl_302 (by decide) (by decide) rfl
  refine mp_a (a_iload_n dX7_goes_6 rfl) (mpp 7 rfl ?_)
  refine mp_a (a_aload_n dX7_goes_7 rfl) (mpp 8 rfl ?_)
  refine mt_getU (i := 9) (k := 0) (A := 302) hT dX7_goes_8 rfl rl_301 (by decide) rfl (by decide) rfl un_18 (mpp 11 rfl ?_)
  refine mp_a (a_iconst (v := 0) dX7_goes_11 rfl) (mpp 12 rfl ?_)
  refine mt_ialX (n := 155) hT dX7_goes_12 rl_302 (by decide) rfl rfl (by decide) (by decide) ssp_0 (fun g3 => mpp 13 rfl ?_)
  have we5 := ti_full (fv P 302 0)
  refine mp_a (a_iconst (v := 1) dX7_goes_13 rfl) (mpp 14 rfl ?_)
  obtain ⟨z6, h7⟩ := ti_ex ((fv P 302 0) - 1 : Int32)
  have wz6 := ti_full z6
  refine mp_t (s_isub (v := z6) dX7_goes_14 h7) (mpp 15 rfl ?_)
  try have e8 : z6.toInt = (fv P 302 0).toInt - 1 := ti_subz h7 rfl rfl (by omega) (by omega)
  refine mp_a (a_iconst (v := 0) dX7_goes_15 rfl) (mpp 16 rfl ?_)
  have p9 : 0 ≤ z6.toInt := by omega
  have p10 : z6.toInt ≤ 8 := by omega
  have p11 : 0 ≤ (0 : Int) := by omega
  have p12 : (0 : Int) ≤ 20 := by omega
  refine mp_calls (i := 74) (q' := q_135) (As := [.int z6, .int 0]) (rest := [.int v2]) dX7_goes_16 rfl qm_135 (by decide) rfl (Nat.le_of_ble_eq_true rfl) rfl ⟨rfl, rfl⟩ ⟨Nat.le_of_ble_eq_true rfl, Nat.le_of_ble_eq_true rfl⟩ (EvP.mono (by decide) (c_M_at hT p9 p10 p11 p12 )) (fun r13 P14 g15 => mpp 19 rfl ?_)
  obtain ⟨⟨x16, rfl, g17⟩, e18⟩ := g15
  have e18 := e18.symm
  subst e18
  have wx16 := ti_full x16
  replace g17 : x16.toInt = 3 + 19 * z6.toInt + (0 : Int) := g17
  show MEvP _ none q_155 19 [(0, .ref 301), (1, .int t1), (2, .int v2)] [.int x16, .int v2] _ _ _ _
  refine mp_Tb (t := 43) (j_icmp_ge dX7_goes_19) (by decide) (fun c19 => ?_) (fun c19 => mpp 22 rfl ?_)
  · have c19 : v2.toInt ≥ x16.toInt := ti_ge c19
    have hRe : Rel P := Mv.rel hR i_0 (p := t1.toInt.toNat) (m := ((fv Po 302 0).toInt - 1).toNat) (by omega) (by omega) (by omega) (by omega) (hK.at · rl_303 rfl) (hK.at · rl_304 rfl) (hK.at · rl_305 rfl)
    refine mp_a (a_aload_n dX7_goes_43 rfl) (mpp 44 rfl ?_)
    refine mt_getU (i := 9) (k := 0) (A := 302) hT dX7_goes_44 rfl rl_301 (by decide) rfl (by decide) rfl un_18 (mpp 47 rfl ?_)
    refine mp_a (a_iconst (v := 0) dX7_goes_47 rfl) (mpp 48 rfl ?_)
    refine mp_t (s_dup2 dX7_goes_48 ⟨rfl, rfl⟩) (mpp 49 rfl ?_)
    refine mt_ialX (n := 155) hT dX7_goes_49 rl_302 (by decide) rfl rfl (by decide) (by decide) ssp_0 (fun g20 => mpp 50 rfl ?_)
    have we22 := ti_full (fv P 302 0)
    refine mp_a (a_iconst (v := 1) dX7_goes_50 rfl) (mpp 51 rfl ?_)
    obtain ⟨z23, h24⟩ := ti_ex ((fv P 302 0) - 1 : Int32)
    have wz23 := ti_full z23
    refine mp_t (s_isub (v := z23) dX7_goes_51 h24) (mpp 52 rfl ?_)
    try have e25 : z23.toInt = (fv P 302 0).toInt - 1 := ti_subz h24 rfl rfl (by omega) (by omega)
    refine mt_iasX (n := 155) hT dX7_goes_52 rl_302 (by decide) rfl rfl (by decide) (by decide) ssp_0 (okS_c0 ⟨by omega, by omega⟩) (fun P26 hT27 f28 f29 f30 => mpp 53 rfl ?_)
    have f28 : fv P26 302 0 = _ := f28
    have f29 : ∀ b j : Nat, ¬ (b = 302 ∧ j = 0) → fv P26 b j = fv P b j := f29
    have k31 : KW [1152] Po P26 := KW.step hK rl_302 rfl f29 f30
    have R32 := Rel.many hRe f29 f28 (by omega)
    have e33 : (fv P26 302 0).toInt = z23.toInt := congrArg Int32.toInt f28
    have u34 : (∀ j : Nat, 1 ≤ j → fv P26 302 j = if 3 + 19 * t1.toInt.toNat ≤ j ∧ j < 3 + 19 * ((fv Po 302 0).toInt - 1).toNat then fv Po 302 (j + 19) else fv Po 302 j) := fun j hj => by rw [f29 302 j (by omega)]; exact Mv.get i_0 (by omega) j
    have u35 : ((fv P26 302 0).toInt = (fv Po 302 0).toInt - 1) := by omega
    have u36 : KI 302 303 Po P26 := fun x j hx => by rw [f29 x j (by omega), i_5 x j (by omega)]
    exact mp_ret ⟨⟨rfl, trivial⟩, hT27, k31, R32, ⟨u34, u35, u36⟩⟩ dX7_goes_53 rfl
  · have c19 : v2.toInt < x16.toInt := ti_ge_n c19
    refine mp_a (a_aload_n dX7_goes_22 rfl) (mpp 23 rfl ?_)
    refine mt_getU (i := 9) (k := 0) (A := 302) hT dX7_goes_23 rfl rl_301 (by decide) rfl (by decide) rfl un_18 (mpp 26 rfl ?_)
    refine mp_a (a_iload_n dX7_goes_26 rfl) (mpp 27 rfl ?_)
    refine mp_a (a_aload_n dX7_goes_27 rfl) (mpp 28 rfl ?_)
    refine mt_getU (i := 9) (k := 0) (A := 302) hT dX7_goes_28 rfl rl_301 (by decide) rfl (by decide) rfl un_18 (mpp 31 rfl ?_)
    refine mp_a (a_iload_n dX7_goes_31 rfl) (mpp 32 rfl ?_)
    refine mp_a (a_bipush (v := 19) dX7_goes_32 rfl) (mpp 34 rfl ?_)
    obtain ⟨z37, h38⟩ := ti_ex (v2 + 19 : Int32)
    have wz37 := ti_full z37
    refine mp_t (s_iadd (v := z37) dX7_goes_34 h38) (mpp 35 rfl ?_)
    try have e39 : z37.toInt = v2.toInt + 19 := ti_addz h38 rfl rfl (by omega) (by omega)
    refine mt_ialX (n := 155) hT dX7_goes_35 rl_302 (by decide) rfl rfl (by omega) (by omega) ssp_0 (fun g40 => mpp 36 rfl ?_)
    have we42 := ti_full (fv P 302 z37.toInt.toNat)
    refine mt_iasX (n := 155) hT dX7_goes_36 rl_302 (by decide) rfl rfl (by omega) (by omega) ssp_0 (okS_19 g40 (by omega) (by omega)) (fun P43 hT44 f45 f46 f47 => mpp 37 rfl ?_)
    have k48 : KW [1152] Po P43 := KW.step hK rl_302 rfl f46 f47
    obtain ⟨z50, h51⟩ := ti_ex (v2 + 1 : Int32)
    have wz50 := ti_full z50
    refine mp_a (a_iinc (v := z50) (L' := [(2, .int z50), (0, .ref 301), (1, .int t1)]) dX7_goes_37 (by decide) rfl h51 rfl) (mpp 40 rfl ?_)
    try have e52 : z50.toInt = v2.toInt + 1 := ti_addz h51 rfl rfl (by omega) (by omega)
    refine mp_a (a_goto (t := 6) dX7_goes_40 (by decide)) ?_
    refine MEvP.less (L := [(0, .ref 301), (1, .int t1), (2, .int z50)]) rfl rfl ⟨rfl, rfl, rfl, trivial⟩ ?_
    have i53 : Mv Po P43 (3 + 19 * t1.toInt.toNat) z50.toInt.toNat := Mv.step i_0 f45 f46 (by omega) (by omega) (by omega)
    have i54 : 3 + 19 * t1.toInt ≤ z50.toInt := by omega
    have i55 : z50.toInt ≤ 19 * (fv Po 302 0).toInt - 16 := by omega
    have e56 : (fv P43 302 0).toInt = (fv P 302 0).toInt := congrArg Int32.toInt (f46 302 0 (ne_i (by omega)))
    have i57 : (fv P43 302 0).toInt = (fv Po 302 0).toInt := by omega
    have i58 : (fv Po 302 0).toInt ≤ 8 := by omega
    have i59 : KI 302 303 Po P43 := fun x j hx => by rw [f46 x j (by omega), i_5 x j hx]
    exact ih _ (by omega) _ P43 hT44 k48 i53 i54 i55 i57 i58 i59 rfl

set_option maxHeartbeats 4000000 in
theorem c_M_goes {Po : mP} {t1 : Int32} (hT : Typ Po) (hR : Rel Po) (hp0 : 0 ≤ t1.toInt) (hp1 : t1.toInt + 1 ≤ (fv Po 302 0).toInt)  : EvP 2 155 [.ref 301, .int t1] Po (fun r P' => (r = none ∧ (True)) ∧ Typ P' ∧ KW [1152] Po P' ∧ Rel P' ∧ (∀ j : Nat, 1 ≤ j → fv P' 302 j = if 3 + 19 * t1.toInt.toNat ≤ j ∧ j < 3 + 19 * ((fv Po 302 0).toInt - 1).toNat then fv Po 302 (j + 19) else fv Po 302 j) ∧ ((fv P' 302 0).toInt = (fv Po 302 0).toInt - 1) ∧ KI 302 303 Po P') := by
  refine EvP.of qm_155 (Nat.le_of_ble_eq_true rfl) rfl ?_
  show MEvP _ none q_155 0 [(0, .ref 301), (1, .int t1)] [] _ 0 0 _
  have w_t1 := ti_full t1
  have g1 : (0 : Int) ≤ (fv Po 302 0).toInt ∧ (fv Po 302 0).toInt ≤ 8 := Typ.rng hT rl_302 (by decide) (by decide) rfl
  refine mp_a (a_iload_n dX7_goes_0 rfl) (mpp 1 rfl ?_)
  refine mp_a (a_iconst (v := 0) dX7_goes_1 rfl) (mpp 2 rfl ?_)
  have p2 : 0 ≤ t1.toInt := by omega
  have p3 : t1.toInt ≤ 8 := by omega
  have p4 : 0 ≤ (0 : Int) := by omega
  have p5 : (0 : Int) ≤ 20 := by omega
  refine mp_calls (i := 74) (q' := q_135) (As := [.int t1, .int 0]) (rest := []) dX7_goes_2 rfl qm_135 (by decide) rfl (Nat.le_of_ble_eq_true rfl) rfl ⟨rfl, rfl⟩ ⟨Nat.le_of_ble_eq_true rfl, Nat.le_of_ble_eq_true rfl⟩ (EvP.mono (by decide) (c_M_at hT p2 p3 p4 p5 )) (fun r6 P7 g8 => mpp 5 rfl ?_)
  obtain ⟨⟨x9, rfl, g10⟩, e11⟩ := g8
  have e11 := e11.symm
  subst e11
  have wx9 := ti_full x9
  replace g10 : x9.toInt = 3 + 19 * t1.toInt + (0 : Int) := g10
  show MEvP _ none q_155 5 [(0, .ref 301), (1, .int t1)] [.int x9] _ _ _ _
  refine mp_a (a_istore_n (L' := [(2, .int x9), (0, .ref 301), (1, .int t1)]) dX7_goes_5 (by decide) rfl) (mpp 6 rfl ?_)
  refine MEvP.less (L := [(0, .ref 301), (1, .int t1), (2, .int x9)]) rfl rfl ⟨rfl, rfl, rfl, trivial⟩ ?_
  have i12 : Mv Po Po (3 + 19 * t1.toInt.toNat) x9.toInt.toNat := Mv.start (by omega)
  have i13 : 3 + 19 * t1.toInt ≤ x9.toInt := by omega
  have i14 : x9.toInt ≤ 19 * (fv Po 302 0).toInt - 16 := by omega
  have i15 : (fv Po 302 0).toInt = (fv Po 302 0).toInt := by omega
  have i16 : (fv Po 302 0).toInt ≤ 8 := by omega
  have i17 : KI 302 303 Po Po := KI.refl
  exact c_M_goes_l6  hR hp0 hp1 _ _ Po hT KW.refl i12 i13 i14 i15 i16 i17 rfl

set_option maxHeartbeats 4000000 in
theorem c_M_joins_l166 {Po : mP} {t1 : Int32} {t2 : Int32} {t3 : Int32}  : ∀ (n : Nat) (v4 : Int32) (v5 : Int32) (v6 : Int32), ∀ (P : mP), Typ P → KW [1093, 1094, 1152] Po P → Rel P → (0 ≤ t1.toInt ∧ t1.toInt ≤ 7 ∧ 0 ≤ t2.toInt ∧ t2.toInt ≤ 7 ∧ ¬ t1.toInt = t2.toInt) → (v4.toInt = (fv Po 302 (4 + 19 * t1.toInt.toNat)).toInt ∧ v5.toInt = (fv Po 302 (4 + 19 * t2.toInt.toNat)).toInt ∧ v4.toInt + v5.toInt ≤ 7 ∧ 2 ≤ v4.toInt ∧ 2 ≤ v5.toInt) → ((fv P 302 0).toInt = (fv Po 302 0).toInt ∧ t2.toInt + 1 ≤ (fv Po 302 0).toInt ∧ t1.toInt + 1 ≤ (fv Po 302 0).toInt ∧ (fv Po 302 0).toInt ≤ 8) → (W2 Po P (fun _ => False) (6 + 19 * t1.toInt.toNat + (fv Po 302 (4 + 19 * t1.toInt.toNat)).toInt.toNat) (13 + 19 * t1.toInt.toNat + (fv Po 302 (4 + 19 * t1.toInt.toNat)).toInt.toNat) (fun j : Nat => fv Po 302 (6 + 19 * t2.toInt.toNat + j)) (fun j : Nat => if j = 0 then t3 else fv Po 302 (13 + 19 * t2.toInt.toNat + j)) v6.toInt.toNat (1 + min v6.toInt ((fv Po 302 (4 + 19 * t2.toInt.toNat)).toInt - 1)).toNat) → (v6.toInt ≤ v5.toInt) → ((fv Po 302 (5 + 19 * t1.toInt.toNat)).toInt ≠ 1 ∧ (fv Po 302 (5 + 19 * t2.toInt.toNat)).toInt ≠ 1 ∧ (fv Po 302 (3 + 19 * t1.toInt.toNat)).toInt = 0 ∧ (fv Po 302 (3 + 19 * t2.toInt.toNat)).toInt = 0 ∧ 0 ≤ t3.toInt ∧ t3.toInt ≤ 2) → (0 ≤ v6.toInt) → (2147483647 - v6.toInt).toNat = n → MEvP 3 none q_154 166 [(0, .ref 301), (1, .int t1), (2, .int t2), (3, .int t3), (4, .int v4), (5, .int v5), (6, .int v6)] [] P 0 0 (fun r P' => (∃ x : Int32, r = some (.int x) ∧ (joinsM (sr Po) (sr P') x.toInt t1.toInt t2.toInt t3.toInt)) ∧ Typ P' ∧ KW [1093, 1094, 1152] Po P' ∧ Rel P') := by
  intro n
  induction n using Nat.strongRecOn with | _ n ih => ?_
  intro v4 v5 v6 P hT hK hR i_0 i_1 i_2 i_3 i_4 i_5 i_6 hm
  have w_t1 := ti_full t1
  have w_t2 := ti_full t2
  have w_t3 := ti_full t3
  have w_v4 := ti_full v4
  have w_v5 := ti_full v5
  have w_v6 := ti_full v6
  have g1 : (0 : Int) ≤ (fv P 302 0).toInt ∧ (fv P 302 0).toInt ≤ 8 := Typ.rng hT rl_302 (by decide) (by decide) rfl
  have g2 : (0 : Int) ≤ (fv P 302 0).toInt ∧ (fv P 302 0).toInt ≤ 8 := Typ.rng hT rl_302 (by decide) (by decide) rfl
  refine mp_a (a_iload dX7_joins_166 rfl) (mpp 168 rfl ?_)
  refine mp_a (a_iload dX7_joins_168 rfl) (mpp 170 rfl ?_)
  refine mp_Tb (t := 235) (j_icmp_ge dX7_joins_170) (by decide) (fun c3 => ?_) (fun c3 => mpp 173 rfl ?_)
  · have c3 : v6.toInt ≥ v5.toInt := ti_ge c3
    refine mp_a (a_aload_n dX7_joins_235 rfl) (mpp 236 rfl ?_)
    refine mt_getU (i := 9) (k := 0) (A := 302) hT dX7_joins_236 rfl rl_301 (by decide) rfl (by decide) rfl un_18 (mpp 239 rfl ?_)
    refine mp_a (a_iload_n dX7_joins_239 rfl) (mpp 240 rfl ?_)
    refine mp_a (a_iconst (v := 1) dX7_joins_240 rfl) (mpp 241 rfl ?_)
    have p4 : 0 ≤ t1.toInt := by omega
    have p5 : t1.toInt ≤ 8 := by omega
    have p6 : 0 ≤ (1 : Int) := by omega
    have p7 : (1 : Int) ≤ 20 := by omega
    refine mp_calls (i := 74) (q' := q_135) (As := [.int t1, .int 1]) (rest := [.ref 302]) dX7_joins_241 rfl qm_135 (by decide) rfl (Nat.le_of_ble_eq_true rfl) rfl ⟨rfl, rfl⟩ ⟨Nat.le_of_ble_eq_true rfl, Nat.le_of_ble_eq_true rfl⟩ (EvP.mono (by decide) (c_M_at hT p4 p5 p6 p7 )) (fun r8 P9 g10 => mpp 244 rfl ?_)
    obtain ⟨⟨x11, rfl, g12⟩, e13⟩ := g10
    have e13 := e13.symm
    subst e13
    have wx11 := ti_full x11
    replace g12 : x11.toInt = 3 + 19 * t1.toInt + (1 : Int) := g12
    show MEvP _ none q_154 244 [(0, .ref 301), (1, .int t1), (2, .int t2), (3, .int t3), (4, .int v4), (5, .int v5), (6, .int v6)] [.int x11, .ref 302] _ _ _ _
    refine mp_a (a_iload dX7_joins_244 rfl) (mpp 246 rfl ?_)
    refine mp_a (a_iload dX7_joins_246 rfl) (mpp 248 rfl ?_)
    obtain ⟨z14, h15⟩ := ti_ex (v4 + v5 : Int32)
    have wz14 := ti_full z14
    refine mp_t (s_iadd (v := z14) dX7_joins_248 h15) (mpp 249 rfl ?_)
    try have e16 : z14.toInt = v4.toInt + v5.toInt := ti_addz h15 rfl rfl (by omega) (by omega)
    refine mt_iasX (n := 155) hT dX7_joins_249 rl_302 (by decide) rfl rfl (by omega) (by omega) ssp_0 (okS_mk (by omega) (fun _ => ⟨by omega, by omega⟩) (fun _ => ⟨by omega, by omega⟩)) (fun P17 hT18 f19 f20 f21 => mpp 250 rfl ?_)
    have k22 : KW [1093, 1094, 1152] Po P17 := KW.step hK rl_302 rfl f20 f21
    have R23 := Rel.siz hR (p := t1.toInt.toNat) f20 f19 (by omega) (by omega) ⟨by omega, by omega⟩
    refine mp_a (a_aload_n dX7_joins_250 rfl) (mpp 251 rfl ?_)
    refine mp_a (a_iload_n dX7_joins_251 rfl) (mpp 252 rfl ?_)
    have e24 : (fv P17 302 0).toInt = (fv P 302 0).toInt := congrArg Int32.toInt (f20 302 0 (ne_i (by omega)))
    have p25 : 0 ≤ t2.toInt := by omega
    have p26 : t2.toInt + 1 ≤ (fv P17 302 0).toInt := by omega
    refine mt_callv (i := 148) (q' := q_155) (As := [.int t2]) (rest := []) hT18 dX7_joins_252 rfl qm_155 (by decide) rfl rl_301 (by decide) rfl (Nat.le_of_ble_eq_true rfl) rfl ⟨rfl, rfl⟩ ⟨Nat.le_of_ble_eq_true rfl, Nat.le_of_ble_eq_true rfl⟩ (EvP.mono (by decide) (c_M_goes hT18 R23 p25 p26 )) (fun r27 P28 g29 => mpp 255 rfl ?_)
    obtain ⟨⟨rfl, g31⟩, hT32, k33, R34r, R34⟩ := g29
    have k35 : KW [1093, 1094, 1152] Po P28 := KW.trans k22 k33 rfl
    show MEvP _ none q_154 255 [(0, .ref 301), (1, .int t1), (2, .int t2), (3, .int t3), (4, .int v4), (5, .int v5), (6, .int v6)] [] _ _ _ _
    refine mp_a (a_iload dX7_joins_255 rfl) (mpp 257 rfl ?_)
    refine mp_a (a_iload dX7_joins_257 rfl) (mpp 259 rfl ?_)
    obtain ⟨z37, h38⟩ := ti_ex (v4 + v5 : Int32)
    have wz37 := ti_full z37
    refine mp_t (s_iadd (v := z37) dX7_joins_259 h38) (mpp 260 rfl ?_)
    try have e39 : z37.toInt = v4.toInt + v5.toInt := ti_addz h38 rfl rfl (by omega) (by omega)
    have e41 : (fv P17 302 0).toInt = (fv P 302 0).toInt := congrArg Int32.toInt (f20 302 0 (by omega))
    have e42 : (fv P17 302 1).toInt = (fv P 302 1).toInt := congrArg Int32.toInt (f20 302 1 (by omega))
    have e43 : (fv P17 302 2).toInt = (fv P 302 2).toInt := congrArg Int32.toInt (f20 302 2 (by omega))
    have w44_ := i_3.fin (i' := (fv Po 302 (4 + 19 * t2.toInt.toNat)).toInt.toNat) (k' := (fv Po 302 (4 + 19 * t2.toInt.toNat)).toInt.toNat) (by omega) (by omega)
    have u40 : joinsM (sr Po) (sr P28) z37.toInt t1.toInt t2.toInt t3.toInt := (show (z37.toInt = -1001 ∧ ((t1.toInt < 0 ∨ (fv Po 302 (0)).toInt ≤ t1.toInt) ∨ (t2.toInt < 0 ∨ (fv Po 302 (0)).toInt ≤ t2.toInt) ∨ t1.toInt = t2.toInt) ∧ (∀ j : Nat, fv P28 302 j = fv Po 302 j)) ∨ (z37.toInt = -1002 ∧ (0 ≤ t1.toInt ∧ t1.toInt + 1 ≤ (fv Po 302 (0)).toInt ∧ t1.toInt ≤ 7) ∧ (0 ≤ t2.toInt ∧ t2.toInt + 1 ≤ (fv Po 302 (0)).toInt ∧ t2.toInt ≤ 7) ∧ ¬ t1.toInt = t2.toInt ∧ (t3.toInt < 0 ∨ 2 < t3.toInt) ∧ (∀ j : Nat, fv P28 302 j = fv Po 302 j)) ∨ (z37.toInt = -1003 ∧ (0 ≤ t1.toInt ∧ t1.toInt + 1 ≤ (fv Po 302 (0)).toInt ∧ t1.toInt ≤ 7) ∧ (0 ≤ t2.toInt ∧ t2.toInt + 1 ≤ (fv Po 302 (0)).toInt ∧ t2.toInt ≤ 7) ∧ ¬ t1.toInt = t2.toInt ∧ (0 ≤ t3.toInt ∧ t3.toInt ≤ 2) ∧ ((fv Po 302 (5 + 19 * t1.toInt.toNat)).toInt = 1 ∨ (fv Po 302 (5 + 19 * t2.toInt.toNat)).toInt = 1 ∨ (fv Po 302 (3 + 19 * t1.toInt.toNat)).toInt = 1 ∨ (fv Po 302 (3 + 19 * t2.toInt.toNat)).toInt = 1 ∨ 7 < (fv Po 302 (4 + 19 * t1.toInt.toNat)).toInt + (fv Po 302 (4 + 19 * t2.toInt.toNat)).toInt) ∧ (∀ j : Nat, fv P28 302 j = fv Po 302 j)) ∨ ((0 ≤ t1.toInt ∧ t1.toInt + 1 ≤ (fv Po 302 (0)).toInt ∧ t1.toInt ≤ 7) ∧ (0 ≤ t2.toInt ∧ t2.toInt + 1 ≤ (fv Po 302 (0)).toInt ∧ t2.toInt ≤ 7) ∧ ¬ t1.toInt = t2.toInt ∧ (0 ≤ t3.toInt ∧ t3.toInt ≤ 2) ∧ (¬ (fv Po 302 (5 + 19 * t1.toInt.toNat)).toInt = 1 ∧ ¬ (fv Po 302 (5 + 19 * t2.toInt.toNat)).toInt = 1 ∧ (fv Po 302 (3 + 19 * t1.toInt.toNat)).toInt = 0 ∧ (fv Po 302 (3 + 19 * t2.toInt.toNat)).toInt = 0 ∧ (fv Po 302 (4 + 19 * t1.toInt.toNat)).toInt + (fv Po 302 (4 + 19 * t2.toInt.toNat)).toInt ≤ 7) ∧ z37.toInt = (fv Po 302 (4 + 19 * t1.toInt.toNat)).toInt + (fv Po 302 (4 + 19 * t2.toInt.toNat)).toInt ∧ (fv P28 302 (0)).toInt = (fv Po 302 (0)).toInt - 1 ∧ (∃ m : Nat → Int32, (∀ j : Nat, j < ((fv Po 302 (4 + 19 * t2.toInt.toNat)).toInt).toNat → m (6 + 19 * t1.toInt.toNat + ((fv Po 302 (4 + 19 * t1.toInt.toNat)).toInt).toNat + j) = fv Po 302 (6 + 19 * t2.toInt.toNat + j)) ∧ (m (13 + 19 * t1.toInt.toNat + ((fv Po 302 (4 + 19 * t1.toInt.toNat)).toInt).toNat)).toInt = t3.toInt ∧ (∀ j : Nat, 1 ≤ j → j < ((fv Po 302 (4 + 19 * t2.toInt.toNat)).toInt).toNat → m (13 + 19 * t1.toInt.toNat + ((fv Po 302 (4 + 19 * t1.toInt.toNat)).toInt).toNat + j) = fv Po 302 (13 + 19 * t2.toInt.toNat + j)) ∧ (m (4 + 19 * t1.toInt.toNat)).toInt = (fv Po 302 (4 + 19 * t1.toInt.toNat)).toInt + (fv Po 302 (4 + 19 * t2.toInt.toNat)).toInt ∧ (∀ j : Nat, ¬ j = 4 + 19 * t1.toInt.toNat → ¬ (6 + 19 * t1.toInt.toNat + ((fv Po 302 (4 + 19 * t1.toInt.toNat)).toInt).toNat ≤ j ∧ j < 6 + 19 * t1.toInt.toNat + ((fv Po 302 (4 + 19 * t1.toInt.toNat)).toInt).toNat + ((fv Po 302 (4 + 19 * t2.toInt.toNat)).toInt).toNat) → ¬ (13 + 19 * t1.toInt.toNat + ((fv Po 302 (4 + 19 * t1.toInt.toNat)).toInt).toNat ≤ j ∧ j < 13 + 19 * t1.toInt.toNat + ((fv Po 302 (4 + 19 * t1.toInt.toNat)).toInt).toNat + ((fv Po 302 (4 + 19 * t2.toInt.toNat)).toInt).toNat) → m j = fv Po 302 j) ∧ ∀ j : Nat, 1 ≤ j → fv P28 302 j = if 3 + 19 * t2.toInt.toNat ≤ j ∧ j < 3 + 19 * ((fv Po 302 (0)).toInt - 1).toNat then m (j + 19) else m j)) from Or.inr (Or.inr (Or.inr (⟨by omega, by omega, by omega, by omega, by omega, by omega, by omega, ⟨sr P17, fun j hj => (f20 302 _ (by omega)).trans (w44_.1 j hj), by show (fv P17 302 (13 + 19 * t1.toInt.toNat + (fv Po 302 (4 + 19 * t1.toInt.toNat)).toInt.toNat)).toInt = _; rw [f20 302 _ (by omega)]; exact congrArg Int32.toInt (w44_.2.1 0 (by omega)), fun j h1 hj => (f20 302 _ (by omega)).trans ((w44_.2.1 j hj).trans (if_neg (by omega))), (congrArg (fun k => (fv P17 302 k).toInt) (show 4 + 19 * t1.toInt.toNat = x11.toInt.toNat from by omega)).trans ((congrArg Int32.toInt f19).trans (by omega)), fun j h1 h2 h3 => (f20 302 j (by omega)).trans (w44_.2.2 j (fun h => h) (by omega) (by omega)), fun j hj => by rw [show ((fv Po 302 0).toInt - 1) = ((fv P17 302 0).toInt - 1) from by omega]; exact R34.1 j hj⟩⟩))))
    exact mp_iret ⟨⟨_, rfl, u40⟩, hT32, k35, R34r⟩ dX7_joins_260 (Or.inl rfl)
  · have c3 : v6.toInt < v5.toInt := ti_ge_n c3
    refine mp_a (a_aload_n dX7_joins_173 rfl) (mpp 174 rfl ?_)
    refine mt_getU (i := 9) (k := 0) (A := 302) hT dX7_joins_174 rfl rl_301 (by decide) rfl (by decide) rfl un_18 (mpp 177 rfl ?_)
    refine mp_a (a_iload_n dX7_joins_177 rfl) (mpp 178 rfl ?_)
    refine mp_a (a_iconst (v := 3) dX7_joins_178 rfl) (mpp 179 rfl ?_)
    refine mp_a (a_iload dX7_joins_179 rfl) (mpp 181 rfl ?_)
    obtain ⟨z45, h46⟩ := ti_ex (3 + v4 : Int32)
    have wz45 := ti_full z45
    refine mp_t (s_iadd (v := z45) dX7_joins_181 h46) (mpp 182 rfl ?_)
    try have e47 : z45.toInt = 3 + v4.toInt := ti_addz h46 rfl rfl (by omega) (by omega)
    refine mp_a (a_iload dX7_joins_182 rfl) (mpp 184 rfl ?_)
    obtain ⟨z48, h49⟩ := ti_ex (z45 + v6 : Int32)
    have wz48 := ti_full z48
    refine mp_t (s_iadd (v := z48) dX7_joins_184 h49) (mpp 185 rfl ?_)
    try have e50 : z48.toInt = z45.toInt + v6.toInt := ti_addz h49 rfl rfl (by omega) (by omega)
    have p51 : 0 ≤ t1.toInt := by omega
    have p52 : t1.toInt ≤ 8 := by omega
    have p53 : 0 ≤ z48.toInt := by omega
    have p54 : z48.toInt ≤ 20 := by omega
    refine mp_calls (i := 74) (q' := q_135) (As := [.int t1, .int z48]) (rest := [.ref 302]) dX7_joins_185 rfl qm_135 (by decide) rfl (Nat.le_of_ble_eq_true rfl) rfl ⟨rfl, rfl⟩ ⟨Nat.le_of_ble_eq_true rfl, Nat.le_of_ble_eq_true rfl⟩ (EvP.mono (by decide) (c_M_at hT p51 p52 p53 p54 )) (fun r55 P56 g57 => mpp 188 rfl ?_)
    obtain ⟨⟨x58, rfl, g59⟩, e60⟩ := g57
    have e60 := e60.symm
    subst e60
    have wx58 := ti_full x58
    replace g59 : x58.toInt = 3 + 19 * t1.toInt + z48.toInt := g59
    show MEvP _ none q_154 188 [(0, .ref 301), (1, .int t1), (2, .int t2), (3, .int t3), (4, .int v4), (5, .int v5), (6, .int v6)] [.int x58, .ref 302] _ _ _ _
    refine mp_a (a_aload_n dX7_joins_188 rfl) (mpp 189 rfl ?_)
    refine mp_a (a_iload_n dX7_joins_189 rfl) (mpp 190 rfl ?_)
    refine mp_a (a_iload dX7_joins_190 rfl) (mpp 192 rfl ?_)
    have p61 : 0 ≤ t2.toInt := by omega
    have p62 : t2.toInt ≤ 7 := by omega
    have p63 : 0 ≤ v6.toInt := by omega
    have p64 : v6.toInt ≤ 7 := by omega
    refine mt_callv (i := 142) (q' := q_152) (As := [.int t2, .int v6]) (rest := [.int x58, .ref 302]) hT dX7_joins_192 rfl qm_152 (by decide) rfl rl_301 (by decide) rfl (Nat.le_of_ble_eq_true rfl) rfl ⟨rfl, rfl⟩ ⟨Nat.le_of_ble_eq_true rfl, Nat.le_of_ble_eq_true rfl⟩ (EvP.mono (by decide) (c_M_sizeOf hT p61 p62 p63 p64 )) (fun r65 P66 g67 => mpp 195 rfl ?_)
    obtain ⟨⟨x68, rfl, g69⟩, e70⟩ := g67
    have e70 := e70.symm
    subst e70
    have wx68 := ti_full x68
    replace g69 : x68.toInt = (fv P 302 (6 + 19 * t2.toInt.toNat + v6.toInt.toNat)).toInt := g69
    show MEvP _ none q_154 195 [(0, .ref 301), (1, .int t1), (2, .int t2), (3, .int t3), (4, .int v4), (5, .int v5), (6, .int v6)] [.int x68, .int x58, .ref 302] _ _ _ _
    refine mt_iasX (n := 155) hT dX7_joins_195 rl_302 (by decide) rfl rfl (by omega) (by omega) ssp_0 (okS_mk (by omega) (fun _ => ⟨by omega, by omega⟩) (fun _ => ⟨by omega, by omega⟩)) (fun P71 hT72 f73 f74 f75 => mpp 196 rfl ?_)
    have k76 : KW [1093, 1094, 1152] Po P71 := KW.step hK rl_302 rfl f74 f75
    have R77 := Rel.oth hR f74 (by omega)
    refine mp_a (a_iload dX7_joins_196 rfl) (mpp 198 rfl ?_)
    refine mp_a (a_iload dX7_joins_198 rfl) (mpp 200 rfl ?_)
    refine mp_a (a_iconst (v := 1) dX7_joins_200 rfl) (mpp 201 rfl ?_)
    obtain ⟨z78, h79⟩ := ti_ex (v5 - 1 : Int32)
    have wz78 := ti_full z78
    refine mp_t (s_isub (v := z78) dX7_joins_201 h79) (mpp 202 rfl ?_)
    try have e80 : z78.toInt = v5.toInt - 1 := ti_subz h79 rfl rfl (by omega) (by omega)
    refine mp_Tb (t := 229) (j_icmp_ge dX7_joins_202) (by decide) (fun c81 => ?_) (fun c81 => mpp 205 rfl ?_)
    · have c81 : v6.toInt ≥ z78.toInt := ti_ge c81
      obtain ⟨z82, h83⟩ := ti_ex (v6 + 1 : Int32)
      have wz82 := ti_full z82
      refine mp_a (a_iinc (v := z82) (L' := [(6, .int z82), (0, .ref 301), (1, .int t1), (2, .int t2), (3, .int t3), (4, .int v4), (5, .int v5)]) dX7_joins_229 (by decide) rfl h83 rfl) (mpp 232 rfl ?_)
      try have e84 : z82.toInt = v6.toInt + 1 := ti_addz h83 rfl rfl (by omega) (by omega)
      refine mp_a (a_goto (t := 166) dX7_joins_232 (by decide)) ?_
      refine MEvP.less (L := [(0, .ref 301), (1, .int t1), (2, .int t2), (3, .int t3), (4, .int v4), (5, .int v5), (6, .int z82)]) rfl rfl ⟨rfl, rfl, rfl, rfl, rfl, rfl, rfl, trivial⟩ ?_
      have i85 : 0 ≤ t1.toInt ∧ t1.toInt ≤ 7 ∧ 0 ≤ t2.toInt ∧ t2.toInt ≤ 7 ∧ ¬ t1.toInt = t2.toInt := by omega
      have i86 : v4.toInt = (fv Po 302 (4 + 19 * t1.toInt.toNat)).toInt ∧ v5.toInt = (fv Po 302 (4 + 19 * t2.toInt.toNat)).toInt ∧ v4.toInt + v5.toInt ≤ 7 ∧ 2 ≤ v4.toInt ∧ 2 ≤ v5.toInt := by omega
      have e87 : (fv P71 302 0).toInt = (fv P 302 0).toInt := congrArg Int32.toInt (f74 302 0 (ne_i (by omega)))
      have i88 : (fv P71 302 0).toInt = (fv Po 302 0).toInt ∧ t2.toInt + 1 ≤ (fv Po 302 0).toInt ∧ t1.toInt + 1 ≤ (fv Po 302 0).toInt ∧ (fv Po 302 0).toInt ≤ 8 := by omega
      have w90_r : fv P 302 (6 + 19 * t2.toInt.toNat + v6.toInt.toNat) = fv Po 302 (6 + 19 * t2.toInt.toNat + v6.toInt.toNat) := i_3.2.2 _ (fun h => h) (by omega) (by omega)
      have w90_ := W2.one i_3 (i' := v6.toInt.toNat + 1) rfl (n := x58.toInt.toNat) (by omega) (congrArg Int32.toInt f73) (show x68.toInt = (fv Po 302 (6 + 19 * t2.toInt.toNat + v6.toInt.toNat)).toInt from by rw [← w90_r]; exact g69) (fun j hj => f74 302 j (fun e => hj e.2)) (Or.inl (by omega))
      have i89 : W2 Po P71 (fun _ => False) (6 + 19 * t1.toInt.toNat + (fv Po 302 (4 + 19 * t1.toInt.toNat)).toInt.toNat) (13 + 19 * t1.toInt.toNat + (fv Po 302 (4 + 19 * t1.toInt.toNat)).toInt.toNat) (fun j : Nat => fv Po 302 (6 + 19 * t2.toInt.toNat + j)) (fun j : Nat => if j = 0 then t3 else fv Po 302 (13 + 19 * t2.toInt.toNat + j)) z82.toInt.toNat (1 + min z82.toInt ((fv Po 302 (4 + 19 * t2.toInt.toNat)).toInt - 1)).toNat := w90_.fin (by omega) (by omega)
      have i91 : z82.toInt ≤ v5.toInt := by omega
      have i92 : (fv Po 302 (5 + 19 * t1.toInt.toNat)).toInt ≠ 1 ∧ (fv Po 302 (5 + 19 * t2.toInt.toNat)).toInt ≠ 1 ∧ (fv Po 302 (3 + 19 * t1.toInt.toNat)).toInt = 0 ∧ (fv Po 302 (3 + 19 * t2.toInt.toNat)).toInt = 0 ∧ 0 ≤ t3.toInt ∧ t3.toInt ≤ 2 := by omega
      have i93 : 0 ≤ z82.toInt := by omega
      exact ih _ (by omega) _ _ _ P71 hT72 k76 R77 i85 i86 i88 i89 i91 i92 i93 rfl
    · have c81 : v6.toInt < z78.toInt := ti_ge_n c81
      refine mp_a (a_aload_n dX7_joins_205 rfl) (mpp 206 rfl ?_)
      refine mt_getU (i := 9) (k := 0) (A := 302) hT72 dX7_joins_206 rfl rl_301 (by decide) rfl (by decide) rfl un_18 (mpp 209 rfl ?_)
      refine mp_a (a_iload_n dX7_joins_209 rfl) (mpp 210 rfl ?_)
      refine mp_a (a_bipush (v := 11) dX7_joins_210 rfl) (mpp 212 rfl ?_)
      refine mp_a (a_iload dX7_joins_212 rfl) (mpp 214 rfl ?_)
      obtain ⟨z94, h95⟩ := ti_ex (11 + v4 : Int32)
      have wz94 := ti_full z94
      refine mp_t (s_iadd (v := z94) dX7_joins_214 h95) (mpp 215 rfl ?_)
      try have e96 : z94.toInt = 11 + v4.toInt := ti_addz h95 rfl rfl (by omega) (by omega)
      refine mp_a (a_iload dX7_joins_215 rfl) (mpp 217 rfl ?_)
      obtain ⟨z97, h98⟩ := ti_ex (z94 + v6 : Int32)
      have wz97 := ti_full z97
      refine mp_t (s_iadd (v := z97) dX7_joins_217 h98) (mpp 218 rfl ?_)
      try have e99 : z97.toInt = z94.toInt + v6.toInt := ti_addz h98 rfl rfl (by omega) (by omega)
      have p100 : 0 ≤ t1.toInt := by omega
      have p101 : t1.toInt ≤ 8 := by omega
      have p102 : 0 ≤ z97.toInt := by omega
      have p103 : z97.toInt ≤ 20 := by omega
      refine mp_calls (i := 74) (q' := q_135) (As := [.int t1, .int z97]) (rest := [.ref 302]) dX7_joins_218 rfl qm_135 (by decide) rfl (Nat.le_of_ble_eq_true rfl) rfl ⟨rfl, rfl⟩ ⟨Nat.le_of_ble_eq_true rfl, Nat.le_of_ble_eq_true rfl⟩ (EvP.mono (by decide) (c_M_at hT72 p100 p101 p102 p103 )) (fun r104 P105 g106 => mpp 221 rfl ?_)
      obtain ⟨⟨x107, rfl, g108⟩, e109⟩ := g106
      have e109 := e109.symm
      subst e109
      have wx107 := ti_full x107
      replace g108 : x107.toInt = 3 + 19 * t1.toInt + z97.toInt := g108
      show MEvP _ none q_154 221 [(0, .ref 301), (1, .int t1), (2, .int t2), (3, .int t3), (4, .int v4), (5, .int v5), (6, .int v6)] [.int x107, .ref 302] _ _ _ _
      refine mp_a (a_aload_n dX7_joins_221 rfl) (mpp 222 rfl ?_)
      refine mp_a (a_iload_n dX7_joins_222 rfl) (mpp 223 rfl ?_)
      refine mp_a (a_iload dX7_joins_223 rfl) (mpp 225 rfl ?_)
      have p110 : 0 ≤ t2.toInt := by omega
      have p111 : t2.toInt ≤ 7 := by omega
      have p112 : 0 ≤ v6.toInt := by omega
      have p113 : v6.toInt ≤ 7 := by omega
      refine mt_callv (i := 92) (q' := q_146) (As := [.int t2, .int v6]) (rest := [.int x107, .ref 302]) hT72 dX7_joins_225 rfl qm_146 (by decide) rfl rl_301 (by decide) rfl (Nat.le_of_ble_eq_true rfl) rfl ⟨rfl, rfl⟩ ⟨Nat.le_of_ble_eq_true rfl, Nat.le_of_ble_eq_true rfl⟩ (EvP.mono (by decide) (c_M_creaseOf hT72 p110 p111 p112 p113 )) (fun r114 P115 g116 => mpp 228 rfl ?_)
      obtain ⟨⟨x117, rfl, g118⟩, e119⟩ := g116
      have e119 := e119.symm
      subst e119
      have wx117 := ti_full x117
      replace g118 : x117.toInt = (fv P71 302 (14 + 19 * t2.toInt.toNat + v6.toInt.toNat)).toInt := g118
      show MEvP _ none q_154 228 [(0, .ref 301), (1, .int t1), (2, .int t2), (3, .int t3), (4, .int v4), (5, .int v5), (6, .int v6)] [.int x117, .int x107, .ref 302] _ _ _ _
      refine mt_iasX (n := 155) hT72 dX7_joins_228 rl_302 (by decide) rfl rfl (by omega) (by omega) ssp_0 (okS_mk (by omega) (fun _ => ⟨by omega, by omega⟩) (fun _ => ⟨by omega, by omega⟩)) (fun P120 hT121 f122 f123 f124 => mpp 229 rfl ?_)
      have k125 : KW [1093, 1094, 1152] Po P120 := KW.step k76 rl_302 rfl f123 f124
      have R126 := Rel.oth R77 f123 (by omega)
      obtain ⟨z127, h128⟩ := ti_ex (v6 + 1 : Int32)
      have wz127 := ti_full z127
      refine mp_a (a_iinc (v := z127) (L' := [(6, .int z127), (0, .ref 301), (1, .int t1), (2, .int t2), (3, .int t3), (4, .int v4), (5, .int v5)]) dX7_joins_229 (by decide) rfl h128 rfl) (mpp 232 rfl ?_)
      try have e129 : z127.toInt = v6.toInt + 1 := ti_addz h128 rfl rfl (by omega) (by omega)
      refine mp_a (a_goto (t := 166) dX7_joins_232 (by decide)) ?_
      refine MEvP.less (L := [(0, .ref 301), (1, .int t1), (2, .int t2), (3, .int t3), (4, .int v4), (5, .int v5), (6, .int z127)]) rfl rfl ⟨rfl, rfl, rfl, rfl, rfl, rfl, rfl, trivial⟩ ?_
      have i130 : 0 ≤ t1.toInt ∧ t1.toInt ≤ 7 ∧ 0 ≤ t2.toInt ∧ t2.toInt ≤ 7 ∧ ¬ t1.toInt = t2.toInt := by omega
      have i131 : v4.toInt = (fv Po 302 (4 + 19 * t1.toInt.toNat)).toInt ∧ v5.toInt = (fv Po 302 (4 + 19 * t2.toInt.toNat)).toInt ∧ v4.toInt + v5.toInt ≤ 7 ∧ 2 ≤ v4.toInt ∧ 2 ≤ v5.toInt := by omega
      have e132 : (fv P120 302 0).toInt = (fv P 302 0).toInt := congrArg Int32.toInt ((f123 302 0 (ne_i (by omega))).trans (f74 302 0 (ne_i (by omega))))
      have i133 : (fv P120 302 0).toInt = (fv Po 302 0).toInt ∧ t2.toInt + 1 ≤ (fv Po 302 0).toInt ∧ t1.toInt + 1 ≤ (fv Po 302 0).toInt ∧ (fv Po 302 0).toInt ≤ 8 := by omega
      have w135_r : fv P 302 (6 + 19 * t2.toInt.toNat + v6.toInt.toNat) = fv Po 302 (6 + 19 * t2.toInt.toNat + v6.toInt.toNat) := i_3.2.2 _ (fun h => h) (by omega) (by omega)
      have w135_ := W2.one i_3 (i' := v6.toInt.toNat + 1) rfl (n := x58.toInt.toNat) (by omega) (congrArg Int32.toInt f73) (show x68.toInt = (fv Po 302 (6 + 19 * t2.toInt.toNat + v6.toInt.toNat)).toInt from by rw [← w135_r]; exact g69) (fun j hj => f74 302 j (fun e => hj e.2)) (Or.inl (by omega))
      have w135_s : fv P71 302 (14 + 19 * t2.toInt.toNat + v6.toInt.toNat) = fv Po 302 (14 + 19 * t2.toInt.toNat + v6.toInt.toNat) := (f74 302 (14 + 19 * t2.toInt.toNat + v6.toInt.toNat) (by omega)).trans (i_3.2.2 _ (fun h => h) (by omega) (by omega))
      have w135_k : (1 + min v6.toInt ((fv Po 302 (4 + 19 * t2.toInt.toNat)).toInt - 1)).toNat = v6.toInt.toNat + 1 := by omega
      rw [w135_k] at w135_
      have i134 : W2 Po P120 (fun _ => False) (6 + 19 * t1.toInt.toNat + (fv Po 302 (4 + 19 * t1.toInt.toNat)).toInt.toNat) (13 + 19 * t1.toInt.toNat + (fv Po 302 (4 + 19 * t1.toInt.toNat)).toInt.toNat) (fun j : Nat => fv Po 302 (6 + 19 * t2.toInt.toNat + j)) (fun j : Nat => if j = 0 then t3 else fv Po 302 (13 + 19 * t2.toInt.toNat + j)) z127.toInt.toNat (1 + min z127.toInt ((fv Po 302 (4 + 19 * t2.toInt.toNat)).toInt - 1)).toNat := (W2.two w135_ (k' := v6.toInt.toNat + 2) rfl (n := x107.toInt.toNat) (by omega) (congrArg Int32.toInt f122) (show x117.toInt = (if v6.toInt.toNat + 1 = 0 then t3 else fv Po 302 (13 + 19 * t2.toInt.toNat + (v6.toInt.toNat + 1))).toInt from by rw [if_neg (by omega), show 13 + 19 * t2.toInt.toNat + (v6.toInt.toNat + 1) = 14 + 19 * t2.toInt.toNat + v6.toInt.toNat from by omega, ← w135_s]; exact g118) (fun j hj => f123 302 j (fun e => hj e.2)) (Or.inr (by omega))).fin (by omega) (by omega)
      have i136 : z127.toInt ≤ v5.toInt := by omega
      have i137 : (fv Po 302 (5 + 19 * t1.toInt.toNat)).toInt ≠ 1 ∧ (fv Po 302 (5 + 19 * t2.toInt.toNat)).toInt ≠ 1 ∧ (fv Po 302 (3 + 19 * t1.toInt.toNat)).toInt = 0 ∧ (fv Po 302 (3 + 19 * t2.toInt.toNat)).toInt = 0 ∧ 0 ≤ t3.toInt ∧ t3.toInt ≤ 2 := by omega
      have i138 : 0 ≤ z127.toInt := by omega
      exact ih _ (by omega) _ _ _ P120 hT121 k125 R126 i130 i131 i133 i134 i136 i137 i138 rfl

