/-! methods on typed pools, 53 (written by a program) -/
set_option maxHeartbeats 4000000 in
theorem c_M_copies_s_saved_l3 {Po : mP} {t1 : Int32} {t3 : Int32} (hp0 : 0 ≤ t1.toInt) (hp1 : t1.toInt + 155 ≤ 155) (hp2 : t1.toInt % 155 = 0) (hp3 : 0 ≤ t3.toInt) (hp4 : t3.toInt + 155 ≤ 155) (hp5 : t3.toInt % 155 = 0)  : ∀ (n : Nat) (v4 : Int32), ∀ (P : mP), Typ P → KW [1280] Po P → (CPY Po P 302 t1.toInt.toNat 304 t3.toInt.toNat v4.toInt.toNat) → (v4.toInt ≤ 155) → (0 ≤ v4.toInt) → (2147483647 - v4.toInt).toNat = n → MEvP 0 none q_125 3 [(0, .ref 302), (1, .int t1), (2, .ref 304), (3, .int t3), (4, .int v4)] [] P 0 0 (fun r P' => (r = none ∧ (CPY Po P' 302 t1.toInt.toNat 304 t3.toInt.toNat 155)) ∧ Typ P' ∧ KW [1280] Po P' ∧ True) := by
  intro n
  induction n using Nat.strongRecOn with | _ n ih => ?_
  intro v4 P hT hK i_0 i_1 i_2 hm
  have w_t1 := ti_full t1
  have w_t3 := ti_full t3
  have w_v4 := ti_full v4
  refine mp_a (a_iload dX7_copies_3 rfl) (mpp 5 rfl ?_)
  refine mp_a (a_sipush (v := 155) dX7_copies_5 rfl) (mpp 8 rfl ?_)
  refine mp_Tb (t := 29) (j_icmp_ge dX7_copies_8) (by decide) (fun c1 => ?_) (fun c1 => mpp 11 rfl ?_)
  · have c1 : v4.toInt ≥ 155 := ti_ge c1
    have u2 : CPY Po P 302 t1.toInt.toNat 304 t3.toInt.toNat 155 := CPY.fin i_0 (by omega)
    exact mp_ret ⟨⟨rfl, u2⟩, hT, hK, trivial⟩ dX7_copies_29 rfl
  · have c1 : v4.toInt < 155 := ti_ge_n c1
    refine mp_a (a_aload_n dX7_copies_11 rfl) (mpp 12 rfl ?_)
    refine mp_a (a_iload_n dX7_copies_12 rfl) (mpp 13 rfl ?_)
    refine mp_a (a_iload dX7_copies_13 rfl) (mpp 15 rfl ?_)
    obtain ⟨z3, h4⟩ := ti_ex (t3 + v4 : Int32)
    have wz3 := ti_full z3
    refine mp_t (s_iadd (v := z3) dX7_copies_15 h4) (mpp 16 rfl ?_)
    try have e5 : z3.toInt = t3.toInt + v4.toInt := ti_addz h4 rfl rfl (by omega) (by omega)
    refine mp_a (a_aload_n dX7_copies_16 rfl) (mpp 17 rfl ?_)
    refine mp_a (a_iload_n dX7_copies_17 rfl) (mpp 18 rfl ?_)
    refine mp_a (a_iload dX7_copies_18 rfl) (mpp 20 rfl ?_)
    obtain ⟨z6, h7⟩ := ti_ex (t1 + v4 : Int32)
    have wz6 := ti_full z6
    refine mp_t (s_iadd (v := z6) dX7_copies_20 h7) (mpp 21 rfl ?_)
    try have e8 : z6.toInt = t1.toInt + v4.toInt := ti_addz h7 rfl rfl (by omega) (by omega)
    refine mt_ialX (n := 155) hT dX7_copies_21 rl_302 (by decide) rfl rfl (by omega) (by omega) ssp_0 (fun g9 => mpp 22 rfl ?_)
    have we11 := ti_full (fv P 302 z6.toInt.toNat)
    refine mt_iasX (n := 155) hT dX7_copies_22 rl_304 (by decide) rfl rfl (by omega) (by omega) ssp_0 (okS_pp (f := (rsp 18).2.2) (g := (rsp 20).2.2) (sspm (by omega)) (sspm (by omega)) g9 (by omega)) (fun P12 hT13 f14 f15 f16 => mpp 23 rfl ?_)
    have k17 : KW [1280] Po P12 := KW.step hK rl_304 rfl f15 f16
    obtain ⟨z18, h19⟩ := ti_ex (v4 + 1 : Int32)
    have wz18 := ti_full z18
    refine mp_a (a_iinc (v := z18) (L' := [(4, .int z18), (0, .ref 302), (1, .int t1), (2, .ref 304), (3, .int t3)]) dX7_copies_23 (by decide) rfl h19 rfl) (mpp 26 rfl ?_)
    try have e20 : z18.toInt = v4.toInt + 1 := ti_addz h19 rfl rfl (by omega) (by omega)
    refine mp_a (a_goto (t := 3) dX7_copies_26 (by decide)) ?_
    refine MEvP.less (L := [(0, .ref 302), (1, .int t1), (2, .ref 304), (3, .int t3), (4, .int z18)]) rfl rfl ⟨rfl, rfl, rfl, rfl, rfl, trivial⟩ ?_
    have i21 : CPY Po P12 302 t1.toInt.toNat 304 t3.toInt.toNat z18.toInt.toNat := CPY.step i_0 f14 f15 (by omega) (by omega) (by omega) (Or.inl (by decide))
    have i22 : z18.toInt ≤ 155 := by omega
    have i23 : 0 ≤ z18.toInt := by omega
    exact ih _ (by omega) _ P12 hT13 k17 i21 i22 i23 rfl

set_option maxHeartbeats 4000000 in
theorem c_M_copies_s_saved {Po : mP} {t1 : Int32} {t3 : Int32} (hT : Typ Po)  (hp0 : 0 ≤ t1.toInt) (hp1 : t1.toInt + 155 ≤ 155) (hp2 : t1.toInt % 155 = 0) (hp3 : 0 ≤ t3.toInt) (hp4 : t3.toInt + 155 ≤ 155) (hp5 : t3.toInt % 155 = 0)  : EvP 1 125 [.ref 302, .int t1, .ref 304, .int t3] Po (fun r P' => (r = none ∧ (CPY Po P' 302 t1.toInt.toNat 304 t3.toInt.toNat 155)) ∧ Typ P' ∧ KW [1280] Po P' ∧ True) := by
  refine EvP.of qm_125 (Nat.le_of_ble_eq_true rfl) rfl ?_
  show MEvP _ none q_125 0 [(0, .ref 302), (1, .int t1), (2, .ref 304), (3, .int t3)] [] _ 0 0 _
  have w_t1 := ti_full t1
  have w_t3 := ti_full t3
  refine mp_a (a_iconst (v := 0) dX7_copies_0 rfl) (mpp 1 rfl ?_)
  refine mp_a (a_istore (L' := [(4, .int 0), (0, .ref 302), (1, .int t1), (2, .ref 304), (3, .int t3)]) dX7_copies_1 (by decide) rfl) (mpp 3 rfl ?_)
  refine MEvP.less (L := [(0, .ref 302), (1, .int t1), (2, .ref 304), (3, .int t3), (4, .int 0)]) rfl rfl ⟨rfl, rfl, rfl, rfl, rfl, trivial⟩ ?_
  have i1 : CPY Po Po 302 t1.toInt.toNat 304 t3.toInt.toNat (0 : Int).toNat := CPY.start (by decide)
  have i2 : (0 : Int) ≤ 155 := by omega
  have i3 : 0 ≤ (0 : Int) := by omega
  exact c_M_copies_s_saved_l3   hp0 hp1 hp2 hp3 hp4 hp5 _ _ Po hT KW.refl i1 i2 i3 rfl

set_option maxHeartbeats 4000000 in
theorem c_M_save {Po : mP}  (hT : Typ Po) (hR : Rel Po)  : EvP 2 234 [.ref 301] Po (fun r P' => (∃ x : Int32, r = some (.int x) ∧ (x.toInt = (fv Po 302 0).toInt)) ∧ Typ P' ∧ KW [1096, 1280] Po P' ∧ Rel P' ∧ (∀ j : Nat, j < 155 → fv P' 304 j = fv Po 302 j) ∧ (∀ x j : Nat, ¬ (x = 301 ∧ j = 8) → ¬ x = 304 → fv P' x j = fv Po x j) ∧ (fv P' 301 8).toInt = 1 ∧ KI 301 305 Po P') := by
  refine EvP.of qm_234 (Nat.le_of_ble_eq_true rfl) rfl ?_
  show MEvP _ none q_234 0 [(0, .ref 301)] [] _ 0 0 _
  have g1 : (0 : Int) ≤ (fv Po 302 0).toInt ∧ (fv Po 302 0).toInt ≤ 8 := Typ.rng hT rl_302 (by decide) (by decide) rfl
  refine mp_a (a_aload_n dX7_save_0 rfl) (mpp 1 rfl ?_)
  refine mt_getU (i := 9) (k := 0) (A := 302) hT dX7_save_1 rfl rl_301 (by decide) rfl (by decide) rfl un_18 (mpp 4 rfl ?_)
  refine mp_a (a_iconst (v := 0) dX7_save_4 rfl) (mpp 5 rfl ?_)
  refine mp_a (a_aload_n dX7_save_5 rfl) (mpp 6 rfl ?_)
  refine mt_getU (i := 16) (k := 2) (A := 304) hT dX7_save_6 rfl rl_301 (by decide) rfl (by decide) rfl un_20 (mpp 9 rfl ?_)
  refine mp_a (a_iconst (v := 0) dX7_save_9 rfl) (mpp 10 rfl ?_)
  have p2 : 0 ≤ (0 : Int) := by omega
  have p3 : (0 : Int) + 155 ≤ 155 := by omega
  have p4 : (0 : Int) % 155 = 0 := by omega
  have p5 : 0 ≤ (0 : Int) := by omega
  have p6 : (0 : Int) + 155 ≤ 155 := by omega
  have p7 : (0 : Int) % 155 = 0 := by omega
  refine mp_calls (i := 54) (q' := q_125) (As := [.ref 302, .int 0, .ref 304, .int 0]) (rest := []) dX7_save_10 rfl qm_125 (by decide) rfl (Nat.le_of_ble_eq_true rfl) rfl ⟨rfl, rfl⟩ ⟨Nat.le_of_ble_eq_true rfl, Nat.le_of_ble_eq_true rfl⟩ (EvP.mono (by decide) (c_M_copies_s_saved hT p2 p3 p4 p5 p6 p7 )) (fun r8 P9 g10 => mpp 13 rfl ?_)
  obtain ⟨⟨rfl, g12⟩, hT13, k14, R15⟩ := g10
  have k16 : KW [1096, 1280] Po P9 := KW.trans KW.refl k14 rfl
  replace g12 : CPY Po P9 302 (0 : Int).toNat 304 (0 : Int).toNat 155 := g12
  show MEvP _ none q_234 13 [(0, .ref 301)] [] _ _ _ _
  have R18 := Rel.cpy hR g12 (Or.inl ⟨by decide, by first | rfl | omega⟩) (Or.inl ⟨by decide, by first | rfl | omega⟩)
  refine mp_a (a_aload_n dX7_save_13 rfl) (mpp 14 rfl ?_)
  refine mp_a (a_iconst (v := 1) dX7_save_14 rfl) (mpp 15 rfl ?_)
  refine mt_putI (i := 363) (k := 8) (x := 1) hT13 dX7_save_15 rfl rl_301 (by decide) rfl (by decide) rfl (by decide) rfl rfl (fun P19 hT20 f21 f22 f23 => mpp 18 rfl ?_)
  have k24 : KW [1096, 1280] Po P19 := KW.step k16 rl_301 rfl f22 f23
  have R25 := Rel.ne R18 rl_301 rfl f22
  have e26 : (fv P19 301 8).toInt = 1 := congrArg Int32.toInt f21
  refine mp_a (a_aload_n dX7_save_18 rfl) (mpp 19 rfl ?_)
  refine mt_getU (i := 9) (k := 0) (A := 302) hT20 dX7_save_19 rfl rl_301 (by decide) rfl (by decide) rfl un_18 (mpp 22 rfl ?_)
  refine mp_a (a_iconst (v := 0) dX7_save_22 rfl) (mpp 23 rfl ?_)
  have e29 : (fv P19 302 0).toInt = (fv Po 302 0).toInt := congrArg Int32.toInt ((f22 302 0 (ne_r rl_302 rl_301 rfl)).trans (KW.at k14 0 rl_302 rfl))
  refine mt_ialX (n := 155) hT20 dX7_save_23 rl_302 (by decide) rfl rfl (by decide) (by decide) ssp_0 (fun g27 => mpp 24 rfl ?_)
  have we30 := ti_full (fv P19 302 0)
  have u31 : (fv P19 302 0).toInt = (fv Po 302 0).toInt := by omega
  have u32 : (∀ j : Nat, j < 155 → fv P19 304 j = fv Po 302 j) := fun j hj => by have q := g12.1 j hj; rw [f22 304 j (by omega)]; simpa using q
  have u33 : (∀ x j : Nat, ¬ (x = 301 ∧ j = 8) → ¬ x = 304 → fv P19 x j = fv Po x j) := fun x j h1 h2 => (f22 x j h1).trans (g12.2 x j (fun e => h2 e.1))
  have u34 : (fv P19 301 8).toInt = 1 := by omega
  have u35 : KI 301 305 Po P19 := fun x j hx => u33 x j (by omega) (by omega)
  exact mp_iret ⟨⟨_, rfl, u31⟩, hT20, k24, R25, ⟨u32, u33, u34, u35⟩⟩ dX7_save_24 (Or.inl rfl)

set_option maxHeartbeats 4000000 in
theorem c_M_copies_saved_s_l3 {Po : mP} {t1 : Int32} {t3 : Int32} (hp0 : 0 ≤ t1.toInt) (hp1 : t1.toInt + 155 ≤ 155) (hp2 : t1.toInt % 155 = 0) (hp3 : 0 ≤ t3.toInt) (hp4 : t3.toInt + 155 ≤ 155) (hp5 : t3.toInt % 155 = 0)  : ∀ (n : Nat) (v4 : Int32), ∀ (P : mP), Typ P → KW [1152] Po P → (CPY Po P 304 t1.toInt.toNat 302 t3.toInt.toNat v4.toInt.toNat) → (v4.toInt ≤ 155) → (0 ≤ v4.toInt) → (2147483647 - v4.toInt).toNat = n → MEvP 0 none q_125 3 [(0, .ref 304), (1, .int t1), (2, .ref 302), (3, .int t3), (4, .int v4)] [] P 0 0 (fun r P' => (r = none ∧ (CPY Po P' 304 t1.toInt.toNat 302 t3.toInt.toNat 155)) ∧ Typ P' ∧ KW [1152] Po P' ∧ True) := by
  intro n
  induction n using Nat.strongRecOn with | _ n ih => ?_
  intro v4 P hT hK i_0 i_1 i_2 hm
  have w_t1 := ti_full t1
  have w_t3 := ti_full t3
  have w_v4 := ti_full v4
  refine mp_a (a_iload dX7_copies_3 rfl) (mpp 5 rfl ?_)
  refine mp_a (a_sipush (v := 155) dX7_copies_5 rfl) (mpp 8 rfl ?_)
  refine mp_Tb (t := 29) (j_icmp_ge dX7_copies_8) (by decide) (fun c1 => ?_) (fun c1 => mpp 11 rfl ?_)
  · have c1 : v4.toInt ≥ 155 := ti_ge c1
    have u2 : CPY Po P 304 t1.toInt.toNat 302 t3.toInt.toNat 155 := CPY.fin i_0 (by omega)
    exact mp_ret ⟨⟨rfl, u2⟩, hT, hK, trivial⟩ dX7_copies_29 rfl
  · have c1 : v4.toInt < 155 := ti_ge_n c1
    refine mp_a (a_aload_n dX7_copies_11 rfl) (mpp 12 rfl ?_)
    refine mp_a (a_iload_n dX7_copies_12 rfl) (mpp 13 rfl ?_)
    refine mp_a (a_iload dX7_copies_13 rfl) (mpp 15 rfl ?_)
    obtain ⟨z3, h4⟩ := ti_ex (t3 + v4 : Int32)
    have wz3 := ti_full z3
    refine mp_t (s_iadd (v := z3) dX7_copies_15 h4) (mpp 16 rfl ?_)
    try have e5 : z3.toInt = t3.toInt + v4.toInt := ti_addz h4 rfl rfl (by omega) (by omega)
    refine mp_a (a_aload_n dX7_copies_16 rfl) (mpp 17 rfl ?_)
    refine mp_a (a_iload_n dX7_copies_17 rfl) (mpp 18 rfl ?_)
    refine mp_a (a_iload dX7_copies_18 rfl) (mpp 20 rfl ?_)
    obtain ⟨z6, h7⟩ := ti_ex (t1 + v4 : Int32)
    have wz6 := ti_full z6
    refine mp_t (s_iadd (v := z6) dX7_copies_20 h7) (mpp 21 rfl ?_)
    try have e8 : z6.toInt = t1.toInt + v4.toInt := ti_addz h7 rfl rfl (by omega) (by omega)
    refine mt_ialX (n := 155) hT dX7_copies_21 rl_304 (by decide) rfl rfl (by omega) (by omega) ssp_0 (fun g9 => mpp 22 rfl ?_)
    have we11 := ti_full (fv P 304 z6.toInt.toNat)
    refine mt_iasX (n := 155) hT dX7_copies_22 rl_302 (by decide) rfl rfl (by omega) (by omega) ssp_0 (okS_pp (f := (rsp 20).2.2) (g := (rsp 18).2.2) (sspm (by omega)) (sspm (by omega)) g9 (by omega)) (fun P12 hT13 f14 f15 f16 => mpp 23 rfl ?_)
    have k17 : KW [1152] Po P12 := KW.step hK rl_302 rfl f15 f16
    obtain ⟨z18, h19⟩ := ti_ex (v4 + 1 : Int32)
    have wz18 := ti_full z18
    refine mp_a (a_iinc (v := z18) (L' := [(4, .int z18), (0, .ref 304), (1, .int t1), (2, .ref 302), (3, .int t3)]) dX7_copies_23 (by decide) rfl h19 rfl) (mpp 26 rfl ?_)
    try have e20 : z18.toInt = v4.toInt + 1 := ti_addz h19 rfl rfl (by omega) (by omega)
    refine mp_a (a_goto (t := 3) dX7_copies_26 (by decide)) ?_
    refine MEvP.less (L := [(0, .ref 304), (1, .int t1), (2, .ref 302), (3, .int t3), (4, .int z18)]) rfl rfl ⟨rfl, rfl, rfl, rfl, rfl, trivial⟩ ?_
    have i21 : CPY Po P12 304 t1.toInt.toNat 302 t3.toInt.toNat z18.toInt.toNat := CPY.step i_0 f14 f15 (by omega) (by omega) (by omega) (Or.inl (by decide))
    have i22 : z18.toInt ≤ 155 := by omega
    have i23 : 0 ≤ z18.toInt := by omega
    exact ih _ (by omega) _ P12 hT13 k17 i21 i22 i23 rfl

set_option maxHeartbeats 4000000 in
theorem c_M_copies_saved_s {Po : mP} {t1 : Int32} {t3 : Int32} (hT : Typ Po)  (hp0 : 0 ≤ t1.toInt) (hp1 : t1.toInt + 155 ≤ 155) (hp2 : t1.toInt % 155 = 0) (hp3 : 0 ≤ t3.toInt) (hp4 : t3.toInt + 155 ≤ 155) (hp5 : t3.toInt % 155 = 0)  : EvP 1 125 [.ref 304, .int t1, .ref 302, .int t3] Po (fun r P' => (r = none ∧ (CPY Po P' 304 t1.toInt.toNat 302 t3.toInt.toNat 155)) ∧ Typ P' ∧ KW [1152] Po P' ∧ True) := by
  refine EvP.of qm_125 (Nat.le_of_ble_eq_true rfl) rfl ?_
  show MEvP _ none q_125 0 [(0, .ref 304), (1, .int t1), (2, .ref 302), (3, .int t3)] [] _ 0 0 _
  have w_t1 := ti_full t1
  have w_t3 := ti_full t3
  refine mp_a (a_iconst (v := 0) dX7_copies_0 rfl) (mpp 1 rfl ?_)
  refine mp_a (a_istore (L' := [(4, .int 0), (0, .ref 304), (1, .int t1), (2, .ref 302), (3, .int t3)]) dX7_copies_1 (by decide) rfl) (mpp 3 rfl ?_)
  refine MEvP.less (L := [(0, .ref 304), (1, .int t1), (2, .ref 302), (3, .int t3), (4, .int 0)]) rfl rfl ⟨rfl, rfl, rfl, rfl, rfl, trivial⟩ ?_
  have i1 : CPY Po Po 304 t1.toInt.toNat 302 t3.toInt.toNat (0 : Int).toNat := CPY.start (by decide)
  have i2 : (0 : Int) ≤ 155 := by omega
  have i3 : 0 ≤ (0 : Int) := by omega
  exact c_M_copies_saved_s_l3   hp0 hp1 hp2 hp3 hp4 hp5 _ _ Po hT KW.refl i1 i2 i3 rfl

set_option maxHeartbeats 4000000 in
theorem c_M_restore {Po : mP}  (hT : Typ Po) (hR : Rel Po)  : EvP 2 235 [.ref 301] Po (fun r P' => (∃ x : Int32, r = some (.int x) ∧ ((x.toInt = -1004 ∧ (fv Po 301 8).toInt = 0) ∨ ((fv Po 301 8).toInt = 1 ∧ x.toInt = (fv Po 304 0).toInt))) ∧ Typ P' ∧ KW [1092, 1152] Po P' ∧ Rel P' ∧ (((fv Po 301 8).toInt = 0 ∧ ∀ x j : Nat, fv P' x j = fv Po x j) ∨ ((fv Po 301 8).toInt = 1 ∧ (∀ j : Nat, j < 155 → fv P' 302 j = fv Po 304 j) ∧ (fv P' 301 4).toInt = 0)) ∧ (∀ x j : Nat, ¬ x = 302 → ¬ (x = 301 ∧ j = 4) → fv P' x j = fv Po x j) ∧ KI 301 303 Po P') := by
  refine EvP.of qm_235 (Nat.le_of_ble_eq_true rfl) rfl ?_
  show MEvP _ none q_235 0 [(0, .ref 301)] [] _ 0 0 _
  have g1 : (0 : Int) ≤ (fv Po 301 8).toInt ∧ (fv Po 301 8).toInt ≤ 1 := Typ.rng hT rl_301 (by decide) (by decide) rfl
  refine mp_a (a_aload_n dX7_restore_0 rfl) (mpp 1 rfl ?_)
  refine mt_getI (i := 363) (k := 8) hT dX7_restore_1 rfl rl_301 (by decide) rfl (by decide) rfl (fun g2 g3 => mpp 4 rfl ?_)
  refine mp_Tb (t := 11) (j_if_ne dX7_restore_4) (by decide) (fun c4 => ?_) (fun c4 => mpp 7 rfl ?_)
  · have c4 : (fv Po 301 8).toInt ≠ 0 := ti_ne c4
    refine mp_a (a_aload_n dX7_restore_11 rfl) (mpp 12 rfl ?_)
    refine mt_getU (i := 16) (k := 2) (A := 304) hT dX7_restore_12 rfl rl_301 (by decide) rfl (by decide) rfl un_20 (mpp 15 rfl ?_)
    refine mp_a (a_iconst (v := 0) dX7_restore_15 rfl) (mpp 16 rfl ?_)
    refine mp_a (a_aload_n dX7_restore_16 rfl) (mpp 17 rfl ?_)
    refine mt_getU (i := 9) (k := 0) (A := 302) hT dX7_restore_17 rfl rl_301 (by decide) rfl (by decide) rfl un_18 (mpp 20 rfl ?_)
    refine mp_a (a_iconst (v := 0) dX7_restore_20 rfl) (mpp 21 rfl ?_)
    have p5 : 0 ≤ (0 : Int) := by omega
    have p6 : (0 : Int) + 155 ≤ 155 := by omega
    have p7 : (0 : Int) % 155 = 0 := by omega
    have p8 : 0 ≤ (0 : Int) := by omega
    have p9 : (0 : Int) + 155 ≤ 155 := by omega
    have p10 : (0 : Int) % 155 = 0 := by omega
    refine mp_calls (i := 54) (q' := q_125) (As := [.ref 304, .int 0, .ref 302, .int 0]) (rest := []) dX7_restore_21 rfl qm_125 (by decide) rfl (Nat.le_of_ble_eq_true rfl) rfl ⟨rfl, rfl⟩ ⟨Nat.le_of_ble_eq_true rfl, Nat.le_of_ble_eq_true rfl⟩ (EvP.mono (by decide) (c_M_copies_saved_s hT p5 p6 p7 p8 p9 p10 )) (fun r11 P12 g13 => mpp 24 rfl ?_)
    obtain ⟨⟨rfl, g15⟩, hT16, k17, R18⟩ := g13
    have k19 : KW [1092, 1152] Po P12 := KW.trans KW.refl k17 rfl
    replace g15 : CPY Po P12 304 (0 : Int).toNat 302 (0 : Int).toNat 155 := g15
    show MEvP _ none q_235 24 [(0, .ref 301)] [] _ _ _ _
    have R21 := Rel.cpy hR g15 (Or.inl ⟨by decide, by first | rfl | omega⟩) (Or.inl ⟨by decide, by first | rfl | omega⟩)
    refine mp_a (a_aload_n dX7_restore_24 rfl) (mpp 25 rfl ?_)
    refine mp_a (a_iconst (v := 0) dX7_restore_25 rfl) (mpp 26 rfl ?_)
    refine mt_putI (i := 58) (k := 4) (x := 0) hT16 dX7_restore_26 rfl rl_301 (by decide) rfl (by decide) rfl (by decide) rfl rfl (fun P22 hT23 f24 f25 f26 => mpp 29 rfl ?_)
    have k27 : KW [1092, 1152] Po P22 := KW.step k19 rl_301 rfl f25 f26
    have R28 := Rel.ne R21 rl_301 rfl f25
    have e29 : (fv P22 301 4).toInt = 0 := congrArg Int32.toInt f24
    refine mp_a (a_aload_n dX7_restore_29 rfl) (mpp 30 rfl ?_)
    refine mt_getU (i := 9) (k := 0) (A := 302) hT23 dX7_restore_30 rfl rl_301 (by decide) rfl (by decide) rfl un_18 (mpp 33 rfl ?_)
    refine mp_a (a_iconst (v := 0) dX7_restore_33 rfl) (mpp 34 rfl ?_)
    have g32 : (0 : Int) ≤ (fv P22 302 0).toInt ∧ (fv P22 302 0).toInt ≤ 8 := Typ.rng hT23 rl_302 (by decide) (by decide) rfl
    refine mt_ialX (n := 155) hT23 dX7_restore_34 rl_302 (by decide) rfl rfl (by decide) (by decide) ssp_0 (fun g30 => mpp 35 rfl ?_)
    have we33 := ti_full (fv P22 302 0)
    have u34 : ((fv P22 302 0).toInt = -1004 ∧ (fv Po 301 8).toInt = 0) ∨ ((fv Po 301 8).toInt = 1 ∧ (fv P22 302 0).toInt = (fv Po 304 0).toInt) := Or.inr ⟨by omega, congrArg Int32.toInt ((f25 302 0 (by omega)).trans (by have q := g15.1 0 (by decide); simpa using q))⟩
    have e0 : (fv P22 301 4).toInt = 0 := congrArg Int32.toInt f24
    have u35 : (((fv Po 301 8).toInt = 0 ∧ ∀ x j : Nat, fv P22 x j = fv Po x j) ∨ ((fv Po 301 8).toInt = 1 ∧ (∀ j : Nat, j < 155 → fv P22 302 j = fv Po 304 j) ∧ (fv P22 301 4).toInt = 0)) := Or.inr ⟨by omega, fun j hj => by have q := g15.1 j hj; rw [f25 302 j (by omega)]; simpa using q, e0⟩
    have u36 : (∀ x j : Nat, ¬ x = 302 → ¬ (x = 301 ∧ j = 4) → fv P22 x j = fv Po x j) := fun x j h1 h2 => (f25 x j h2).trans (g15.2 x j (fun e => h1 e.1))
    have u37 : KI 301 303 Po P22 := fun x j hx => u36 x j (by omega) (by omega)
    exact mp_iret ⟨⟨_, rfl, u34⟩, hT23, k27, R28, ⟨u35, u36, u37⟩⟩ dX7_restore_35 (Or.inl rfl)
  · have c4 : (fv Po 301 8).toInt = 0 := ti_ne_n c4
    refine mp_a (a_sipush (v := -1004) dX7_restore_7 rfl) (mpp 10 rfl ?_)
    have u38 : ((-1004 : Int) = -1004 ∧ (fv Po 301 8).toInt = 0) ∨ ((fv Po 301 8).toInt = 1 ∧ (-1004 : Int) = (fv Po 304 0).toInt) := Or.inl ⟨rfl, by omega⟩
    have u39 : (((fv Po 301 8).toInt = 0 ∧ ∀ x j : Nat, fv Po x j = fv Po x j) ∨ ((fv Po 301 8).toInt = 1 ∧ (∀ j : Nat, j < 155 → fv Po 302 j = fv Po 304 j) ∧ (fv Po 301 4).toInt = 0)) := Or.inl ⟨by omega, fun _ _ => rfl⟩
    have u40 : (∀ x j : Nat, ¬ x = 302 → ¬ (x = 301 ∧ j = 4) → fv Po x j = fv Po x j) := fun _ _ _ _ => rfl
    have u41 : KI 301 303 Po Po := fun x j hx => u40 x j (by omega) (by omega)
    exact mp_iret ⟨⟨_, rfl, u38⟩, hT, KW.refl, hR, ⟨u39, u40, u41⟩⟩ dX7_restore_10 (Or.inl rfl)

