/-! methods on typed pools, 51 (written by a program) -/
set_option maxHeartbeats 4000000 in
theorem c_M_copies_was_s_l3 {Po : mP} {t1 : Int32} {t3 : Int32} (hp0 : 0 ≤ t1.toInt) (hp1 : t1.toInt + 155 ≤ 155) (hp2 : t1.toInt % 155 = 0) (hp3 : 0 ≤ t3.toInt) (hp4 : t3.toInt + 155 ≤ 155) (hp5 : t3.toInt % 155 = 0)  : ∀ (n : Nat) (v4 : Int32), ∀ (P : mP), Typ P → KW [1152] Po P → (CPY Po P 303 t1.toInt.toNat 302 t3.toInt.toNat v4.toInt.toNat) → (v4.toInt ≤ 155) → (0 ≤ v4.toInt) → (2147483647 - v4.toInt).toNat = n → MEvP 0 none q_125 3 [(0, .ref 303), (1, .int t1), (2, .ref 302), (3, .int t3), (4, .int v4)] [] P 0 0 (fun r P' => (r = none ∧ (CPY Po P' 303 t1.toInt.toNat 302 t3.toInt.toNat 155)) ∧ Typ P' ∧ KW [1152] Po P' ∧ True) := by
  intro n
  induction n using Nat.strongRecOn with | _ n ih => ?_
  intro v4 P hT hK i_0 i_1 i_2 hm
  have w_t1 := ti_full t1
  have w_t3 := ti_full t3
  have w_v4 := ti_full v4
  refine mp_a (a_iload dX7_copies_3 rfl) (mpp 5 rfl ?_)
  refine mp_a (a_sipush (v := 155) dX7_copies_5 rfl) (mpp 8 rfl ?_)
  refine mp_Tb (t := 29) (j_icmp_ge dX7_copies_8) (by decide) (fun c1 => ?_) (fun c1 => mpp 11 rfl ?_)
  · have c1 : v4.toInt ≥ 155 := ti_ge c1
    have u2 : CPY Po P 303 t1.toInt.toNat 302 t3.toInt.toNat 155 := CPY.fin i_0 (by omega)
    exact mp_ret ⟨⟨rfl, u2⟩, hT, hK, trivial⟩ dX7_copies_29 rfl
  · have c1 : v4.toInt < 155 := ti_ge_n c1
    refine mp_a (a_aload_n dX7_copies_11 rfl) (mpp 12 rfl ?_)
    refine mp_a (a_iload_n dX7_copies_12 rfl) (mpp 13 rfl ?_)
    refine mp_a (a_iload dX7_copies_13 rfl) (mpp 15 rfl ?_)
    obtain ⟨z3, h4⟩ := ti_ex (t3 + v4 : Int32)
    have wz3 := ti_full z3
    refine mp_t (s_iadd (v := z3) dX7_copies_15 h4) (mpp 16 rfl ?_)
    try have e5 : z3.toInt = t3.toInt + v4.toInt := ti_addz h4 rfl rfl (by omega) (by omega)
    refine mp_a (a_aload_n dX7_copies_16 rfl) (mpp 17 rfl ?_)
    refine mp_a (a_iload_n dX7_copies_17 rfl) (mpp 18 rfl ?_)
    refine mp_a (a_iload dX7_copies_18 rfl) (mpp 20 rfl ?_)
    obtain ⟨z6, h7⟩ := ti_ex (t1 + v4 : Int32)
    have wz6 := ti_full z6
    refine mp_t (s_iadd (v := z6) dX7_copies_20 h7) (mpp 21 rfl ?_)
    try have e8 : z6.toInt = t1.toInt + v4.toInt := ti_addz h7 rfl rfl (by omega) (by omega)
    refine mt_ialX (n := 155) hT dX7_copies_21 rl_303 (by decide) rfl rfl (by omega) (by omega) ssp_0 (fun g9 => mpp 22 rfl ?_)
    have we11 := ti_full (fv P 303 z6.toInt.toNat)
    refine mt_iasX (n := 155) hT dX7_copies_22 rl_302 (by decide) rfl rfl (by omega) (by omega) ssp_0 (okS_pp (f := (rsp 19).2.2) (g := (rsp 18).2.2) (sspm (by omega)) (sspm (by omega)) g9 (by omega)) (fun P12 hT13 f14 f15 f16 => mpp 23 rfl ?_)
    have k17 : KW [1152] Po P12 := KW.step hK rl_302 rfl f15 f16
    obtain ⟨z18, h19⟩ := ti_ex (v4 + 1 : Int32)
    have wz18 := ti_full z18
    refine mp_a (a_iinc (v := z18) (L' := [(4, .int z18), (0, .ref 303), (1, .int t1), (2, .ref 302), (3, .int t3)]) dX7_copies_23 (by decide) rfl h19 rfl) (mpp 26 rfl ?_)
    try have e20 : z18.toInt = v4.toInt + 1 := ti_addz h19 rfl rfl (by omega) (by omega)
    refine mp_a (a_goto (t := 3) dX7_copies_26 (by decide)) ?_
    refine MEvP.less (L := [(0, .ref 303), (1, .int t1), (2, .ref 302), (3, .int t3), (4, .int z18)]) rfl rfl ⟨rfl, rfl, rfl, rfl, rfl, trivial⟩ ?_
    have i21 : CPY Po P12 303 t1.toInt.toNat 302 t3.toInt.toNat z18.toInt.toNat := CPY.step i_0 f14 f15 (by omega) (by omega) (by omega) (Or.inl (by decide))
    have i22 : z18.toInt ≤ 155 := by omega
    have i23 : 0 ≤ z18.toInt := by omega
    exact ih _ (by omega) _ P12 hT13 k17 i21 i22 i23 rfl

set_option maxHeartbeats 4000000 in
theorem c_M_copies_was_s {Po : mP} {t1 : Int32} {t3 : Int32} (hT : Typ Po)  (hp0 : 0 ≤ t1.toInt) (hp1 : t1.toInt + 155 ≤ 155) (hp2 : t1.toInt % 155 = 0) (hp3 : 0 ≤ t3.toInt) (hp4 : t3.toInt + 155 ≤ 155) (hp5 : t3.toInt % 155 = 0)  : EvP 1 125 [.ref 303, .int t1, .ref 302, .int t3] Po (fun r P' => (r = none ∧ (CPY Po P' 303 t1.toInt.toNat 302 t3.toInt.toNat 155)) ∧ Typ P' ∧ KW [1152] Po P' ∧ True) := by
  refine EvP.of qm_125 (Nat.le_of_ble_eq_true rfl) rfl ?_
  show MEvP _ none q_125 0 [(0, .ref 303), (1, .int t1), (2, .ref 302), (3, .int t3)] [] _ 0 0 _
  have w_t1 := ti_full t1
  have w_t3 := ti_full t3
  refine mp_a (a_iconst (v := 0) dX7_copies_0 rfl) (mpp 1 rfl ?_)
  refine mp_a (a_istore (L' := [(4, .int 0), (0, .ref 303), (1, .int t1), (2, .ref 302), (3, .int t3)]) dX7_copies_1 (by decide) rfl) (mpp 3 rfl ?_)
  refine MEvP.less (L := [(0, .ref 303), (1, .int t1), (2, .ref 302), (3, .int t3), (4, .int 0)]) rfl rfl ⟨rfl, rfl, rfl, rfl, rfl, trivial⟩ ?_
  have i1 : CPY Po Po 303 t1.toInt.toNat 302 t3.toInt.toNat (0 : Int).toNat := CPY.start (by decide)
  have i2 : (0 : Int) ≤ 155 := by omega
  have i3 : 0 ≤ (0 : Int) := by omega
  exact c_M_copies_was_s_l3   hp0 hp1 hp2 hp3 hp4 hp5 _ _ Po hT KW.refl i1 i2 i3 rfl

set_option maxHeartbeats 4000000 in
theorem c_M_read {Po : mP}  (hT : Typ Po) (hR : Rel Po)  : EvP 11 215 [.ref 301] Po (fun r P' => (∃ x : Int32, r = some (.int x) ∧ ((fv P' 301 23).toInt = 0 ∧ RDM Po P')) ∧ Typ P' ∧ KW [1092, 1093, 1094, 1095, 1101, 1102, 1111, 1112, 1113, 1114, 1115, 1116, 1117, 1152, 1216, 1344, 1408, 1472, 1536, 1600] Po P' ∧ Rel P') := by
  refine EvP.of qm_215 (Nat.le_of_ble_eq_true rfl) rfl ?_
  show MEvP _ none q_215 0 [(0, .ref 301)] [] _ 0 0 _
  refine mp_a (a_aload_n dX7_read_0 rfl) (mpp 1 rfl ?_)
  refine mt_callv (i := 342) (q' := q_216) (As := []) (rest := []) hT dX7_read_1 rfl qm_216 (by decide) rfl rl_301 (by decide) rfl (Nat.le_of_ble_eq_true rfl) rfl ⟨rfl, rfl⟩ ⟨Nat.le_of_ble_eq_true rfl, Nat.le_of_ble_eq_true rfl⟩ (EvP.mono (by decide) (c_M_isText hT )) (fun r1 P2 g3 => mpp 4 rfl ?_)
  obtain ⟨⟨x4, rfl, g5⟩, hT6, k7, R8⟩ := g3
  have k9 : KW [1092, 1093, 1094, 1095, 1101, 1102, 1111, 1112, 1113, 1114, 1115, 1116, 1117, 1152, 1216, 1344, 1408, 1472, 1536, 1600] Po P2 := KW.trans KW.refl k7 rfl
  have R11 := Rel.kw hR k7 rfl
  have wx4 := ti_full x4
  replace g5 : 0 ≤ x4.toInt ∧ x4.toInt ≤ 1 ∧ ((fv P2 301 24).toInt ≤ (fv Po 301 23).toInt ∧ ((x4.toInt = 1 ∧ TKT (chM Po) (fv Po 301 23).toInt 0) ∨ (x4.toInt = 0 ∧ ¬ TKT (chM Po) (fv Po 301 23).toInt 0))) := g5
  have g12 : (0 : Int) ≤ (fv P2 301 24).toInt ∧ (fv P2 301 24).toInt ≤ 81 := Typ.rng hT6 rl_301 (by decide) (by decide) rfl
  have g13 : (0 : Int) ≤ (fv Po 301 23).toInt ∧ (fv Po 301 23).toInt ≤ 80 := Typ.rng hT rl_301 (by decide) (by decide) rfl
  show MEvP _ none q_215 4 [(0, .ref 301)] [.int x4] _ _ _ _
  refine mp_Tb (t := 21) (j_if_ne dX7_read_4) (by decide) (fun c14 => ?_) (fun c14 => mpp 7 rfl ?_)
  · have c14 : x4.toInt ≠ 0 := ti_ne c14
    refine mp_a (a_aload_n dX7_read_21 rfl) (mpp 22 rfl ?_)
    refine mt_callv (i := 117) (q' := q_124) (As := []) (rest := []) hT6 dX7_read_22 rfl qm_124 (by decide) rfl rl_301 (by decide) rfl (Nat.le_of_ble_eq_true rfl) rfl ⟨rfl, rfl⟩ ⟨Nat.le_of_ble_eq_true rfl, Nat.le_of_ble_eq_true rfl⟩ (EvP.mono (by decide) (c_M_keeps hT6 R11 )) (fun r15 P16 g17 => mpp 25 rfl ?_)
    obtain ⟨⟨rfl, g19⟩, hT20, k21, R22r, R22⟩ := g17
    have k23 : KW [1092, 1093, 1094, 1095, 1101, 1102, 1111, 1112, 1113, 1114, 1115, 1116, 1117, 1152, 1216, 1344, 1408, 1472, 1536, 1600] Po P16 := KW.trans k9 k21 rfl
    show MEvP _ none q_215 25 [(0, .ref 301)] [] _ _ _ _
    refine mp_a (a_aload_n dX7_read_25 rfl) (mpp 26 rfl ?_)
    have e25 : (fv P16 301 23).toInt = (fv Po 301 23).toInt := congrArg Int32.toInt ((KW.at k21 23 rl_301 rfl).trans (KW.at k7 23 rl_301 rfl))
    have p26 : TKT (chM P16) (fv P16 301 23).toInt 0 := by rw [chM_eq (P := Po) (Q := P16) (fun j => by rw [R22.2 314 j (by omega), KW.at k7 j rl_314 rfl]) (by rw [R22.2 301 23 (by omega), KW.at k7 23 rl_301 rfl]), show (fv P16 301 23).toInt = (fv Po 301 23).toInt from congrArg Int32.toInt (by rw [R22.2 301 23 (by omega), KW.at k7 23 rl_301 rfl])]; exact (g5.2.2.2.resolve_right (by omega)).2
    refine mt_callv (i := 345) (q' := q_225) (As := []) (rest := []) hT20 dX7_read_26 rfl qm_225 (by decide) rfl rl_301 (by decide) rfl (Nat.le_of_ble_eq_true rfl) rfl ⟨rfl, rfl⟩ ⟨Nat.le_of_ble_eq_true rfl, Nat.le_of_ble_eq_true rfl⟩ (EvP.mono (by decide) (c_M_doesAll hT20 R22r p26 )) (fun r27 P28 g29 => mpp 29 rfl ?_)
    obtain ⟨⟨x30, rfl, g31⟩, hT32, k33, R34⟩ := g29
    have k35 : KW [1092, 1093, 1094, 1095, 1101, 1102, 1111, 1112, 1113, 1114, 1115, 1116, 1117, 1152, 1216, 1344, 1408, 1472, 1536, 1600] Po P28 := KW.trans k23 k33 rfl
    have wx30 := ti_full x30
    replace g31 : TRX (chM P16) (fv P16 301 23).toInt 0 (sr P16) (sr P28) x30.toInt := g31
    show MEvP _ none q_215 29 [(0, .ref 301)] [.int x30] _ _ _ _
    refine mp_a (a_istore_n (L' := [(1, .int x30), (0, .ref 301)]) dX7_read_29 (by decide) rfl) (mpp 30 rfl ?_)
    refine mp_a (a_aload_n dX7_read_30 rfl) (mpp 31 rfl ?_)
    refine mp_a (a_iconst (v := 0) dX7_read_31 rfl) (mpp 32 rfl ?_)
    refine mt_putI (i := 291) (k := 23) (x := 0) hT32 dX7_read_32 rfl rl_301 (by decide) rfl (by decide) rfl (by decide) rfl rfl (fun P37 hT38 f39 f40 f41 => mpp 35 rfl ?_)
    have k42 : KW [1092, 1093, 1094, 1095, 1101, 1102, 1111, 1112, 1113, 1114, 1115, 1116, 1117, 1152, 1216, 1344, 1408, 1472, 1536, 1600] Po P37 := KW.step k35 rl_301 rfl f40 f41
    have R43 := Rel.ne R34 rl_301 rfl f40
    have e44 : (fv P37 301 23).toInt = 0 := congrArg Int32.toInt f39
    refine mp_a (a_iload_n dX7_read_35 rfl) (mpp 36 rfl ?_)
    refine mp_Tb (t := 54) (j_if_ge dX7_read_36) (by decide) (fun c45 => ?_) (fun c45 => mpp 39 rfl ?_)
    · have c45 : x30.toInt ≥ 0 := ti_ge c45
      refine mp_a (a_aload_n dX7_read_54 rfl) (mpp 55 rfl ?_)
      refine mt_callv (i := 65) (q' := q_140) (As := []) (rest := []) hT38 dX7_read_55 rfl qm_140 (by decide) rfl rl_301 (by decide) rfl (Nat.le_of_ble_eq_true rfl) rfl ⟨rfl, rfl⟩ ⟨Nat.le_of_ble_eq_true rfl, Nat.le_of_ble_eq_true rfl⟩ (EvP.mono (by decide) (c_M_changed hT38 R43 )) (fun r46 P47 g48 => mpp 58 rfl ?_)
      obtain ⟨⟨rfl, g50⟩, hT51, k52, R53r, R53⟩ := g48
      have k54 : KW [1092, 1093, 1094, 1095, 1101, 1102, 1111, 1112, 1113, 1114, 1115, 1116, 1117, 1152, 1216, 1344, 1408, 1472, 1536, 1600] Po P47 := KW.trans k42 k52 rfl
      show MEvP _ none q_215 58 [(1, .int x30), (0, .ref 301)] [] _ _ _ _
      refine mp_a (a_iload_n dX7_read_58 rfl) (mpp 59 rfl ?_)
      have e56 : (fv P47 301 23).toInt = (fv P37 301 23).toInt := congrArg Int32.toInt (KW.at k52 23 rl_301 rfl)
      have w58_8 : fv P47 301 8 = fv Po 301 8 := by rw [R53.2.2.1 301 8 (by omega) (by omega), f40 301 8 (by omega), KW.at k33 8 rl_301 rfl, R22.2 301 8 (by omega), KW.at k7 8 rl_301 rfl]
      have w58_s : ∀ j : Nat, fv P47 304 j = fv Po 304 j := fun j => by rw [R53.2.2.1 304 j (by omega) (by omega), f40 304 j (by omega), KW.at k33 j rl_304 rfl, R22.2 304 j (by omega), KW.at k7 j rl_304 rfl]
      have w58_t := (g5.2.2.2.resolve_right (by omega)).2
      have w58_e : sr P16 = sr Po := funext (fun j => by show fv P16 302 j = fv Po 302 j; rw [R22.2 302 j (by omega), KW.at k7 j rl_302 rfl])
      have w58_c : chM P16 = chM Po := chM_eq (fun j => by rw [R22.2 314 j (by omega), KW.at k7 j rl_314 rfl]) (by rw [R22.2 301 23 (by omega), KW.at k7 23 rl_301 rfl])
      have w58_l : fv P16 301 23 = fv Po 301 23 := by rw [R22.2 301 23 (by omega), KW.at k7 23 rl_301 rfl]
      have w58_d := g31
      rw [w58_c, w58_l, w58_e] at w58_d
      have w58_w : ∀ j : Nat, j < 155 → fv P16 303 j = fv Po 302 j := fun j hj => by have q := R22.1.1 j hj; rw [Nat.zero_add] at q; exact q.trans (by rw [KW.at k7 j rl_302 rfl])
      have w58_4 : fv P37 301 4 = fv Po 301 4 := by rw [f40 301 4 (by omega), KW.at k33 4 rl_301 rfl, R22.2 301 4 (by omega), KW.at k7 4 rl_301 rfl]
      have w58_5 : ∀ j : Nat, fv P37 305 j = fv Po 305 j := fun j => by rw [f40 305 j (by omega), KW.at k33 j rl_305 rfl, R22.2 305 j (by omega), KW.at k7 j rl_305 rfl]
      have w58_3 : ∀ j : Nat, j < 155 → fv P37 303 j = fv Po 302 j := fun j hj => (show fv P37 303 j = fv P16 303 j from by rw [f40 303 j (by omega), KW.at k33 j rl_303 rfl]).trans (w58_w j hj)
      have w58_r := R53.1
      rw [w58_4] at w58_r
      have w58_p := R53.2.1
      rw [w58_4] at w58_p
      have u57 : (fv P47 301 23).toInt = 0 ∧ RDM Po P47 := ⟨by omega, by omega, w58_8, w58_s, Or.inr ⟨w58_t, _, _, w58_d, Or.inr ⟨by omega, fun j => by rw [R53.2.2.1 302 j (by omega) (by omega), f40 302 j (by omega)], w58_r, fun c j hc hj => by rw [w58_p c j hc hj, w58_5, w58_5, w58_3 j hj]⟩⟩⟩
      exact mp_iret ⟨⟨_, rfl, u57⟩, hT51, k54, R53r⟩ dX7_read_59 (Or.inl rfl)
    · have c45 : x30.toInt < 0 := ti_ge_n c45
      refine mp_a (a_aload_n dX7_read_39 rfl) (mpp 40 rfl ?_)
      refine mt_getU (i := 13) (k := 1) (A := 303) hT38 dX7_read_40 rfl rl_301 (by decide) rfl (by decide) rfl un_19 (mpp 43 rfl ?_)
      refine mp_a (a_iconst (v := 0) dX7_read_43 rfl) (mpp 44 rfl ?_)
      refine mp_a (a_aload_n dX7_read_44 rfl) (mpp 45 rfl ?_)
      refine mt_getU (i := 9) (k := 0) (A := 302) hT38 dX7_read_45 rfl rl_301 (by decide) rfl (by decide) rfl un_18 (mpp 48 rfl ?_)
      refine mp_a (a_iconst (v := 0) dX7_read_48 rfl) (mpp 49 rfl ?_)
      have p59 : 0 ≤ (0 : Int) := by omega
      have p60 : (0 : Int) + 155 ≤ 155 := by omega
      have p61 : (0 : Int) % 155 = 0 := by omega
      have p62 : 0 ≤ (0 : Int) := by omega
      have p63 : (0 : Int) + 155 ≤ 155 := by omega
      have p64 : (0 : Int) % 155 = 0 := by omega
      refine mp_calls (i := 54) (q' := q_125) (As := [.ref 303, .int 0, .ref 302, .int 0]) (rest := []) dX7_read_49 rfl qm_125 (by decide) rfl (Nat.le_of_ble_eq_true rfl) rfl ⟨rfl, rfl⟩ ⟨Nat.le_of_ble_eq_true rfl, Nat.le_of_ble_eq_true rfl⟩ (EvP.mono (by decide) (c_M_copies_was_s hT38 p59 p60 p61 p62 p63 p64 )) (fun r65 P66 g67 => mpp 52 rfl ?_)
      obtain ⟨⟨rfl, g69⟩, hT70, k71, R72⟩ := g67
      have k73 : KW [1092, 1093, 1094, 1095, 1101, 1102, 1111, 1112, 1113, 1114, 1115, 1116, 1117, 1152, 1216, 1344, 1408, 1472, 1536, 1600] Po P66 := KW.trans k42 k71 rfl
      replace g69 : CPY P37 P66 303 (0 : Int).toNat 302 (0 : Int).toNat 155 := g69
      show MEvP _ none q_215 52 [(1, .int x30), (0, .ref 301)] [] _ _ _ _
      have R75 := Rel.cpy R43 g69 (Or.inl ⟨by decide, by first | rfl | omega⟩) (Or.inl ⟨by decide, by first | rfl | omega⟩)
      refine mp_a (a_iload_n dX7_read_52 rfl) (mpp 53 rfl ?_)
      have e76 : (fv P66 301 23).toInt = (fv P37 301 23).toInt := congrArg Int32.toInt (KW.at k71 23 rl_301 rfl)
      have w78_8 : fv P66 301 8 = fv Po 301 8 := by rw [g69.2 301 8 (by omega), f40 301 8 (by omega), KW.at k33 8 rl_301 rfl, R22.2 301 8 (by omega), KW.at k7 8 rl_301 rfl]
      have w78_s : ∀ j : Nat, fv P66 304 j = fv Po 304 j := fun j => by rw [g69.2 304 j (by omega), f40 304 j (by omega), KW.at k33 j rl_304 rfl, R22.2 304 j (by omega), KW.at k7 j rl_304 rfl]
      have w78_t := (g5.2.2.2.resolve_right (by omega)).2
      have w78_e : sr P16 = sr Po := funext (fun j => by show fv P16 302 j = fv Po 302 j; rw [R22.2 302 j (by omega), KW.at k7 j rl_302 rfl])
      have w78_c : chM P16 = chM Po := chM_eq (fun j => by rw [R22.2 314 j (by omega), KW.at k7 j rl_314 rfl]) (by rw [R22.2 301 23 (by omega), KW.at k7 23 rl_301 rfl])
      have w78_l : fv P16 301 23 = fv Po 301 23 := by rw [R22.2 301 23 (by omega), KW.at k7 23 rl_301 rfl]
      have w78_d := g31
      rw [w78_c, w78_l, w78_e] at w78_d
      have w78_w : ∀ j : Nat, j < 155 → fv P16 303 j = fv Po 302 j := fun j hj => by have q := R22.1.1 j hj; rw [Nat.zero_add] at q; exact q.trans (by rw [KW.at k7 j rl_302 rfl])
      have w78_2 : ∀ j : Nat, j < 155 → fv P66 302 j = fv Po 302 j := fun j hj => by have q := g69.1 j hj; rw [show (0 : Int).toNat + j = j from Nat.zero_add j] at q; exact q.trans ((show fv P37 303 j = fv P16 303 j from by rw [f40 303 j (by omega), KW.at k33 j rl_303 rfl]).trans (w78_w j hj))
      have u77 : (fv P66 301 23).toInt = 0 ∧ RDM Po P66 := ⟨by omega, by omega, w78_8, w78_s, Or.inr ⟨w78_t, _, _, w78_d, Or.inl ⟨by omega, w78_2, by rw [g69.2 301 4 (by omega), f40 301 4 (by omega), KW.at k33 4 rl_301 rfl, R22.2 301 4 (by omega), KW.at k7 4 rl_301 rfl], fun j => by rw [g69.2 305 j (by omega), f40 305 j (by omega), KW.at k33 j rl_305 rfl, R22.2 305 j (by omega), KW.at k7 j rl_305 rfl]⟩⟩⟩
      exact mp_iret ⟨⟨_, rfl, u77⟩, hT70, k73, R75⟩ dX7_read_53 (Or.inl rfl)
  · have c14 : x4.toInt = 0 := ti_ne_n c14
    refine mp_a (a_aload_n dX7_read_7 rfl) (mpp 8 rfl ?_)
    refine mp_a (a_iconst (v := 0) dX7_read_8 rfl) (mpp 9 rfl ?_)
    refine mt_putI (i := 291) (k := 23) (x := 0) hT6 dX7_read_9 rfl rl_301 (by decide) rfl (by decide) rfl (by decide) rfl rfl (fun P79 hT80 f81 f82 f83 => mpp 12 rfl ?_)
    have k84 : KW [1092, 1093, 1094, 1095, 1101, 1102, 1111, 1112, 1113, 1114, 1115, 1116, 1117, 1152, 1216, 1344, 1408, 1472, 1536, 1600] Po P79 := KW.step k9 rl_301 rfl f82 f83
    have R85 := Rel.ne R11 rl_301 rfl f82
    have e86 : (fv P79 301 23).toInt = 0 := congrArg Int32.toInt f81
    refine mp_a (a_sipush (v := -2000) dX7_read_12 rfl) (mpp 15 rfl ?_)
    refine mp_a (a_aload_n dX7_read_15 rfl) (mpp 16 rfl ?_)
    have e87 : (fv P79 301 24).toInt = (fv P2 301 24).toInt := congrArg Int32.toInt (f82 301 24 (ne_k rfl))
    refine mt_getI (i := 294) (k := 24) hT80 dX7_read_16 rfl rl_301 (by decide) rfl (by decide) rfl (fun g88 g89 => mpp 19 rfl ?_)
    obtain ⟨z90, h91⟩ := ti_ex ((-2000) - (fv P79 301 24) : Int32)
    have wz90 := ti_full z90
    refine mp_t (s_isub (v := z90) dX7_read_19 h91) (mpp 20 rfl ?_)
    try have e92 : z90.toInt = (-2000) - (fv P79 301 24).toInt := ti_subz h91 rfl rfl (by omega) (by omega)
    have w94_8 : fv P79 301 8 = fv Po 301 8 := by rw [f82 301 8 (by omega), KW.at k7 8 rl_301 rfl]
    have w94_s : ∀ j : Nat, fv P79 304 j = fv Po 304 j := fun j => by rw [f82 304 j (by omega), KW.at k7 j rl_304 rfl]
    have w94_t := (g5.2.2.2.resolve_left (by omega)).2
    have u93 : (fv P79 301 23).toInt = 0 ∧ RDM Po P79 := ⟨by omega, by omega, w94_8, w94_s, Or.inl ⟨w94_t, fun j => by rw [f82 302 j (by omega), KW.at k7 j rl_302 rfl], by rw [f82 301 4 (by omega), KW.at k7 4 rl_301 rfl], fun j => by rw [f82 305 j (by omega), KW.at k7 j rl_305 rfl]⟩⟩
    exact mp_iret ⟨⟨_, rfl, u93⟩, hT80, k84, R85⟩ dX7_read_20 (Or.inl rfl)

set_option maxHeartbeats 4000000 in
theorem c_M_refusal {Po : mP} {t1 : Int32} (hT : Typ Po)   : EvP 2 228 [.ref 301, .int t1] Po (fun r P' => (∃ x : Int32, r = some (.int x) ∧ (True)) ∧ P' = Po) := by
  refine EvP.of qm_228 (Nat.le_of_ble_eq_true rfl) rfl ?_
  show MEvP _ none q_228 0 [(0, .ref 301), (1, .int t1)] [] _ 0 0 _
  have w_t1 := ti_full t1
  refine mp_a (a_iload_n dX7_refusal_0 rfl) (mpp 1 rfl ?_)
  refine mp_a (a_iconst (v := 0) dX7_refusal_1 rfl) (mpp 2 rfl ?_)
  refine mp_a (a_iconst (v := 2) dX7_refusal_2 rfl) (mpp 3 rfl ?_)
  refine mp_calls (i := 61) (q' := q_127) (As := [.int t1, .int 0, .int 2]) (rest := []) dX7_refusal_3 rfl qm_127 (by decide) rfl (Nat.le_of_ble_eq_true rfl) rfl ⟨rfl, rfl⟩ ⟨Nat.le_of_ble_eq_true rfl, Nat.le_of_ble_eq_true rfl⟩ (EvP.mono (by decide) (c_M_isIn hT )) (fun r1 P2 g3 => mpp 6 rfl ?_)
  obtain ⟨⟨x4, rfl, g5⟩, e6⟩ := g3
  have e6 := e6.symm
  subst e6
  have wx4 := ti_full x4
  replace g5 : 0 ≤ x4.toInt ∧ x4.toInt ≤ 1 ∧ ((x4.toInt = 1 ∧ (0 : Int) ≤ t1.toInt ∧ t1.toInt ≤ (2 : Int)) ∨ (x4.toInt = 0 ∧ (t1.toInt < (0 : Int) ∨ (2 : Int) < t1.toInt))) := g5
  show MEvP _ none q_228 6 [(0, .ref 301), (1, .int t1)] [.int x4] _ _ _ _
  refine mp_Tb (t := 13) (j_if_ne dX7_refusal_6) (by decide) (fun c7 => ?_) (fun c7 => mpp 9 rfl ?_)
  · have c7 : x4.toInt ≠ 0 := ti_ne c7
    refine mp_a (a_aload_n dX7_refusal_13 rfl) (mpp 14 rfl ?_)
    have g8 := ti_full (fv Po 301 5)
    refine mt_getI (i := 68) (k := 5) hT dX7_refusal_14 rfl rl_301 (by decide) rfl (by decide) rfl (fun g9 g10 => mpp 17 rfl ?_)
    refine mp_Tb (t := 26) (j_if_ne dX7_refusal_17) (by decide) (fun c11 => ?_) (fun c11 => mpp 20 rfl ?_)
    · have c11 : (fv Po 301 5).toInt ≠ 0 := ti_ne c11
      refine mp_a (a_iload_n dX7_refusal_26 rfl) (mpp 27 rfl ?_)
      refine mp_Tb (t := 37) (j_if_ne dX7_refusal_27) (by decide) (fun c12 => ?_) (fun c12 => mpp 30 rfl ?_)
      · have c12 : t1.toInt ≠ 0 := ti_ne c12
        refine mp_a (a_iload_n dX7_refusal_37 rfl) (mpp 38 rfl ?_)
        refine mp_a (a_iconst (v := 1) dX7_refusal_38 rfl) (mpp 39 rfl ?_)
        refine mp_Tb (t := 49) (j_icmp_ne dX7_refusal_39) (by decide) (fun c13 => ?_) (fun c13 => mpp 42 rfl ?_)
        · have c13 : t1.toInt ≠ 1 := ti_ne c13
          refine mp_a (a_aload_n dX7_refusal_49 rfl) (mpp 50 rfl ?_)
          have g14 := ti_full (fv Po 301 7)
          refine mt_getI (i := 50) (k := 7) hT dX7_refusal_50 rfl rl_301 (by decide) rfl (by decide) rfl (fun g15 g16 => mpp 53 rfl ?_)
          exact mp_iret ⟨⟨_, rfl, trivial⟩, rfl⟩ dX7_refusal_53 (Or.inl rfl)
        · have c13 : t1.toInt = 1 := ti_ne_n c13
          refine mp_a (a_aload_n dX7_refusal_42 rfl) (mpp 43 rfl ?_)
          have g17 := ti_full (fv Po 301 6)
          refine mt_getI (i := 71) (k := 6) hT dX7_refusal_43 rfl rl_301 (by decide) rfl (by decide) rfl (fun g18 g19 => mpp 46 rfl ?_)
          refine mp_a (a_goto (t := 53) dX7_refusal_46 (by decide)) ?_
          exact mp_iret ⟨⟨_, rfl, trivial⟩, rfl⟩ dX7_refusal_53 (Or.inl rfl)
      · have c12 : t1.toInt = 0 := ti_ne_n c12
        refine mp_a (a_aload_n dX7_refusal_30 rfl) (mpp 31 rfl ?_)
        refine mt_getI (i := 68) (k := 5) hT dX7_refusal_31 rfl rl_301 (by decide) rfl (by decide) rfl (fun g20 g21 => mpp 34 rfl ?_)
        refine mp_a (a_goto (t := 53) dX7_refusal_34 (by decide)) ?_
        exact mp_iret ⟨⟨_, rfl, trivial⟩, rfl⟩ dX7_refusal_53 (Or.inl rfl)
    · have c11 : (fv Po 301 5).toInt = 0 := ti_ne_n c11
      refine mp_a (a_sipush (v := -1004) dX7_refusal_20 rfl) (mpp 23 rfl ?_)
      refine mp_a (a_goto (t := 53) dX7_refusal_23 (by decide)) ?_
      exact mp_iret ⟨⟨_, rfl, trivial⟩, rfl⟩ dX7_refusal_53 (Or.inl rfl)
  · have c7 : x4.toInt = 0 := ti_ne_n c7
    refine mp_a (a_sipush (v := -1002) dX7_refusal_9 rfl) (mpp 12 rfl ?_)
    exact mp_iret ⟨⟨_, rfl, trivial⟩, rfl⟩ dX7_refusal_12 (Or.inl rfl)

set_option maxHeartbeats 4000000 in
theorem c_M_piece_c0 {Po : mP} {t1 : Int32} (hT : Typ Po)   : EvP 3 194 [.ref 301, .int t1, .int 0] Po (fun r P' => (∃ x : Int32, r = some (.int x) ∧ ((t1.toInt < 0 ∨ (fv Po 302 0).toInt ≤ t1.toInt ∨ (0 ≤ x.toInt ∧ x.toInt ≤ 1)) ∧ pieceM (sr Po) x.toInt t1.toInt (0 : Int))) ∧ P' = Po) := by
  refine EvP.of qm_194 (Nat.le_of_ble_eq_true rfl) rfl ?_
  show MEvP _ none q_194 0 [(0, .ref 301), (1, .int t1), (2, .int 0)] [] _ 0 0 _
  have w_t1 := ti_full t1
  have g1 : (0 : Int) ≤ (fv Po 302 0).toInt ∧ (fv Po 302 0).toInt ≤ 8 := Typ.rng hT rl_302 (by decide) (by decide) rfl
  refine mp_a (a_aload_n dX7_piece_0 rfl) (mpp 1 rfl ?_)
  refine mp_a (a_iload_n dX7_piece_1 rfl) (mpp 2 rfl ?_)
  refine mt_callv (i := 85) (q' := q_144) (As := [.int t1]) (rest := []) hT dX7_piece_2 rfl qm_144 (by decide) rfl rl_301 (by decide) rfl (Nat.le_of_ble_eq_true rfl) rfl ⟨rfl, rfl⟩ ⟨Nat.le_of_ble_eq_true rfl, Nat.le_of_ble_eq_true rfl⟩ (EvP.mono (by decide) (c_M_isPiece hT )) (fun r2 P3 g4 => mpp 5 rfl ?_)
  obtain ⟨⟨x5, rfl, g6⟩, e7⟩ := g4
  have e7 := e7.symm
  subst e7
  have wx5 := ti_full x5
  replace g6 : 0 ≤ x5.toInt ∧ x5.toInt ≤ 1 ∧ ((x5.toInt = 1 ∧ 0 ≤ t1.toInt ∧ t1.toInt + 1 ≤ (fv Po 302 0).toInt ∧ t1.toInt ≤ 7) ∨ (x5.toInt = 0 ∧ (t1.toInt < 0 ∨ (fv Po 302 0).toInt ≤ t1.toInt))) := g6
  show MEvP _ none q_194 5 [(0, .ref 301), (1, .int t1), (2, .int 0)] [.int x5] _ _ _ _
  refine mp_Tb (t := 12) (j_if_ne dX7_piece_5) (by decide) (fun c8 => ?_) (fun c8 => mpp 8 rfl ?_)
  · have c8 : x5.toInt ≠ 0 := ti_ne c8
    refine mp_a (a_iload_n dX7_piece_12 rfl) (mpp 13 rfl ?_)
    refine mp_t (s_tabIn (t := 64) dX7_piece_13 (by decide) rfl (by decide)) ?_
    refine mp_a (a_aload_n dX7_piece_64 rfl) (mpp 65 rfl ?_)
    refine mp_a (a_iload_n dX7_piece_65 rfl) (mpp 66 rfl ?_)
    refine mp_a (a_iconst (v := 0) dX7_piece_66 rfl) (mpp 67 rfl ?_)
    have p9 : 0 ≤ t1.toInt := by omega
    have p10 : t1.toInt ≤ 7 := by omega
    have p11 : 0 ≤ (0 : Int) := by omega
    have p12 : (0 : Int) ≤ 18 := by omega
    refine mt_callv (i := 78) (q' := q_137) (As := [.int t1, .int 0]) (rest := []) hT dX7_piece_67 rfl qm_137 (by decide) rfl rl_301 (by decide) rfl (Nat.le_of_ble_eq_true rfl) rfl ⟨rfl, rfl⟩ ⟨Nat.le_of_ble_eq_true rfl, Nat.le_of_ble_eq_true rfl⟩ (EvP.mono (by decide) (c_M_of_c0 hT p9 p10 p11 p12 )) (fun r13 P14 g15 => mpp 70 rfl ?_)
    obtain ⟨⟨x16, rfl, g17⟩, e18⟩ := g15
    have e18 := e18.symm
    subst e18
    have wx16 := ti_full x16
    replace g17 : x16.toInt = (fv Po 302 (3 + 19 * t1.toInt.toNat)).toInt ∧ 0 ≤ x16.toInt ∧ x16.toInt ≤ 1 := g17
    try have g19 : (0 : Int) ≤ (fv Po 302 (3 + 19 * t1.toInt.toNat)).toInt ∧ (fv Po 302 (3 + 19 * t1.toInt.toNat)).toInt ≤ 1 := s3_rng hT (by omega)
    show MEvP _ none q_194 70 [(0, .ref 301), (1, .int t1), (2, .int 0)] [.int x16] _ _ _ _
    have u20 : (t1.toInt < 0 ∨ (fv Po 302 0).toInt ≤ t1.toInt ∨ (0 ≤ x16.toInt ∧ x16.toInt ≤ 1)) ∧ pieceM (sr Po) x16.toInt t1.toInt (0 : Int) := ⟨by omega, (show (x16.toInt = -1001 ∧ (t1.toInt < 0 ∨ (fv Po 302 (0)).toInt ≤ t1.toInt)) ∨ ((0 ≤ t1.toInt ∧ t1.toInt + 1 ≤ (fv Po 302 (0)).toInt ∧ t1.toInt ≤ 7) ∧ (0 : Int) = 0 ∧ x16.toInt = (fv Po 302 (3 + 19 * t1.toInt.toNat)).toInt) ∨ ((0 ≤ t1.toInt ∧ t1.toInt + 1 ≤ (fv Po 302 (0)).toInt ∧ t1.toInt ≤ 7) ∧ (0 : Int) = 1 ∧ x16.toInt = (fv Po 302 (4 + 19 * t1.toInt.toNat)).toInt) ∨ ((0 ≤ t1.toInt ∧ t1.toInt + 1 ≤ (fv Po 302 (0)).toInt ∧ t1.toInt ≤ 7) ∧ (0 : Int) = 2 ∧ (((fv Po 302 (3 + 19 * t1.toInt.toNat)).toInt = 1 ∧ x16.toInt = (fv Po 302 (4 + 19 * t1.toInt.toNat)).toInt) ∨ ((fv Po 302 (3 + 19 * t1.toInt.toNat)).toInt = 0 ∧ x16.toInt = (fv Po 302 (4 + 19 * t1.toInt.toNat)).toInt - 1))) ∨ ((0 ≤ t1.toInt ∧ t1.toInt + 1 ≤ (fv Po 302 (0)).toInt ∧ t1.toInt ≤ 7) ∧ (0 : Int) = 3 ∧ x16.toInt = cntF (fun j : Nat => fv Po 302 (14 + 19 * t1.toInt.toNat + j)) 1 (nC (fv Po 302 (3 + 19 * t1.toInt.toNat)).toInt (fv Po 302 (4 + 19 * t1.toInt.toNat)).toInt)) ∨ ((0 ≤ t1.toInt ∧ t1.toInt + 1 ≤ (fv Po 302 (0)).toInt ∧ t1.toInt ≤ 7) ∧ (0 : Int) = 4 ∧ x16.toInt = cntF (fun j : Nat => fv Po 302 (14 + 19 * t1.toInt.toNat + j)) 2 (nC (fv Po 302 (3 + 19 * t1.toInt.toNat)).toInt (fv Po 302 (4 + 19 * t1.toInt.toNat)).toInt)) ∨ ((0 ≤ t1.toInt ∧ t1.toInt + 1 ≤ (fv Po 302 (0)).toInt ∧ t1.toInt ≤ 7) ∧ (0 : Int) = 5 ∧ x16.toInt = cntF (fun j : Nat => fv Po 302 (14 + 19 * t1.toInt.toNat + j)) 0 (nC (fv Po 302 (3 + 19 * t1.toInt.toNat)).toInt (fv Po 302 (4 + 19 * t1.toInt.toNat)).toInt)) ∨ ((0 ≤ t1.toInt ∧ t1.toInt + 1 ≤ (fv Po 302 (0)).toInt ∧ t1.toInt ≤ 7) ∧ (0 : Int) = 6 ∧ x16.toInt = (smF (fun j : Nat => fv Po 302 (6 + 19 * t1.toInt.toNat + j)) (fv Po 302 (4 + 19 * t1.toInt.toNat)).toInt.toNat).toInt) ∨ ((0 ≤ t1.toInt ∧ t1.toInt + 1 ≤ (fv Po 302 (0)).toInt ∧ t1.toInt ≤ 7) ∧ (0 : Int) = 7 ∧ x16.toInt = (fv Po 302 (5 + 19 * t1.toInt.toNat)).toInt) ∨ ((0 ≤ t1.toInt ∧ t1.toInt + 1 ≤ (fv Po 302 (0)).toInt ∧ t1.toInt ≤ 7) ∧ (0 : Int) = 8 ∧ x16.toInt = (wdF (fv Po 302 (3 + 19 * t1.toInt.toNat)).toInt (fun j : Nat => fv Po 302 (6 + 19 * t1.toInt.toNat + j)) (fv Po 302 (4 + 19 * t1.toInt.toNat)).toInt.toNat).toInt) ∨ ((0 ≤ t1.toInt ∧ t1.toInt + 1 ≤ (fv Po 302 (0)).toInt ∧ t1.toInt ≤ 7) ∧ ((0 : Int) < 0 ∨ 8 < (0 : Int)) ∧ x16.toInt = -1002) from Or.inr (Or.inl (⟨by omega, by omega, by omega⟩)))⟩
    exact mp_iret ⟨⟨_, rfl, u20⟩, rfl⟩ dX7_piece_70 (Or.inl rfl)
  · have c8 : x5.toInt = 0 := ti_ne_n c8
    refine mp_a (a_sipush (v := -1001) dX7_piece_8 rfl) (mpp 11 rfl ?_)
    have u21 : (t1.toInt < 0 ∨ (fv Po 302 0).toInt ≤ t1.toInt ∨ (0 ≤ (-1001 : Int) ∧ (-1001 : Int) ≤ 1)) ∧ pieceM (sr Po) (-1001 : Int) t1.toInt (0 : Int) := ⟨by omega, (show ((-1001 : Int) = -1001 ∧ (t1.toInt < 0 ∨ (fv Po 302 (0)).toInt ≤ t1.toInt)) ∨ ((0 ≤ t1.toInt ∧ t1.toInt + 1 ≤ (fv Po 302 (0)).toInt ∧ t1.toInt ≤ 7) ∧ (0 : Int) = 0 ∧ (-1001 : Int) = (fv Po 302 (3 + 19 * t1.toInt.toNat)).toInt) ∨ ((0 ≤ t1.toInt ∧ t1.toInt + 1 ≤ (fv Po 302 (0)).toInt ∧ t1.toInt ≤ 7) ∧ (0 : Int) = 1 ∧ (-1001 : Int) = (fv Po 302 (4 + 19 * t1.toInt.toNat)).toInt) ∨ ((0 ≤ t1.toInt ∧ t1.toInt + 1 ≤ (fv Po 302 (0)).toInt ∧ t1.toInt ≤ 7) ∧ (0 : Int) = 2 ∧ (((fv Po 302 (3 + 19 * t1.toInt.toNat)).toInt = 1 ∧ (-1001 : Int) = (fv Po 302 (4 + 19 * t1.toInt.toNat)).toInt) ∨ ((fv Po 302 (3 + 19 * t1.toInt.toNat)).toInt = 0 ∧ (-1001 : Int) = (fv Po 302 (4 + 19 * t1.toInt.toNat)).toInt - 1))) ∨ ((0 ≤ t1.toInt ∧ t1.toInt + 1 ≤ (fv Po 302 (0)).toInt ∧ t1.toInt ≤ 7) ∧ (0 : Int) = 3 ∧ (-1001 : Int) = cntF (fun j : Nat => fv Po 302 (14 + 19 * t1.toInt.toNat + j)) 1 (nC (fv Po 302 (3 + 19 * t1.toInt.toNat)).toInt (fv Po 302 (4 + 19 * t1.toInt.toNat)).toInt)) ∨ ((0 ≤ t1.toInt ∧ t1.toInt + 1 ≤ (fv Po 302 (0)).toInt ∧ t1.toInt ≤ 7) ∧ (0 : Int) = 4 ∧ (-1001 : Int) = cntF (fun j : Nat => fv Po 302 (14 + 19 * t1.toInt.toNat + j)) 2 (nC (fv Po 302 (3 + 19 * t1.toInt.toNat)).toInt (fv Po 302 (4 + 19 * t1.toInt.toNat)).toInt)) ∨ ((0 ≤ t1.toInt ∧ t1.toInt + 1 ≤ (fv Po 302 (0)).toInt ∧ t1.toInt ≤ 7) ∧ (0 : Int) = 5 ∧ (-1001 : Int) = cntF (fun j : Nat => fv Po 302 (14 + 19 * t1.toInt.toNat + j)) 0 (nC (fv Po 302 (3 + 19 * t1.toInt.toNat)).toInt (fv Po 302 (4 + 19 * t1.toInt.toNat)).toInt)) ∨ ((0 ≤ t1.toInt ∧ t1.toInt + 1 ≤ (fv Po 302 (0)).toInt ∧ t1.toInt ≤ 7) ∧ (0 : Int) = 6 ∧ (-1001 : Int) = (smF (fun j : Nat => fv Po 302 (6 + 19 * t1.toInt.toNat + j)) (fv Po 302 (4 + 19 * t1.toInt.toNat)).toInt.toNat).toInt) ∨ ((0 ≤ t1.toInt ∧ t1.toInt + 1 ≤ (fv Po 302 (0)).toInt ∧ t1.toInt ≤ 7) ∧ (0 : Int) = 7 ∧ (-1001 : Int) = (fv Po 302 (5 + 19 * t1.toInt.toNat)).toInt) ∨ ((0 ≤ t1.toInt ∧ t1.toInt + 1 ≤ (fv Po 302 (0)).toInt ∧ t1.toInt ≤ 7) ∧ (0 : Int) = 8 ∧ (-1001 : Int) = (wdF (fv Po 302 (3 + 19 * t1.toInt.toNat)).toInt (fun j : Nat => fv Po 302 (6 + 19 * t1.toInt.toNat + j)) (fv Po 302 (4 + 19 * t1.toInt.toNat)).toInt.toNat).toInt) ∨ ((0 ≤ t1.toInt ∧ t1.toInt + 1 ≤ (fv Po 302 (0)).toInt ∧ t1.toInt ≤ 7) ∧ ((0 : Int) < 0 ∨ 8 < (0 : Int)) ∧ (-1001 : Int) = -1002) from Or.inl (⟨by omega, by omega⟩))⟩
    exact mp_iret ⟨⟨_, rfl, u21⟩, rfl⟩ dX7_piece_11 (Or.inl rfl)

set_option maxHeartbeats 4000000 in
theorem c_M_allOf_c0_l4 {Po : mP}  (hT : Typ Po) (hR : Rel Po)  : ∀ (n : Nat) (v2 : Int32) (v3 : Int32), (v2.toInt = siF (fun k : Nat => (fv Po 302 (3 + 19 * k)).toInt) v3.toInt.toNat) → (v3.toInt ≤ (fv Po 302 0).toInt) → (0 ≤ v2.toInt) → (v2.toInt ≤ 1 * v3.toInt) → (0 ≤ v3.toInt) → (2147483647 - v3.toInt).toNat = n → MEvP 3 none q_230 4 [(0, .ref 301), (1, .int 0), (2, .int v2), (3, .int v3)] [] Po 0 0 (fun r P' => (∃ x : Int32, r = some (.int x) ∧ (0 ≤ x.toInt ∧ x.toInt ≤ 8 ∧ x.toInt = siF (fun k : Nat => (fv Po 302 (3 + 19 * k)).toInt) (fv Po 302 0).toInt.toNat)) ∧ P' = Po) := by
  intro n
  induction n using Nat.strongRecOn with | _ n ih => ?_
  intro v2 v3 i_0 i_1 i_2 i_3 i_4 hm
  have w_v2 := ti_full v2
  have w_v3 := ti_full v3
  have g1 : (0 : Int) ≤ (fv Po 302 0).toInt ∧ (fv Po 302 0).toInt ≤ 8 := Typ.rng hT rl_302 (by decide) (by decide) rfl
  refine mp_a (a_iload_n dX7_allOf_4 rfl) (mpp 5 rfl ?_)
  refine mp_a (a_aload_n dX7_allOf_5 rfl) (mpp 6 rfl ?_)
  refine mt_getU (i := 9) (k := 0) (A := 302) hT dX7_allOf_6 rfl rl_301 (by decide) rfl (by decide) rfl un_18 (mpp 9 rfl ?_)
  refine mp_a (a_iconst (v := 0) dX7_allOf_9 rfl) (mpp 10 rfl ?_)
  refine mt_ialX (n := 155) hT dX7_allOf_10 rl_302 (by decide) rfl rfl (by decide) (by decide) ssp_0 (fun g2 => mpp 11 rfl ?_)
  have we4 := ti_full (fv Po 302 0)
  refine mp_Tb (t := 29) (j_icmp_ge dX7_allOf_11) (by decide) (fun c5 => ?_) (fun c5 => mpp 14 rfl ?_)
  · have c5 : v3.toInt ≥ (fv Po 302 0).toInt := ti_ge c5
    refine mp_a (a_iload_n dX7_allOf_29 rfl) (mpp 30 rfl ?_)
    have u6 : 0 ≤ v2.toInt ∧ v2.toInt ≤ 8 ∧ v2.toInt = siF (fun k : Nat => (fv Po 302 (3 + 19 * k)).toInt) (fv Po 302 0).toInt.toNat := ⟨by omega, by omega, i_0.trans (congrArg (siF _) (by omega))⟩
    exact mp_iret ⟨⟨_, rfl, u6⟩, rfl⟩ dX7_allOf_30 (Or.inl rfl)
  · have c5 : v3.toInt < (fv Po 302 0).toInt := ti_ge_n c5
    refine mp_a (a_iload_n dX7_allOf_14 rfl) (mpp 15 rfl ?_)
    refine mp_a (a_aload_n dX7_allOf_15 rfl) (mpp 16 rfl ?_)
    refine mp_a (a_iload_n dX7_allOf_16 rfl) (mpp 17 rfl ?_)
    refine mp_a (a_iload_n dX7_allOf_17 rfl) (mpp 18 rfl ?_)
    refine mt_callv (i := 348) (q' := q_194) (As := [.int v3, .int 0]) (rest := [.int v2]) hT dX7_allOf_18 rfl qm_194 (by decide) rfl rl_301 (by decide) rfl (Nat.le_of_ble_eq_true rfl) rfl ⟨rfl, rfl⟩ ⟨Nat.le_of_ble_eq_true rfl, Nat.le_of_ble_eq_true rfl⟩ (EvP.mono (by decide) (c_M_piece_c0 hT )) (fun r7 P8 g9 => mpp 21 rfl ?_)
    obtain ⟨⟨x10, rfl, g11⟩, e12⟩ := g9
    have e12 := e12.symm
    subst e12
    have wx10 := ti_full x10
    replace g11 : (v3.toInt < 0 ∨ (fv Po 302 0).toInt ≤ v3.toInt ∨ (0 ≤ x10.toInt ∧ x10.toInt ≤ 1)) ∧ pieceM (sr Po) x10.toInt v3.toInt (0 : Int) := g11
    show MEvP _ none q_230 21 [(0, .ref 301), (1, .int 0), (2, .int v2), (3, .int v3)] [.int x10, .int v2] _ _ _ _
    obtain ⟨z13, h14⟩ := ti_ex (v2 + x10 : Int32)
    have wz13 := ti_full z13
    refine mp_t (s_iadd (v := z13) dX7_allOf_21 h14) (mpp 22 rfl ?_)
    try have e15 : z13.toInt = v2.toInt + x10.toInt := ti_addz h14 rfl rfl (by omega) (by omega)
    refine mp_a (a_istore_n (L' := [(2, .int z13), (0, .ref 301), (1, .int 0), (3, .int v3)]) dX7_allOf_22 (by decide) rfl) (mpp 23 rfl ?_)
    obtain ⟨z16, h17⟩ := ti_ex (v3 + 1 : Int32)
    have wz16 := ti_full z16
    refine mp_a (a_iinc (v := z16) (L' := [(3, .int z16), (2, .int z13), (0, .ref 301), (1, .int 0)]) dX7_allOf_23 (by decide) rfl h17 rfl) (mpp 26 rfl ?_)
    try have e18 : z16.toInt = v3.toInt + 1 := ti_addz h17 rfl rfl (by omega) (by omega)
    refine mp_a (a_goto (t := 4) dX7_allOf_26 (by decide)) ?_
    refine MEvP.less (L := [(0, .ref 301), (1, .int 0), (2, .int z13), (3, .int z16)]) rfl rfl ⟨rfl, rfl, rfl, rfl, trivial⟩ ?_
    have i19 : z13.toInt = siF (fun k : Nat => (fv Po 302 (3 + 19 * k)).toInt) z16.toInt.toNat := siF.step i_0 (by omega) (d := x10.toInt) (pieceM.k0 g11.2 (by omega) (show v3.toInt + 1 ≤ (fv Po 302 0).toInt from by omega)).symm (by omega)
    have i20 : z16.toInt ≤ (fv Po 302 0).toInt := by omega
    have i21 : 0 ≤ z13.toInt := by omega
    have i22 : z13.toInt ≤ 1 * z16.toInt := by omega
    have i23 : 0 ≤ z16.toInt := by omega
    exact ih _ (by omega) _ _ i19 i20 i21 i22 i23 rfl

set_option maxHeartbeats 4000000 in
theorem c_M_allOf_c0 {Po : mP}  (hT : Typ Po) (hR : Rel Po)  : EvP 4 230 [.ref 301, .int 0] Po (fun r P' => (∃ x : Int32, r = some (.int x) ∧ (0 ≤ x.toInt ∧ x.toInt ≤ 8 ∧ x.toInt = siF (fun k : Nat => (fv Po 302 (3 + 19 * k)).toInt) (fv Po 302 0).toInt.toNat)) ∧ P' = Po) := by
  refine EvP.of qm_230 (Nat.le_of_ble_eq_true rfl) rfl ?_
  show MEvP _ none q_230 0 [(0, .ref 301), (1, .int 0)] [] _ 0 0 _
  have g1 : (0 : Int) ≤ (fv Po 302 0).toInt ∧ (fv Po 302 0).toInt ≤ 8 := Typ.rng hT rl_302 (by decide) (by decide) rfl
  refine mp_a (a_iconst (v := 0) dX7_allOf_0 rfl) (mpp 1 rfl ?_)
  refine mp_a (a_istore_n (L' := [(2, .int 0), (0, .ref 301), (1, .int 0)]) dX7_allOf_1 (by decide) rfl) (mpp 2 rfl ?_)
  refine mp_a (a_iconst (v := 0) dX7_allOf_2 rfl) (mpp 3 rfl ?_)
  refine mp_a (a_istore_n (L' := [(3, .int 0), (2, .int 0), (0, .ref 301), (1, .int 0)]) dX7_allOf_3 (by decide) rfl) (mpp 4 rfl ?_)
  refine MEvP.less (L := [(0, .ref 301), (1, .int 0), (2, .int 0), (3, .int 0)]) rfl rfl ⟨rfl, rfl, rfl, rfl, trivial⟩ ?_
  have i2 : (0 : Int) = siF (fun k : Nat => (fv Po 302 (3 + 19 * k)).toInt) (0 : Int).toNat := rfl
  have i3 : (0 : Int) ≤ (fv Po 302 0).toInt := by omega
  have i4 : 0 ≤ (0 : Int) := by omega
  have i5 : (0 : Int) ≤ 1 * (0 : Int) := by omega
  have i6 : 0 ≤ (0 : Int) := by omega
  exact c_M_allOf_c0_l4 hT hR  _ _ _ i2 i3 i4 i5 i6 rfl

set_option maxHeartbeats 4000000 in
theorem c_M_piece_c7 {Po : mP} {t1 : Int32} (hT : Typ Po)   : EvP 3 194 [.ref 301, .int t1, .int 7] Po (fun r P' => (∃ x : Int32, r = some (.int x) ∧ (pieceM (sr Po) x.toInt t1.toInt (7 : Int))) ∧ P' = Po) := by
  refine EvP.of qm_194 (Nat.le_of_ble_eq_true rfl) rfl ?_
  show MEvP _ none q_194 0 [(0, .ref 301), (1, .int t1), (2, .int 7)] [] _ 0 0 _
  have w_t1 := ti_full t1
  refine mp_a (a_aload_n dX7_piece_0 rfl) (mpp 1 rfl ?_)
  refine mp_a (a_iload_n dX7_piece_1 rfl) (mpp 2 rfl ?_)
  refine mt_callv (i := 85) (q' := q_144) (As := [.int t1]) (rest := []) hT dX7_piece_2 rfl qm_144 (by decide) rfl rl_301 (by decide) rfl (Nat.le_of_ble_eq_true rfl) rfl ⟨rfl, rfl⟩ ⟨Nat.le_of_ble_eq_true rfl, Nat.le_of_ble_eq_true rfl⟩ (EvP.mono (by decide) (c_M_isPiece hT )) (fun r1 P2 g3 => mpp 5 rfl ?_)
  obtain ⟨⟨x4, rfl, g5⟩, e6⟩ := g3
  have e6 := e6.symm
  subst e6
  have wx4 := ti_full x4
  replace g5 : 0 ≤ x4.toInt ∧ x4.toInt ≤ 1 ∧ ((x4.toInt = 1 ∧ 0 ≤ t1.toInt ∧ t1.toInt + 1 ≤ (fv Po 302 0).toInt ∧ t1.toInt ≤ 7) ∨ (x4.toInt = 0 ∧ (t1.toInt < 0 ∨ (fv Po 302 0).toInt ≤ t1.toInt))) := g5
  have g7 : (0 : Int) ≤ (fv Po 302 0).toInt ∧ (fv Po 302 0).toInt ≤ 8 := Typ.rng hT rl_302 (by decide) (by decide) rfl
  show MEvP _ none q_194 5 [(0, .ref 301), (1, .int t1), (2, .int 7)] [.int x4] _ _ _ _
  refine mp_Tb (t := 12) (j_if_ne dX7_piece_5) (by decide) (fun c8 => ?_) (fun c8 => mpp 8 rfl ?_)
  · have c8 : x4.toInt ≠ 0 := ti_ne c8
    refine mp_a (a_iload_n dX7_piece_12 rfl) (mpp 13 rfl ?_)
    refine mp_t (s_tabIn (t := 111) dX7_piece_13 (by decide) rfl (by decide)) ?_
    refine mp_a (a_aload_n dX7_piece_111 rfl) (mpp 112 rfl ?_)
    refine mp_a (a_iload_n dX7_piece_112 rfl) (mpp 113 rfl ?_)
    refine mp_a (a_iconst (v := 2) dX7_piece_113 rfl) (mpp 114 rfl ?_)
    have p9 : 0 ≤ t1.toInt := by omega
    have p10 : t1.toInt ≤ 7 := by omega
    have p11 : 0 ≤ (2 : Int) := by omega
    have p12 : (2 : Int) ≤ 18 := by omega
    refine mt_callv (i := 78) (q' := q_137) (As := [.int t1, .int 2]) (rest := []) hT dX7_piece_114 rfl qm_137 (by decide) rfl rl_301 (by decide) rfl (Nat.le_of_ble_eq_true rfl) rfl ⟨rfl, rfl⟩ ⟨Nat.le_of_ble_eq_true rfl, Nat.le_of_ble_eq_true rfl⟩ (EvP.mono (by decide) (c_M_of_c2 hT p9 p10 p11 p12 )) (fun r13 P14 g15 => mpp 117 rfl ?_)
    obtain ⟨⟨x16, rfl, g17⟩, e18⟩ := g15
    have e18 := e18.symm
    subst e18
    have wx16 := ti_full x16
    replace g17 : x16.toInt = (fv Po 302 (5 + 19 * t1.toInt.toNat)).toInt := g17
    have g19 := ti_full (fv Po 302 (5 + 19 * t1.toInt.toNat))
    show MEvP _ none q_194 117 [(0, .ref 301), (1, .int t1), (2, .int 7)] [.int x16] _ _ _ _
    have u20 : pieceM (sr Po) x16.toInt t1.toInt (7 : Int) := (show (x16.toInt = -1001 ∧ (t1.toInt < 0 ∨ (fv Po 302 (0)).toInt ≤ t1.toInt)) ∨ ((0 ≤ t1.toInt ∧ t1.toInt + 1 ≤ (fv Po 302 (0)).toInt ∧ t1.toInt ≤ 7) ∧ (7 : Int) = 0 ∧ x16.toInt = (fv Po 302 (3 + 19 * t1.toInt.toNat)).toInt) ∨ ((0 ≤ t1.toInt ∧ t1.toInt + 1 ≤ (fv Po 302 (0)).toInt ∧ t1.toInt ≤ 7) ∧ (7 : Int) = 1 ∧ x16.toInt = (fv Po 302 (4 + 19 * t1.toInt.toNat)).toInt) ∨ ((0 ≤ t1.toInt ∧ t1.toInt + 1 ≤ (fv Po 302 (0)).toInt ∧ t1.toInt ≤ 7) ∧ (7 : Int) = 2 ∧ (((fv Po 302 (3 + 19 * t1.toInt.toNat)).toInt = 1 ∧ x16.toInt = (fv Po 302 (4 + 19 * t1.toInt.toNat)).toInt) ∨ ((fv Po 302 (3 + 19 * t1.toInt.toNat)).toInt = 0 ∧ x16.toInt = (fv Po 302 (4 + 19 * t1.toInt.toNat)).toInt - 1))) ∨ ((0 ≤ t1.toInt ∧ t1.toInt + 1 ≤ (fv Po 302 (0)).toInt ∧ t1.toInt ≤ 7) ∧ (7 : Int) = 3 ∧ x16.toInt = cntF (fun j : Nat => fv Po 302 (14 + 19 * t1.toInt.toNat + j)) 1 (nC (fv Po 302 (3 + 19 * t1.toInt.toNat)).toInt (fv Po 302 (4 + 19 * t1.toInt.toNat)).toInt)) ∨ ((0 ≤ t1.toInt ∧ t1.toInt + 1 ≤ (fv Po 302 (0)).toInt ∧ t1.toInt ≤ 7) ∧ (7 : Int) = 4 ∧ x16.toInt = cntF (fun j : Nat => fv Po 302 (14 + 19 * t1.toInt.toNat + j)) 2 (nC (fv Po 302 (3 + 19 * t1.toInt.toNat)).toInt (fv Po 302 (4 + 19 * t1.toInt.toNat)).toInt)) ∨ ((0 ≤ t1.toInt ∧ t1.toInt + 1 ≤ (fv Po 302 (0)).toInt ∧ t1.toInt ≤ 7) ∧ (7 : Int) = 5 ∧ x16.toInt = cntF (fun j : Nat => fv Po 302 (14 + 19 * t1.toInt.toNat + j)) 0 (nC (fv Po 302 (3 + 19 * t1.toInt.toNat)).toInt (fv Po 302 (4 + 19 * t1.toInt.toNat)).toInt)) ∨ ((0 ≤ t1.toInt ∧ t1.toInt + 1 ≤ (fv Po 302 (0)).toInt ∧ t1.toInt ≤ 7) ∧ (7 : Int) = 6 ∧ x16.toInt = (smF (fun j : Nat => fv Po 302 (6 + 19 * t1.toInt.toNat + j)) (fv Po 302 (4 + 19 * t1.toInt.toNat)).toInt.toNat).toInt) ∨ ((0 ≤ t1.toInt ∧ t1.toInt + 1 ≤ (fv Po 302 (0)).toInt ∧ t1.toInt ≤ 7) ∧ (7 : Int) = 7 ∧ x16.toInt = (fv Po 302 (5 + 19 * t1.toInt.toNat)).toInt) ∨ ((0 ≤ t1.toInt ∧ t1.toInt + 1 ≤ (fv Po 302 (0)).toInt ∧ t1.toInt ≤ 7) ∧ (7 : Int) = 8 ∧ x16.toInt = (wdF (fv Po 302 (3 + 19 * t1.toInt.toNat)).toInt (fun j : Nat => fv Po 302 (6 + 19 * t1.toInt.toNat + j)) (fv Po 302 (4 + 19 * t1.toInt.toNat)).toInt.toNat).toInt) ∨ ((0 ≤ t1.toInt ∧ t1.toInt + 1 ≤ (fv Po 302 (0)).toInt ∧ t1.toInt ≤ 7) ∧ ((7 : Int) < 0 ∨ 8 < (7 : Int)) ∧ x16.toInt = -1002) from Or.inr (Or.inr (Or.inr (Or.inr (Or.inr (Or.inr (Or.inr (Or.inr (Or.inl (⟨by omega, by omega, by omega⟩))))))))))
    exact mp_iret ⟨⟨_, rfl, u20⟩, rfl⟩ dX7_piece_117 (Or.inl rfl)
  · have c8 : x4.toInt = 0 := ti_ne_n c8
    refine mp_a (a_sipush (v := -1001) dX7_piece_8 rfl) (mpp 11 rfl ?_)
    have u21 : pieceM (sr Po) (-1001 : Int) t1.toInt (7 : Int) := (show ((-1001 : Int) = -1001 ∧ (t1.toInt < 0 ∨ (fv Po 302 (0)).toInt ≤ t1.toInt)) ∨ ((0 ≤ t1.toInt ∧ t1.toInt + 1 ≤ (fv Po 302 (0)).toInt ∧ t1.toInt ≤ 7) ∧ (7 : Int) = 0 ∧ (-1001 : Int) = (fv Po 302 (3 + 19 * t1.toInt.toNat)).toInt) ∨ ((0 ≤ t1.toInt ∧ t1.toInt + 1 ≤ (fv Po 302 (0)).toInt ∧ t1.toInt ≤ 7) ∧ (7 : Int) = 1 ∧ (-1001 : Int) = (fv Po 302 (4 + 19 * t1.toInt.toNat)).toInt) ∨ ((0 ≤ t1.toInt ∧ t1.toInt + 1 ≤ (fv Po 302 (0)).toInt ∧ t1.toInt ≤ 7) ∧ (7 : Int) = 2 ∧ (((fv Po 302 (3 + 19 * t1.toInt.toNat)).toInt = 1 ∧ (-1001 : Int) = (fv Po 302 (4 + 19 * t1.toInt.toNat)).toInt) ∨ ((fv Po 302 (3 + 19 * t1.toInt.toNat)).toInt = 0 ∧ (-1001 : Int) = (fv Po 302 (4 + 19 * t1.toInt.toNat)).toInt - 1))) ∨ ((0 ≤ t1.toInt ∧ t1.toInt + 1 ≤ (fv Po 302 (0)).toInt ∧ t1.toInt ≤ 7) ∧ (7 : Int) = 3 ∧ (-1001 : Int) = cntF (fun j : Nat => fv Po 302 (14 + 19 * t1.toInt.toNat + j)) 1 (nC (fv Po 302 (3 + 19 * t1.toInt.toNat)).toInt (fv Po 302 (4 + 19 * t1.toInt.toNat)).toInt)) ∨ ((0 ≤ t1.toInt ∧ t1.toInt + 1 ≤ (fv Po 302 (0)).toInt ∧ t1.toInt ≤ 7) ∧ (7 : Int) = 4 ∧ (-1001 : Int) = cntF (fun j : Nat => fv Po 302 (14 + 19 * t1.toInt.toNat + j)) 2 (nC (fv Po 302 (3 + 19 * t1.toInt.toNat)).toInt (fv Po 302 (4 + 19 * t1.toInt.toNat)).toInt)) ∨ ((0 ≤ t1.toInt ∧ t1.toInt + 1 ≤ (fv Po 302 (0)).toInt ∧ t1.toInt ≤ 7) ∧ (7 : Int) = 5 ∧ (-1001 : Int) = cntF (fun j : Nat => fv Po 302 (14 + 19 * t1.toInt.toNat + j)) 0 (nC (fv Po 302 (3 + 19 * t1.toInt.toNat)).toInt (fv Po 302 (4 + 19 * t1.toInt.toNat)).toInt)) ∨ ((0 ≤ t1.toInt ∧ t1.toInt + 1 ≤ (fv Po 302 (0)).toInt ∧ t1.toInt ≤ 7) ∧ (7 : Int) = 6 ∧ (-1001 : Int) = (smF (fun j : Nat => fv Po 302 (6 + 19 * t1.toInt.toNat + j)) (fv Po 302 (4 + 19 * t1.toInt.toNat)).toInt.toNat).toInt) ∨ ((0 ≤ t1.toInt ∧ t1.toInt + 1 ≤ (fv Po 302 (0)).toInt ∧ t1.toInt ≤ 7) ∧ (7 : Int) = 7 ∧ (-1001 : Int) = (fv Po 302 (5 + 19 * t1.toInt.toNat)).toInt) ∨ ((0 ≤ t1.toInt ∧ t1.toInt + 1 ≤ (fv Po 302 (0)).toInt ∧ t1.toInt ≤ 7) ∧ (7 : Int) = 8 ∧ (-1001 : Int) = (wdF (fv Po 302 (3 + 19 * t1.toInt.toNat)).toInt (fun j : Nat => fv Po 302 (6 + 19 * t1.toInt.toNat + j)) (fv Po 302 (4 + 19 * t1.toInt.toNat)).toInt.toNat).toInt) ∨ ((0 ≤ t1.toInt ∧ t1.toInt + 1 ≤ (fv Po 302 (0)).toInt ∧ t1.toInt ≤ 7) ∧ ((7 : Int) < 0 ∨ 8 < (7 : Int)) ∧ (-1001 : Int) = -1002) from Or.inl (⟨by omega, by omega⟩))
    exact mp_iret ⟨⟨_, rfl, u21⟩, rfl⟩ dX7_piece_11 (Or.inl rfl)

set_option maxHeartbeats 4000000 in
theorem c_M_allOf_c7_l4 {Po : mP}  (hT : Typ Po) (hR : Rel Po)  : ∀ (n : Nat) (v2 : Int32) (v3 : Int32), (v2 = smF (fun k : Nat => fv Po 302 (5 + 19 * k)) v3.toInt.toNat) → (v3.toInt ≤ (fv Po 302 0).toInt) → (0 ≤ v3.toInt) → (2147483647 - v3.toInt).toNat = n → MEvP 3 none q_230 4 [(0, .ref 301), (1, .int 7), (2, .int v2), (3, .int v3)] [] Po 0 0 (fun r P' => (∃ x : Int32, r = some (.int x) ∧ (x.toInt = (smF (fun k : Nat => fv Po 302 (5 + 19 * k)) (fv Po 302 0).toInt.toNat).toInt)) ∧ P' = Po) := by
  intro n
  induction n using Nat.strongRecOn with | _ n ih => ?_
  intro v2 v3 i_0 i_1 i_2 hm
  have w_v2 := ti_full v2
  have w_v3 := ti_full v3
  have g1 : (0 : Int) ≤ (fv Po 302 0).toInt ∧ (fv Po 302 0).toInt ≤ 8 := Typ.rng hT rl_302 (by decide) (by decide) rfl
  refine mp_a (a_iload_n dX7_allOf_4 rfl) (mpp 5 rfl ?_)
  refine mp_a (a_aload_n dX7_allOf_5 rfl) (mpp 6 rfl ?_)
  refine mt_getU (i := 9) (k := 0) (A := 302) hT dX7_allOf_6 rfl rl_301 (by decide) rfl (by decide) rfl un_18 (mpp 9 rfl ?_)
  refine mp_a (a_iconst (v := 0) dX7_allOf_9 rfl) (mpp 10 rfl ?_)
  refine mt_ialX (n := 155) hT dX7_allOf_10 rl_302 (by decide) rfl rfl (by decide) (by decide) ssp_0 (fun g2 => mpp 11 rfl ?_)
  have we4 := ti_full (fv Po 302 0)
  refine mp_Tb (t := 29) (j_icmp_ge dX7_allOf_11) (by decide) (fun c5 => ?_) (fun c5 => mpp 14 rfl ?_)
  · have c5 : v3.toInt ≥ (fv Po 302 0).toInt := ti_ge c5
    refine mp_a (a_iload_n dX7_allOf_29 rfl) (mpp 30 rfl ?_)
    have u6 : v2.toInt = (smF (fun k : Nat => fv Po 302 (5 + 19 * k)) (fv Po 302 0).toInt.toNat).toInt := congrArg Int32.toInt (i_0.trans (congrArg (smF _) (by omega)))
    exact mp_iret ⟨⟨_, rfl, u6⟩, rfl⟩ dX7_allOf_30 (Or.inl rfl)
  · have c5 : v3.toInt < (fv Po 302 0).toInt := ti_ge_n c5
    refine mp_a (a_iload_n dX7_allOf_14 rfl) (mpp 15 rfl ?_)
    refine mp_a (a_aload_n dX7_allOf_15 rfl) (mpp 16 rfl ?_)
    refine mp_a (a_iload_n dX7_allOf_16 rfl) (mpp 17 rfl ?_)
    refine mp_a (a_iload_n dX7_allOf_17 rfl) (mpp 18 rfl ?_)
    refine mt_callv (i := 348) (q' := q_194) (As := [.int v3, .int 7]) (rest := [.int v2]) hT dX7_allOf_18 rfl qm_194 (by decide) rfl rl_301 (by decide) rfl (Nat.le_of_ble_eq_true rfl) rfl ⟨rfl, rfl⟩ ⟨Nat.le_of_ble_eq_true rfl, Nat.le_of_ble_eq_true rfl⟩ (EvP.mono (by decide) (c_M_piece_c7 hT )) (fun r7 P8 g9 => mpp 21 rfl ?_)
    obtain ⟨⟨x10, rfl, g11⟩, e12⟩ := g9
    have e12 := e12.symm
    subst e12
    have wx10 := ti_full x10
    replace g11 : pieceM (sr Po) x10.toInt v3.toInt (7 : Int) := g11
    show MEvP _ none q_230 21 [(0, .ref 301), (1, .int 7), (2, .int v2), (3, .int v3)] [.int x10, .int v2] _ _ _ _
    obtain ⟨z13, h14⟩ := ti_ex (v2 + x10 : Int32)
    have wz13 := ti_full z13
    refine mp_t (s_iadd (v := z13) dX7_allOf_21 h14) (mpp 22 rfl ?_)
    try have e15 : z13.toInt = v2.toInt + x10.toInt := ti_addz h14 rfl rfl (by omega) (by omega)
    refine mp_a (a_istore_n (L' := [(2, .int z13), (0, .ref 301), (1, .int 7), (3, .int v3)]) dX7_allOf_22 (by decide) rfl) (mpp 23 rfl ?_)
    obtain ⟨z16, h17⟩ := ti_ex (v3 + 1 : Int32)
    have wz16 := ti_full z16
    refine mp_a (a_iinc (v := z16) (L' := [(3, .int z16), (2, .int z13), (0, .ref 301), (1, .int 7)]) dX7_allOf_23 (by decide) rfl h17 rfl) (mpp 26 rfl ?_)
    try have e18 : z16.toInt = v3.toInt + 1 := ti_addz h17 rfl rfl (by omega) (by omega)
    refine mp_a (a_goto (t := 4) dX7_allOf_26 (by decide)) ?_
    refine MEvP.less (L := [(0, .ref 301), (1, .int 7), (2, .int z13), (3, .int z16)]) rfl rfl ⟨rfl, rfl, rfl, rfl, trivial⟩ ?_
    have i19 : z13 = smF (fun k : Nat => fv Po 302 (5 + 19 * k)) z16.toInt.toNat := smF.step i_0 (by omega) (pieceM.k7 g11 (by omega) (show v3.toInt + 1 ≤ (fv Po 302 0).toInt from by omega)) h14
    have i20 : z16.toInt ≤ (fv Po 302 0).toInt := by omega
    have i21 : 0 ≤ z16.toInt := by omega
    exact ih _ (by omega) _ _ i19 i20 i21 rfl

set_option maxHeartbeats 4000000 in
theorem c_M_allOf_c7 {Po : mP}  (hT : Typ Po) (hR : Rel Po)  : EvP 4 230 [.ref 301, .int 7] Po (fun r P' => (∃ x : Int32, r = some (.int x) ∧ (x.toInt = (smF (fun k : Nat => fv Po 302 (5 + 19 * k)) (fv Po 302 0).toInt.toNat).toInt)) ∧ P' = Po) := by
  refine EvP.of qm_230 (Nat.le_of_ble_eq_true rfl) rfl ?_
  show MEvP _ none q_230 0 [(0, .ref 301), (1, .int 7)] [] _ 0 0 _
  have g1 : (0 : Int) ≤ (fv Po 302 0).toInt ∧ (fv Po 302 0).toInt ≤ 8 := Typ.rng hT rl_302 (by decide) (by decide) rfl
  refine mp_a (a_iconst (v := 0) dX7_allOf_0 rfl) (mpp 1 rfl ?_)
  refine mp_a (a_istore_n (L' := [(2, .int 0), (0, .ref 301), (1, .int 7)]) dX7_allOf_1 (by decide) rfl) (mpp 2 rfl ?_)
  refine mp_a (a_iconst (v := 0) dX7_allOf_2 rfl) (mpp 3 rfl ?_)
  refine mp_a (a_istore_n (L' := [(3, .int 0), (2, .int 0), (0, .ref 301), (1, .int 7)]) dX7_allOf_3 (by decide) rfl) (mpp 4 rfl ?_)
  refine MEvP.less (L := [(0, .ref 301), (1, .int 7), (2, .int 0), (3, .int 0)]) rfl rfl ⟨rfl, rfl, rfl, rfl, trivial⟩ ?_
  have i2 : 0 = smF (fun k : Nat => fv Po 302 (5 + 19 * k)) (0 : Int).toNat := rfl
  have i3 : (0 : Int) ≤ (fv Po 302 0).toInt := by omega
  have i4 : 0 ≤ (0 : Int) := by omega
  exact c_M_allOf_c7_l4 hT hR  _ _ _ i2 i3 i4 rfl

set_option maxHeartbeats 4000000 in
theorem c_M_panelsOfAll_l4 {Po : mP}  (hT : Typ Po)   : ∀ (n : Nat) (v1 : Int32) (v2 : Int32), (v1.toInt = siF (fun k : Nat => pnI (fv Po 302 (3 + 19 * k)).toInt (fv Po 302 (4 + 19 * k)).toInt) v2.toInt.toNat) → (v2.toInt ≤ (fv Po 302 0).toInt) → (0 ≤ v1.toInt) → (v1.toInt ≤ 8 * v2.toInt) → (0 ≤ v2.toInt) → (2147483647 - v2.toInt).toNat = n → MEvP 3 none q_231 4 [(0, .ref 301), (1, .int v1), (2, .int v2)] [] Po 0 0 (fun r P' => (∃ x : Int32, r = some (.int x) ∧ (x.toInt = siF (fun k : Nat => pnI (fv Po 302 (3 + 19 * k)).toInt (fv Po 302 (4 + 19 * k)).toInt) (fv Po 302 0).toInt.toNat ∧ 0 ≤ x.toInt ∧ x.toInt ≤ 64)) ∧ P' = Po) := by
  intro n
  induction n using Nat.strongRecOn with | _ n ih => ?_
  intro v1 v2 i_0 i_1 i_2 i_3 i_4 hm
  have w_v1 := ti_full v1
  have w_v2 := ti_full v2
  have g1 : (0 : Int) ≤ (fv Po 302 0).toInt ∧ (fv Po 302 0).toInt ≤ 8 := Typ.rng hT rl_302 (by decide) (by decide) rfl
  refine mp_a (a_iload_n dX7_panelsOfAll_4 rfl) (mpp 5 rfl ?_)
  refine mp_a (a_aload_n dX7_panelsOfAll_5 rfl) (mpp 6 rfl ?_)
  refine mt_getU (i := 9) (k := 0) (A := 302) hT dX7_panelsOfAll_6 rfl rl_301 (by decide) rfl (by decide) rfl un_18 (mpp 9 rfl ?_)
  refine mp_a (a_iconst (v := 0) dX7_panelsOfAll_9 rfl) (mpp 10 rfl ?_)
  refine mt_ialX (n := 155) hT dX7_panelsOfAll_10 rl_302 (by decide) rfl rfl (by decide) (by decide) ssp_0 (fun g2 => mpp 11 rfl ?_)
  have we4 := ti_full (fv Po 302 0)
  refine mp_Tb (t := 41) (j_icmp_ge dX7_panelsOfAll_11) (by decide) (fun c5 => ?_) (fun c5 => mpp 14 rfl ?_)
  · have c5 : v2.toInt ≥ (fv Po 302 0).toInt := ti_ge c5
    refine mp_a (a_iload_n dX7_panelsOfAll_41 rfl) (mpp 42 rfl ?_)
    have u6 : v1.toInt = siF (fun k : Nat => pnI (fv Po 302 (3 + 19 * k)).toInt (fv Po 302 (4 + 19 * k)).toInt) (fv Po 302 0).toInt.toNat ∧ 0 ≤ v1.toInt ∧ v1.toInt ≤ 64 := ⟨i_0.trans (congrArg (siF _) (by omega)), by omega, by omega⟩
    exact mp_iret ⟨⟨_, rfl, u6⟩, rfl⟩ dX7_panelsOfAll_42 (Or.inl rfl)
  · have c5 : v2.toInt < (fv Po 302 0).toInt := ti_ge_n c5
    refine mp_a (a_iload_n dX7_panelsOfAll_14 rfl) (mpp 15 rfl ?_)
    refine mp_a (a_aload_n dX7_panelsOfAll_15 rfl) (mpp 16 rfl ?_)
    refine mp_a (a_iload_n dX7_panelsOfAll_16 rfl) (mpp 17 rfl ?_)
    have p7 : 0 ≤ v2.toInt := by omega
    have p8 : v2.toInt ≤ 7 := by omega
    refine mt_callv (i := 81) (q' := q_138) (As := [.int v2]) (rest := [.int v1]) hT dX7_panelsOfAll_17 rfl qm_138 (by decide) rfl rl_301 (by decide) rfl (Nat.le_of_ble_eq_true rfl) rfl ⟨rfl, rfl⟩ ⟨Nat.le_of_ble_eq_true rfl, Nat.le_of_ble_eq_true rfl⟩ (EvP.mono (by decide) (c_M_isCorner hT p7 p8 )) (fun r9 P10 g11 => mpp 20 rfl ?_)
    obtain ⟨⟨x12, rfl, g13⟩, e14⟩ := g11
    have e14 := e14.symm
    subst e14
    have wx12 := ti_full x12
    replace g13 : 0 ≤ x12.toInt ∧ x12.toInt ≤ 1 ∧ ((x12.toInt = 1 ∧ (fv Po 302 (3 + 19 * v2.toInt.toNat)).toInt = 1) ∨ (x12.toInt = 0 ∧ (fv Po 302 (3 + 19 * v2.toInt.toNat)).toInt = 0)) := g13
    try have g15 : (0 : Int) ≤ (fv Po 302 (3 + 19 * v2.toInt.toNat)).toInt ∧ (fv Po 302 (3 + 19 * v2.toInt.toNat)).toInt ≤ 1 := s3_rng hT (by omega)
    show MEvP _ none q_231 20 [(0, .ref 301), (1, .int v1), (2, .int v2)] [.int x12, .int v1] _ _ _ _
    refine mp_Tb (t := 27) (j_if_eq dX7_panelsOfAll_20) (by decide) (fun c16 => ?_) (fun c16 => mpp 23 rfl ?_)
    · have c16 : x12.toInt = 0 := ti_eq c16
      refine mp_a (a_aload_n dX7_panelsOfAll_27 rfl) (mpp 28 rfl ?_)
      refine mp_a (a_iload_n dX7_panelsOfAll_28 rfl) (mpp 29 rfl ?_)
      refine mp_a (a_iconst (v := 1) dX7_panelsOfAll_29 rfl) (mpp 30 rfl ?_)
      have p17 : 0 ≤ v2.toInt := by omega
      have p18 : v2.toInt ≤ 7 := by omega
      have p19 : 0 ≤ (1 : Int) := by omega
      have p20 : (1 : Int) ≤ 18 := by omega
      refine mt_callv (i := 78) (q' := q_137) (As := [.int v2, .int 1]) (rest := [.int v1]) hT dX7_panelsOfAll_30 rfl qm_137 (by decide) rfl rl_301 (by decide) rfl (Nat.le_of_ble_eq_true rfl) rfl ⟨rfl, rfl⟩ ⟨Nat.le_of_ble_eq_true rfl, Nat.le_of_ble_eq_true rfl⟩ (EvP.mono (by decide) (c_M_of_c1 hT p17 p18 p19 p20 )) (fun r21 P22 g23 => mpp 33 rfl ?_)
      obtain ⟨⟨x24, rfl, g25⟩, e26⟩ := g23
      have e26 := e26.symm
      subst e26
      have wx24 := ti_full x24
      replace g25 : x24.toInt = (fv Po 302 (4 + 19 * v2.toInt.toNat)).toInt ∧ 0 ≤ x24.toInt ∧ x24.toInt ≤ 8 := g25
      try have g27 : (0 : Int) ≤ (fv Po 302 (4 + 19 * v2.toInt.toNat)).toInt ∧ (fv Po 302 (4 + 19 * v2.toInt.toNat)).toInt ≤ 8 := s4_rng hT (by omega)
      show MEvP _ none q_231 33 [(0, .ref 301), (1, .int v1), (2, .int v2)] [.int x24, .int v1] _ _ _ _
      obtain ⟨z28, h29⟩ := ti_ex (v1 + x24 : Int32)
      have wz28 := ti_full z28
      refine mp_t (s_iadd (v := z28) dX7_panelsOfAll_33 h29) (mpp 34 rfl ?_)
      try have e30 : z28.toInt = v1.toInt + x24.toInt := ti_addz h29 rfl rfl (by omega) (by omega)
      refine mp_a (a_istore_n (L' := [(1, .int z28), (0, .ref 301), (2, .int v2)]) dX7_panelsOfAll_34 (by decide) rfl) (mpp 35 rfl ?_)
      obtain ⟨z31, h32⟩ := ti_ex (v2 + 1 : Int32)
      have wz31 := ti_full z31
      refine mp_a (a_iinc (v := z31) (L' := [(2, .int z31), (1, .int z28), (0, .ref 301)]) dX7_panelsOfAll_35 (by decide) rfl h32 rfl) (mpp 38 rfl ?_)
      try have e33 : z31.toInt = v2.toInt + 1 := ti_addz h32 rfl rfl (by omega) (by omega)
      refine mp_a (a_goto (t := 4) dX7_panelsOfAll_38 (by decide)) ?_
      refine MEvP.less (L := [(0, .ref 301), (1, .int z28), (2, .int z31)]) rfl rfl ⟨rfl, rfl, rfl, trivial⟩ ?_
      have i34 : z28.toInt = siF (fun k : Nat => pnI (fv Po 302 (3 + 19 * k)).toInt (fv Po 302 (4 + 19 * k)).toInt) z31.toInt.toNat := siF.step i_0 (by omega) (d := x24.toInt) (by show pnI (fv Po 302 (3 + 19 * v2.toInt.toNat)).toInt (fv Po 302 (4 + 19 * v2.toInt.toNat)).toInt = _; rw [pnI.yes (by omega)]; omega) (by omega)
      have i35 : z31.toInt ≤ (fv Po 302 0).toInt := by omega
      have i36 : 0 ≤ z28.toInt := by omega
      have i37 : z28.toInt ≤ 8 * z31.toInt := by omega
      have i38 : 0 ≤ z31.toInt := by omega
      exact ih _ (by omega) _ _ i34 i35 i36 i37 i38 rfl
    · have c16 : x12.toInt ≠ 0 := ti_eq_n c16
      refine mp_a (a_iconst (v := 0) dX7_panelsOfAll_23 rfl) (mpp 24 rfl ?_)
      refine mp_a (a_goto (t := 33) dX7_panelsOfAll_24 (by decide)) ?_
      obtain ⟨z39, h40⟩ := ti_ex (v1 + 0 : Int32)
      have wz39 := ti_full z39
      refine mp_t (s_iadd (v := z39) dX7_panelsOfAll_33 h40) (mpp 34 rfl ?_)
      try have e41 : z39.toInt = v1.toInt + 0 := ti_addz h40 rfl rfl (by omega) (by omega)
      refine mp_a (a_istore_n (L' := [(1, .int z39), (0, .ref 301), (2, .int v2)]) dX7_panelsOfAll_34 (by decide) rfl) (mpp 35 rfl ?_)
      obtain ⟨z42, h43⟩ := ti_ex (v2 + 1 : Int32)
      have wz42 := ti_full z42
      refine mp_a (a_iinc (v := z42) (L' := [(2, .int z42), (1, .int z39), (0, .ref 301)]) dX7_panelsOfAll_35 (by decide) rfl h43 rfl) (mpp 38 rfl ?_)
      try have e44 : z42.toInt = v2.toInt + 1 := ti_addz h43 rfl rfl (by omega) (by omega)
      refine mp_a (a_goto (t := 4) dX7_panelsOfAll_38 (by decide)) ?_
      refine MEvP.less (L := [(0, .ref 301), (1, .int z39), (2, .int z42)]) rfl rfl ⟨rfl, rfl, rfl, trivial⟩ ?_
      have i45 : z39.toInt = siF (fun k : Nat => pnI (fv Po 302 (3 + 19 * k)).toInt (fv Po 302 (4 + 19 * k)).toInt) z42.toInt.toNat := siF.step i_0 (by omega) (d := (0 : Int)) (by show pnI (fv Po 302 (3 + 19 * v2.toInt.toNat)).toInt (fv Po 302 (4 + 19 * v2.toInt.toNat)).toInt = _; exact pnI.no (by omega)) (by omega)
      have i46 : z42.toInt ≤ (fv Po 302 0).toInt := by omega
      have i47 : 0 ≤ z39.toInt := by omega
      have i48 : z39.toInt ≤ 8 * z42.toInt := by omega
      have i49 : 0 ≤ z42.toInt := by omega
      exact ih _ (by omega) _ _ i45 i46 i47 i48 i49 rfl

set_option maxHeartbeats 4000000 in
theorem c_M_panelsOfAll {Po : mP}  (hT : Typ Po)   : EvP 4 231 [.ref 301] Po (fun r P' => (∃ x : Int32, r = some (.int x) ∧ (x.toInt = siF (fun k : Nat => pnI (fv Po 302 (3 + 19 * k)).toInt (fv Po 302 (4 + 19 * k)).toInt) (fv Po 302 0).toInt.toNat ∧ 0 ≤ x.toInt ∧ x.toInt ≤ 64)) ∧ P' = Po) := by
  refine EvP.of qm_231 (Nat.le_of_ble_eq_true rfl) rfl ?_
  show MEvP _ none q_231 0 [(0, .ref 301)] [] _ 0 0 _
  have g1 : (0 : Int) ≤ (fv Po 302 0).toInt ∧ (fv Po 302 0).toInt ≤ 8 := Typ.rng hT rl_302 (by decide) (by decide) rfl
  refine mp_a (a_iconst (v := 0) dX7_panelsOfAll_0 rfl) (mpp 1 rfl ?_)
  refine mp_a (a_istore_n (L' := [(1, .int 0), (0, .ref 301)]) dX7_panelsOfAll_1 (by decide) rfl) (mpp 2 rfl ?_)
  refine mp_a (a_iconst (v := 0) dX7_panelsOfAll_2 rfl) (mpp 3 rfl ?_)
  refine mp_a (a_istore_n (L' := [(2, .int 0), (1, .int 0), (0, .ref 301)]) dX7_panelsOfAll_3 (by decide) rfl) (mpp 4 rfl ?_)
  refine MEvP.less (L := [(0, .ref 301), (1, .int 0), (2, .int 0)]) rfl rfl ⟨rfl, rfl, rfl, trivial⟩ ?_
  have i2 : (0 : Int) = siF (fun k : Nat => pnI (fv Po 302 (3 + 19 * k)).toInt (fv Po 302 (4 + 19 * k)).toInt) (0 : Int).toNat := rfl
  have i3 : (0 : Int) ≤ (fv Po 302 0).toInt := by omega
  have i4 : 0 ≤ (0 : Int) := by omega
  have i5 : (0 : Int) ≤ 8 * (0 : Int) := by omega
  have i6 : 0 ≤ (0 : Int) := by omega
  exact c_M_panelsOfAll_l4 hT   _ _ _ i2 i3 i4 i5 i6 rfl

set_option maxHeartbeats 4000000 in
theorem c_M_piece_c3 {Po : mP} {t1 : Int32} (hT : Typ Po)   : EvP 6 194 [.ref 301, .int t1, .int 3] Po (fun r P' => (∃ x : Int32, r = some (.int x) ∧ ((t1.toInt < 0 ∨ (fv Po 302 0).toInt ≤ t1.toInt ∨ (0 ≤ x.toInt ∧ x.toInt ≤ 8)) ∧ pieceM (sr Po) x.toInt t1.toInt (3 : Int))) ∧ P' = Po) := by
  refine EvP.of qm_194 (Nat.le_of_ble_eq_true rfl) rfl ?_
  show MEvP _ none q_194 0 [(0, .ref 301), (1, .int t1), (2, .int 3)] [] _ 0 0 _
  have w_t1 := ti_full t1
  have g1 : (0 : Int) ≤ (fv Po 302 0).toInt ∧ (fv Po 302 0).toInt ≤ 8 := Typ.rng hT rl_302 (by decide) (by decide) rfl
  refine mp_a (a_aload_n dX7_piece_0 rfl) (mpp 1 rfl ?_)
  refine mp_a (a_iload_n dX7_piece_1 rfl) (mpp 2 rfl ?_)
  refine mt_callv (i := 85) (q' := q_144) (As := [.int t1]) (rest := []) hT dX7_piece_2 rfl qm_144 (by decide) rfl rl_301 (by decide) rfl (Nat.le_of_ble_eq_true rfl) rfl ⟨rfl, rfl⟩ ⟨Nat.le_of_ble_eq_true rfl, Nat.le_of_ble_eq_true rfl⟩ (EvP.mono (by decide) (c_M_isPiece hT )) (fun r2 P3 g4 => mpp 5 rfl ?_)
  obtain ⟨⟨x5, rfl, g6⟩, e7⟩ := g4
  have e7 := e7.symm
  subst e7
  have wx5 := ti_full x5
  replace g6 : 0 ≤ x5.toInt ∧ x5.toInt ≤ 1 ∧ ((x5.toInt = 1 ∧ 0 ≤ t1.toInt ∧ t1.toInt + 1 ≤ (fv Po 302 0).toInt ∧ t1.toInt ≤ 7) ∨ (x5.toInt = 0 ∧ (t1.toInt < 0 ∨ (fv Po 302 0).toInt ≤ t1.toInt))) := g6
  show MEvP _ none q_194 5 [(0, .ref 301), (1, .int t1), (2, .int 3)] [.int x5] _ _ _ _
  refine mp_Tb (t := 12) (j_if_ne dX7_piece_5) (by decide) (fun c8 => ?_) (fun c8 => mpp 8 rfl ?_)
  · have c8 : x5.toInt ≠ 0 := ti_ne c8
    refine mp_a (a_iload_n dX7_piece_12 rfl) (mpp 13 rfl ?_)
    refine mp_t (s_tabIn (t := 84) dX7_piece_13 (by decide) rfl (by decide)) ?_
    refine mp_a (a_aload_n dX7_piece_84 rfl) (mpp 85 rfl ?_)
    refine mp_a (a_iload_n dX7_piece_85 rfl) (mpp 86 rfl ?_)
    refine mp_a (a_iconst (v := 1) dX7_piece_86 rfl) (mpp 87 rfl ?_)
    have p9 : 0 ≤ t1.toInt := by omega
    have p10 : t1.toInt ≤ 7 := by omega
    refine mt_callv (i := 136) (q' := q_149) (As := [.int t1, .int 1]) (rest := []) hT dX7_piece_87 rfl qm_149 (by decide) rfl rl_301 (by decide) rfl (Nat.le_of_ble_eq_true rfl) rfl ⟨rfl, rfl⟩ ⟨Nat.le_of_ble_eq_true rfl, Nat.le_of_ble_eq_true rfl⟩ (EvP.mono (by decide) (c_M_countOf hT p9 p10 )) (fun r11 P12 g13 => mpp 90 rfl ?_)
    obtain ⟨⟨x14, rfl, g15⟩, e16⟩ := g13
    have e16 := e16.symm
    subst e16
    have wx14 := ti_full x14
    replace g15 : (x14.toInt ≤ 0 ∨ UD Po t1.toInt.toNat (1 : Int)) ∧ 0 ≤ x14.toInt ∧ x14.toInt ≤ 8 ∧ x14.toInt = cntF (fun j : Nat => fv Po 302 (14 + 19 * t1.toInt.toNat + j)) (1 : Int) (nC (fv Po 302 (3 + 19 * t1.toInt.toNat)).toInt (fv Po 302 (4 + 19 * t1.toInt.toNat)).toInt) := g15
    try have g17 : (0 : Int) ≤ (fv Po 302 (3 + 19 * t1.toInt.toNat)).toInt ∧ (fv Po 302 (3 + 19 * t1.toInt.toNat)).toInt ≤ 1 := s3_rng hT (by omega)
    try have g18 : (0 : Int) ≤ (fv Po 302 (4 + 19 * t1.toInt.toNat)).toInt ∧ (fv Po 302 (4 + 19 * t1.toInt.toNat)).toInt ≤ 8 := s4_rng hT (by omega)
    show MEvP _ none q_194 90 [(0, .ref 301), (1, .int t1), (2, .int 3)] [.int x14] _ _ _ _
    have u19 : (t1.toInt < 0 ∨ (fv Po 302 0).toInt ≤ t1.toInt ∨ (0 ≤ x14.toInt ∧ x14.toInt ≤ 8)) ∧ pieceM (sr Po) x14.toInt t1.toInt (3 : Int) := ⟨by omega, (show (x14.toInt = -1001 ∧ (t1.toInt < 0 ∨ (fv Po 302 (0)).toInt ≤ t1.toInt)) ∨ ((0 ≤ t1.toInt ∧ t1.toInt + 1 ≤ (fv Po 302 (0)).toInt ∧ t1.toInt ≤ 7) ∧ (3 : Int) = 0 ∧ x14.toInt = (fv Po 302 (3 + 19 * t1.toInt.toNat)).toInt) ∨ ((0 ≤ t1.toInt ∧ t1.toInt + 1 ≤ (fv Po 302 (0)).toInt ∧ t1.toInt ≤ 7) ∧ (3 : Int) = 1 ∧ x14.toInt = (fv Po 302 (4 + 19 * t1.toInt.toNat)).toInt) ∨ ((0 ≤ t1.toInt ∧ t1.toInt + 1 ≤ (fv Po 302 (0)).toInt ∧ t1.toInt ≤ 7) ∧ (3 : Int) = 2 ∧ (((fv Po 302 (3 + 19 * t1.toInt.toNat)).toInt = 1 ∧ x14.toInt = (fv Po 302 (4 + 19 * t1.toInt.toNat)).toInt) ∨ ((fv Po 302 (3 + 19 * t1.toInt.toNat)).toInt = 0 ∧ x14.toInt = (fv Po 302 (4 + 19 * t1.toInt.toNat)).toInt - 1))) ∨ ((0 ≤ t1.toInt ∧ t1.toInt + 1 ≤ (fv Po 302 (0)).toInt ∧ t1.toInt ≤ 7) ∧ (3 : Int) = 3 ∧ x14.toInt = cntF (fun j : Nat => fv Po 302 (14 + 19 * t1.toInt.toNat + j)) 1 (nC (fv Po 302 (3 + 19 * t1.toInt.toNat)).toInt (fv Po 302 (4 + 19 * t1.toInt.toNat)).toInt)) ∨ ((0 ≤ t1.toInt ∧ t1.toInt + 1 ≤ (fv Po 302 (0)).toInt ∧ t1.toInt ≤ 7) ∧ (3 : Int) = 4 ∧ x14.toInt = cntF (fun j : Nat => fv Po 302 (14 + 19 * t1.toInt.toNat + j)) 2 (nC (fv Po 302 (3 + 19 * t1.toInt.toNat)).toInt (fv Po 302 (4 + 19 * t1.toInt.toNat)).toInt)) ∨ ((0 ≤ t1.toInt ∧ t1.toInt + 1 ≤ (fv Po 302 (0)).toInt ∧ t1.toInt ≤ 7) ∧ (3 : Int) = 5 ∧ x14.toInt = cntF (fun j : Nat => fv Po 302 (14 + 19 * t1.toInt.toNat + j)) 0 (nC (fv Po 302 (3 + 19 * t1.toInt.toNat)).toInt (fv Po 302 (4 + 19 * t1.toInt.toNat)).toInt)) ∨ ((0 ≤ t1.toInt ∧ t1.toInt + 1 ≤ (fv Po 302 (0)).toInt ∧ t1.toInt ≤ 7) ∧ (3 : Int) = 6 ∧ x14.toInt = (smF (fun j : Nat => fv Po 302 (6 + 19 * t1.toInt.toNat + j)) (fv Po 302 (4 + 19 * t1.toInt.toNat)).toInt.toNat).toInt) ∨ ((0 ≤ t1.toInt ∧ t1.toInt + 1 ≤ (fv Po 302 (0)).toInt ∧ t1.toInt ≤ 7) ∧ (3 : Int) = 7 ∧ x14.toInt = (fv Po 302 (5 + 19 * t1.toInt.toNat)).toInt) ∨ ((0 ≤ t1.toInt ∧ t1.toInt + 1 ≤ (fv Po 302 (0)).toInt ∧ t1.toInt ≤ 7) ∧ (3 : Int) = 8 ∧ x14.toInt = (wdF (fv Po 302 (3 + 19 * t1.toInt.toNat)).toInt (fun j : Nat => fv Po 302 (6 + 19 * t1.toInt.toNat + j)) (fv Po 302 (4 + 19 * t1.toInt.toNat)).toInt.toNat).toInt) ∨ ((0 ≤ t1.toInt ∧ t1.toInt + 1 ≤ (fv Po 302 (0)).toInt ∧ t1.toInt ≤ 7) ∧ ((3 : Int) < 0 ∨ 8 < (3 : Int)) ∧ x14.toInt = -1002) from Or.inr (Or.inr (Or.inr (Or.inr (Or.inl (⟨by omega, by omega, g15.2.2.2⟩))))))⟩
    exact mp_iret ⟨⟨_, rfl, u19⟩, rfl⟩ dX7_piece_90 (Or.inl rfl)
  · have c8 : x5.toInt = 0 := ti_ne_n c8
    refine mp_a (a_sipush (v := -1001) dX7_piece_8 rfl) (mpp 11 rfl ?_)
    have u20 : (t1.toInt < 0 ∨ (fv Po 302 0).toInt ≤ t1.toInt ∨ (0 ≤ (-1001 : Int) ∧ (-1001 : Int) ≤ 8)) ∧ pieceM (sr Po) (-1001 : Int) t1.toInt (3 : Int) := ⟨by omega, (show ((-1001 : Int) = -1001 ∧ (t1.toInt < 0 ∨ (fv Po 302 (0)).toInt ≤ t1.toInt)) ∨ ((0 ≤ t1.toInt ∧ t1.toInt + 1 ≤ (fv Po 302 (0)).toInt ∧ t1.toInt ≤ 7) ∧ (3 : Int) = 0 ∧ (-1001 : Int) = (fv Po 302 (3 + 19 * t1.toInt.toNat)).toInt) ∨ ((0 ≤ t1.toInt ∧ t1.toInt + 1 ≤ (fv Po 302 (0)).toInt ∧ t1.toInt ≤ 7) ∧ (3 : Int) = 1 ∧ (-1001 : Int) = (fv Po 302 (4 + 19 * t1.toInt.toNat)).toInt) ∨ ((0 ≤ t1.toInt ∧ t1.toInt + 1 ≤ (fv Po 302 (0)).toInt ∧ t1.toInt ≤ 7) ∧ (3 : Int) = 2 ∧ (((fv Po 302 (3 + 19 * t1.toInt.toNat)).toInt = 1 ∧ (-1001 : Int) = (fv Po 302 (4 + 19 * t1.toInt.toNat)).toInt) ∨ ((fv Po 302 (3 + 19 * t1.toInt.toNat)).toInt = 0 ∧ (-1001 : Int) = (fv Po 302 (4 + 19 * t1.toInt.toNat)).toInt - 1))) ∨ ((0 ≤ t1.toInt ∧ t1.toInt + 1 ≤ (fv Po 302 (0)).toInt ∧ t1.toInt ≤ 7) ∧ (3 : Int) = 3 ∧ (-1001 : Int) = cntF (fun j : Nat => fv Po 302 (14 + 19 * t1.toInt.toNat + j)) 1 (nC (fv Po 302 (3 + 19 * t1.toInt.toNat)).toInt (fv Po 302 (4 + 19 * t1.toInt.toNat)).toInt)) ∨ ((0 ≤ t1.toInt ∧ t1.toInt + 1 ≤ (fv Po 302 (0)).toInt ∧ t1.toInt ≤ 7) ∧ (3 : Int) = 4 ∧ (-1001 : Int) = cntF (fun j : Nat => fv Po 302 (14 + 19 * t1.toInt.toNat + j)) 2 (nC (fv Po 302 (3 + 19 * t1.toInt.toNat)).toInt (fv Po 302 (4 + 19 * t1.toInt.toNat)).toInt)) ∨ ((0 ≤ t1.toInt ∧ t1.toInt + 1 ≤ (fv Po 302 (0)).toInt ∧ t1.toInt ≤ 7) ∧ (3 : Int) = 5 ∧ (-1001 : Int) = cntF (fun j : Nat => fv Po 302 (14 + 19 * t1.toInt.toNat + j)) 0 (nC (fv Po 302 (3 + 19 * t1.toInt.toNat)).toInt (fv Po 302 (4 + 19 * t1.toInt.toNat)).toInt)) ∨ ((0 ≤ t1.toInt ∧ t1.toInt + 1 ≤ (fv Po 302 (0)).toInt ∧ t1.toInt ≤ 7) ∧ (3 : Int) = 6 ∧ (-1001 : Int) = (smF (fun j : Nat => fv Po 302 (6 + 19 * t1.toInt.toNat + j)) (fv Po 302 (4 + 19 * t1.toInt.toNat)).toInt.toNat).toInt) ∨ ((0 ≤ t1.toInt ∧ t1.toInt + 1 ≤ (fv Po 302 (0)).toInt ∧ t1.toInt ≤ 7) ∧ (3 : Int) = 7 ∧ (-1001 : Int) = (fv Po 302 (5 + 19 * t1.toInt.toNat)).toInt) ∨ ((0 ≤ t1.toInt ∧ t1.toInt + 1 ≤ (fv Po 302 (0)).toInt ∧ t1.toInt ≤ 7) ∧ (3 : Int) = 8 ∧ (-1001 : Int) = (wdF (fv Po 302 (3 + 19 * t1.toInt.toNat)).toInt (fun j : Nat => fv Po 302 (6 + 19 * t1.toInt.toNat + j)) (fv Po 302 (4 + 19 * t1.toInt.toNat)).toInt.toNat).toInt) ∨ ((0 ≤ t1.toInt ∧ t1.toInt + 1 ≤ (fv Po 302 (0)).toInt ∧ t1.toInt ≤ 7) ∧ ((3 : Int) < 0 ∨ 8 < (3 : Int)) ∧ (-1001 : Int) = -1002) from Or.inl (⟨by omega, by omega⟩))⟩
    exact mp_iret ⟨⟨_, rfl, u20⟩, rfl⟩ dX7_piece_11 (Or.inl rfl)

set_option maxHeartbeats 4000000 in
theorem c_M_allOf_c3_l4 {Po : mP}  (hT : Typ Po) (hR : Rel Po)  : ∀ (n : Nat) (v2 : Int32) (v3 : Int32), (v2.toInt = siF (fun k : Nat => cntF (fun j : Nat => fv Po 302 (14 + 19 * k + j)) 1 (nC (fv Po 302 (3 + 19 * k)).toInt (fv Po 302 (4 + 19 * k)).toInt)) v3.toInt.toNat) → (v3.toInt ≤ (fv Po 302 0).toInt) → (0 ≤ v2.toInt) → (v2.toInt ≤ 8 * v3.toInt) → (0 ≤ v3.toInt) → (2147483647 - v3.toInt).toNat = n → MEvP 6 none q_230 4 [(0, .ref 301), (1, .int 3), (2, .int v2), (3, .int v3)] [] Po 0 0 (fun r P' => (∃ x : Int32, r = some (.int x) ∧ (0 ≤ x.toInt ∧ x.toInt ≤ 64 ∧ x.toInt = siF (fun k : Nat => cntF (fun j : Nat => fv Po 302 (14 + 19 * k + j)) 1 (nC (fv Po 302 (3 + 19 * k)).toInt (fv Po 302 (4 + 19 * k)).toInt)) (fv Po 302 0).toInt.toNat)) ∧ P' = Po) := by
  intro n
  induction n using Nat.strongRecOn with | _ n ih => ?_
  intro v2 v3 i_0 i_1 i_2 i_3 i_4 hm
  have w_v2 := ti_full v2
  have w_v3 := ti_full v3
  have g1 : (0 : Int) ≤ (fv Po 302 0).toInt ∧ (fv Po 302 0).toInt ≤ 8 := Typ.rng hT rl_302 (by decide) (by decide) rfl
  refine mp_a (a_iload_n dX7_allOf_4 rfl) (mpp 5 rfl ?_)
  refine mp_a (a_aload_n dX7_allOf_5 rfl) (mpp 6 rfl ?_)
  refine mt_getU (i := 9) (k := 0) (A := 302) hT dX7_allOf_6 rfl rl_301 (by decide) rfl (by decide) rfl un_18 (mpp 9 rfl ?_)
  refine mp_a (a_iconst (v := 0) dX7_allOf_9 rfl) (mpp 10 rfl ?_)
  refine mt_ialX (n := 155) hT dX7_allOf_10 rl_302 (by decide) rfl rfl (by decide) (by decide) ssp_0 (fun g2 => mpp 11 rfl ?_)
  have we4 := ti_full (fv Po 302 0)
  refine mp_Tb (t := 29) (j_icmp_ge dX7_allOf_11) (by decide) (fun c5 => ?_) (fun c5 => mpp 14 rfl ?_)
  · have c5 : v3.toInt ≥ (fv Po 302 0).toInt := ti_ge c5
    refine mp_a (a_iload_n dX7_allOf_29 rfl) (mpp 30 rfl ?_)
    have u6 : 0 ≤ v2.toInt ∧ v2.toInt ≤ 64 ∧ v2.toInt = siF (fun k : Nat => cntF (fun j : Nat => fv Po 302 (14 + 19 * k + j)) 1 (nC (fv Po 302 (3 + 19 * k)).toInt (fv Po 302 (4 + 19 * k)).toInt)) (fv Po 302 0).toInt.toNat := ⟨by omega, by omega, i_0.trans (congrArg (siF _) (by omega))⟩
    exact mp_iret ⟨⟨_, rfl, u6⟩, rfl⟩ dX7_allOf_30 (Or.inl rfl)
  · have c5 : v3.toInt < (fv Po 302 0).toInt := ti_ge_n c5
    refine mp_a (a_iload_n dX7_allOf_14 rfl) (mpp 15 rfl ?_)
    refine mp_a (a_aload_n dX7_allOf_15 rfl) (mpp 16 rfl ?_)
    refine mp_a (a_iload_n dX7_allOf_16 rfl) (mpp 17 rfl ?_)
    refine mp_a (a_iload_n dX7_allOf_17 rfl) (mpp 18 rfl ?_)
    refine mt_callv (i := 348) (q' := q_194) (As := [.int v3, .int 3]) (rest := [.int v2]) hT dX7_allOf_18 rfl qm_194 (by decide) rfl rl_301 (by decide) rfl (Nat.le_of_ble_eq_true rfl) rfl ⟨rfl, rfl⟩ ⟨Nat.le_of_ble_eq_true rfl, Nat.le_of_ble_eq_true rfl⟩ (EvP.mono (by decide) (c_M_piece_c3 hT )) (fun r7 P8 g9 => mpp 21 rfl ?_)
    obtain ⟨⟨x10, rfl, g11⟩, e12⟩ := g9
    have e12 := e12.symm
    subst e12
    have wx10 := ti_full x10
    replace g11 : (v3.toInt < 0 ∨ (fv Po 302 0).toInt ≤ v3.toInt ∨ (0 ≤ x10.toInt ∧ x10.toInt ≤ 8)) ∧ pieceM (sr Po) x10.toInt v3.toInt (3 : Int) := g11
    show MEvP _ none q_230 21 [(0, .ref 301), (1, .int 3), (2, .int v2), (3, .int v3)] [.int x10, .int v2] _ _ _ _
    obtain ⟨z13, h14⟩ := ti_ex (v2 + x10 : Int32)
    have wz13 := ti_full z13
    refine mp_t (s_iadd (v := z13) dX7_allOf_21 h14) (mpp 22 rfl ?_)
    try have e15 : z13.toInt = v2.toInt + x10.toInt := ti_addz h14 rfl rfl (by omega) (by omega)
    refine mp_a (a_istore_n (L' := [(2, .int z13), (0, .ref 301), (1, .int 3), (3, .int v3)]) dX7_allOf_22 (by decide) rfl) (mpp 23 rfl ?_)
    obtain ⟨z16, h17⟩ := ti_ex (v3 + 1 : Int32)
    have wz16 := ti_full z16
    refine mp_a (a_iinc (v := z16) (L' := [(3, .int z16), (2, .int z13), (0, .ref 301), (1, .int 3)]) dX7_allOf_23 (by decide) rfl h17 rfl) (mpp 26 rfl ?_)
    try have e18 : z16.toInt = v3.toInt + 1 := ti_addz h17 rfl rfl (by omega) (by omega)
    refine mp_a (a_goto (t := 4) dX7_allOf_26 (by decide)) ?_
    refine MEvP.less (L := [(0, .ref 301), (1, .int 3), (2, .int z13), (3, .int z16)]) rfl rfl ⟨rfl, rfl, rfl, rfl, trivial⟩ ?_
    have i19 : z13.toInt = siF (fun k : Nat => cntF (fun j : Nat => fv Po 302 (14 + 19 * k + j)) 1 (nC (fv Po 302 (3 + 19 * k)).toInt (fv Po 302 (4 + 19 * k)).toInt)) z16.toInt.toNat := siF.step i_0 (by omega) (d := x10.toInt) (pieceM.k3 g11.2 (by omega) (show v3.toInt + 1 ≤ (fv Po 302 0).toInt from by omega)).symm (by omega)
    have i20 : z16.toInt ≤ (fv Po 302 0).toInt := by omega
    have i21 : 0 ≤ z13.toInt := by omega
    have i22 : z13.toInt ≤ 8 * z16.toInt := by omega
    have i23 : 0 ≤ z16.toInt := by omega
    exact ih _ (by omega) _ _ i19 i20 i21 i22 i23 rfl

set_option maxHeartbeats 4000000 in
theorem c_M_allOf_c3 {Po : mP}  (hT : Typ Po) (hR : Rel Po)  : EvP 7 230 [.ref 301, .int 3] Po (fun r P' => (∃ x : Int32, r = some (.int x) ∧ (0 ≤ x.toInt ∧ x.toInt ≤ 64 ∧ x.toInt = siF (fun k : Nat => cntF (fun j : Nat => fv Po 302 (14 + 19 * k + j)) 1 (nC (fv Po 302 (3 + 19 * k)).toInt (fv Po 302 (4 + 19 * k)).toInt)) (fv Po 302 0).toInt.toNat)) ∧ P' = Po) := by
  refine EvP.of qm_230 (Nat.le_of_ble_eq_true rfl) rfl ?_
  show MEvP _ none q_230 0 [(0, .ref 301), (1, .int 3)] [] _ 0 0 _
  have g1 : (0 : Int) ≤ (fv Po 302 0).toInt ∧ (fv Po 302 0).toInt ≤ 8 := Typ.rng hT rl_302 (by decide) (by decide) rfl
  refine mp_a (a_iconst (v := 0) dX7_allOf_0 rfl) (mpp 1 rfl ?_)
  refine mp_a (a_istore_n (L' := [(2, .int 0), (0, .ref 301), (1, .int 3)]) dX7_allOf_1 (by decide) rfl) (mpp 2 rfl ?_)
  refine mp_a (a_iconst (v := 0) dX7_allOf_2 rfl) (mpp 3 rfl ?_)
  refine mp_a (a_istore_n (L' := [(3, .int 0), (2, .int 0), (0, .ref 301), (1, .int 3)]) dX7_allOf_3 (by decide) rfl) (mpp 4 rfl ?_)
  refine MEvP.less (L := [(0, .ref 301), (1, .int 3), (2, .int 0), (3, .int 0)]) rfl rfl ⟨rfl, rfl, rfl, rfl, trivial⟩ ?_
  have i2 : (0 : Int) = siF (fun k : Nat => cntF (fun j : Nat => fv Po 302 (14 + 19 * k + j)) 1 (nC (fv Po 302 (3 + 19 * k)).toInt (fv Po 302 (4 + 19 * k)).toInt)) (0 : Int).toNat := rfl
  have i3 : (0 : Int) ≤ (fv Po 302 0).toInt := by omega
  have i4 : 0 ≤ (0 : Int) := by omega
  have i5 : (0 : Int) ≤ 8 * (0 : Int) := by omega
  have i6 : 0 ≤ (0 : Int) := by omega
  exact c_M_allOf_c3_l4 hT hR  _ _ _ i2 i3 i4 i5 i6 rfl

set_option maxHeartbeats 4000000 in
theorem c_M_piece_c4 {Po : mP} {t1 : Int32} (hT : Typ Po)   : EvP 6 194 [.ref 301, .int t1, .int 4] Po (fun r P' => (∃ x : Int32, r = some (.int x) ∧ ((t1.toInt < 0 ∨ (fv Po 302 0).toInt ≤ t1.toInt ∨ (0 ≤ x.toInt ∧ x.toInt ≤ 8)) ∧ pieceM (sr Po) x.toInt t1.toInt (4 : Int))) ∧ P' = Po) := by
  refine EvP.of qm_194 (Nat.le_of_ble_eq_true rfl) rfl ?_
  show MEvP _ none q_194 0 [(0, .ref 301), (1, .int t1), (2, .int 4)] [] _ 0 0 _
  have w_t1 := ti_full t1
  have g1 : (0 : Int) ≤ (fv Po 302 0).toInt ∧ (fv Po 302 0).toInt ≤ 8 := Typ.rng hT rl_302 (by decide) (by decide) rfl
  refine mp_a (a_aload_n dX7_piece_0 rfl) (mpp 1 rfl ?_)
  refine mp_a (a_iload_n dX7_piece_1 rfl) (mpp 2 rfl ?_)
  refine mt_callv (i := 85) (q' := q_144) (As := [.int t1]) (rest := []) hT dX7_piece_2 rfl qm_144 (by decide) rfl rl_301 (by decide) rfl (Nat.le_of_ble_eq_true rfl) rfl ⟨rfl, rfl⟩ ⟨Nat.le_of_ble_eq_true rfl, Nat.le_of_ble_eq_true rfl⟩ (EvP.mono (by decide) (c_M_isPiece hT )) (fun r2 P3 g4 => mpp 5 rfl ?_)
  obtain ⟨⟨x5, rfl, g6⟩, e7⟩ := g4
  have e7 := e7.symm
  subst e7
  have wx5 := ti_full x5
  replace g6 : 0 ≤ x5.toInt ∧ x5.toInt ≤ 1 ∧ ((x5.toInt = 1 ∧ 0 ≤ t1.toInt ∧ t1.toInt + 1 ≤ (fv Po 302 0).toInt ∧ t1.toInt ≤ 7) ∨ (x5.toInt = 0 ∧ (t1.toInt < 0 ∨ (fv Po 302 0).toInt ≤ t1.toInt))) := g6
  show MEvP _ none q_194 5 [(0, .ref 301), (1, .int t1), (2, .int 4)] [.int x5] _ _ _ _
  refine mp_Tb (t := 12) (j_if_ne dX7_piece_5) (by decide) (fun c8 => ?_) (fun c8 => mpp 8 rfl ?_)
  · have c8 : x5.toInt ≠ 0 := ti_ne c8
    refine mp_a (a_iload_n dX7_piece_12 rfl) (mpp 13 rfl ?_)
    refine mp_t (s_tabIn (t := 91) dX7_piece_13 (by decide) rfl (by decide)) ?_
    refine mp_a (a_aload_n dX7_piece_91 rfl) (mpp 92 rfl ?_)
    refine mp_a (a_iload_n dX7_piece_92 rfl) (mpp 93 rfl ?_)
    refine mp_a (a_iconst (v := 2) dX7_piece_93 rfl) (mpp 94 rfl ?_)
    have p9 : 0 ≤ t1.toInt := by omega
    have p10 : t1.toInt ≤ 7 := by omega
    refine mt_callv (i := 136) (q' := q_149) (As := [.int t1, .int 2]) (rest := []) hT dX7_piece_94 rfl qm_149 (by decide) rfl rl_301 (by decide) rfl (Nat.le_of_ble_eq_true rfl) rfl ⟨rfl, rfl⟩ ⟨Nat.le_of_ble_eq_true rfl, Nat.le_of_ble_eq_true rfl⟩ (EvP.mono (by decide) (c_M_countOf hT p9 p10 )) (fun r11 P12 g13 => mpp 97 rfl ?_)
    obtain ⟨⟨x14, rfl, g15⟩, e16⟩ := g13
    have e16 := e16.symm
    subst e16
    have wx14 := ti_full x14
    replace g15 : (x14.toInt ≤ 0 ∨ UD Po t1.toInt.toNat (2 : Int)) ∧ 0 ≤ x14.toInt ∧ x14.toInt ≤ 8 ∧ x14.toInt = cntF (fun j : Nat => fv Po 302 (14 + 19 * t1.toInt.toNat + j)) (2 : Int) (nC (fv Po 302 (3 + 19 * t1.toInt.toNat)).toInt (fv Po 302 (4 + 19 * t1.toInt.toNat)).toInt) := g15
    try have g17 : (0 : Int) ≤ (fv Po 302 (3 + 19 * t1.toInt.toNat)).toInt ∧ (fv Po 302 (3 + 19 * t1.toInt.toNat)).toInt ≤ 1 := s3_rng hT (by omega)
    try have g18 : (0 : Int) ≤ (fv Po 302 (4 + 19 * t1.toInt.toNat)).toInt ∧ (fv Po 302 (4 + 19 * t1.toInt.toNat)).toInt ≤ 8 := s4_rng hT (by omega)
    show MEvP _ none q_194 97 [(0, .ref 301), (1, .int t1), (2, .int 4)] [.int x14] _ _ _ _
    have u19 : (t1.toInt < 0 ∨ (fv Po 302 0).toInt ≤ t1.toInt ∨ (0 ≤ x14.toInt ∧ x14.toInt ≤ 8)) ∧ pieceM (sr Po) x14.toInt t1.toInt (4 : Int) := ⟨by omega, (show (x14.toInt = -1001 ∧ (t1.toInt < 0 ∨ (fv Po 302 (0)).toInt ≤ t1.toInt)) ∨ ((0 ≤ t1.toInt ∧ t1.toInt + 1 ≤ (fv Po 302 (0)).toInt ∧ t1.toInt ≤ 7) ∧ (4 : Int) = 0 ∧ x14.toInt = (fv Po 302 (3 + 19 * t1.toInt.toNat)).toInt) ∨ ((0 ≤ t1.toInt ∧ t1.toInt + 1 ≤ (fv Po 302 (0)).toInt ∧ t1.toInt ≤ 7) ∧ (4 : Int) = 1 ∧ x14.toInt = (fv Po 302 (4 + 19 * t1.toInt.toNat)).toInt) ∨ ((0 ≤ t1.toInt ∧ t1.toInt + 1 ≤ (fv Po 302 (0)).toInt ∧ t1.toInt ≤ 7) ∧ (4 : Int) = 2 ∧ (((fv Po 302 (3 + 19 * t1.toInt.toNat)).toInt = 1 ∧ x14.toInt = (fv Po 302 (4 + 19 * t1.toInt.toNat)).toInt) ∨ ((fv Po 302 (3 + 19 * t1.toInt.toNat)).toInt = 0 ∧ x14.toInt = (fv Po 302 (4 + 19 * t1.toInt.toNat)).toInt - 1))) ∨ ((0 ≤ t1.toInt ∧ t1.toInt + 1 ≤ (fv Po 302 (0)).toInt ∧ t1.toInt ≤ 7) ∧ (4 : Int) = 3 ∧ x14.toInt = cntF (fun j : Nat => fv Po 302 (14 + 19 * t1.toInt.toNat + j)) 1 (nC (fv Po 302 (3 + 19 * t1.toInt.toNat)).toInt (fv Po 302 (4 + 19 * t1.toInt.toNat)).toInt)) ∨ ((0 ≤ t1.toInt ∧ t1.toInt + 1 ≤ (fv Po 302 (0)).toInt ∧ t1.toInt ≤ 7) ∧ (4 : Int) = 4 ∧ x14.toInt = cntF (fun j : Nat => fv Po 302 (14 + 19 * t1.toInt.toNat + j)) 2 (nC (fv Po 302 (3 + 19 * t1.toInt.toNat)).toInt (fv Po 302 (4 + 19 * t1.toInt.toNat)).toInt)) ∨ ((0 ≤ t1.toInt ∧ t1.toInt + 1 ≤ (fv Po 302 (0)).toInt ∧ t1.toInt ≤ 7) ∧ (4 : Int) = 5 ∧ x14.toInt = cntF (fun j : Nat => fv Po 302 (14 + 19 * t1.toInt.toNat + j)) 0 (nC (fv Po 302 (3 + 19 * t1.toInt.toNat)).toInt (fv Po 302 (4 + 19 * t1.toInt.toNat)).toInt)) ∨ ((0 ≤ t1.toInt ∧ t1.toInt + 1 ≤ (fv Po 302 (0)).toInt ∧ t1.toInt ≤ 7) ∧ (4 : Int) = 6 ∧ x14.toInt = (smF (fun j : Nat => fv Po 302 (6 + 19 * t1.toInt.toNat + j)) (fv Po 302 (4 + 19 * t1.toInt.toNat)).toInt.toNat).toInt) ∨ ((0 ≤ t1.toInt ∧ t1.toInt + 1 ≤ (fv Po 302 (0)).toInt ∧ t1.toInt ≤ 7) ∧ (4 : Int) = 7 ∧ x14.toInt = (fv Po 302 (5 + 19 * t1.toInt.toNat)).toInt) ∨ ((0 ≤ t1.toInt ∧ t1.toInt + 1 ≤ (fv Po 302 (0)).toInt ∧ t1.toInt ≤ 7) ∧ (4 : Int) = 8 ∧ x14.toInt = (wdF (fv Po 302 (3 + 19 * t1.toInt.toNat)).toInt (fun j : Nat => fv Po 302 (6 + 19 * t1.toInt.toNat + j)) (fv Po 302 (4 + 19 * t1.toInt.toNat)).toInt.toNat).toInt) ∨ ((0 ≤ t1.toInt ∧ t1.toInt + 1 ≤ (fv Po 302 (0)).toInt ∧ t1.toInt ≤ 7) ∧ ((4 : Int) < 0 ∨ 8 < (4 : Int)) ∧ x14.toInt = -1002) from Or.inr (Or.inr (Or.inr (Or.inr (Or.inr (Or.inl (⟨by omega, by omega, g15.2.2.2⟩)))))))⟩
    exact mp_iret ⟨⟨_, rfl, u19⟩, rfl⟩ dX7_piece_97 (Or.inl rfl)
  · have c8 : x5.toInt = 0 := ti_ne_n c8
    refine mp_a (a_sipush (v := -1001) dX7_piece_8 rfl) (mpp 11 rfl ?_)
    have u20 : (t1.toInt < 0 ∨ (fv Po 302 0).toInt ≤ t1.toInt ∨ (0 ≤ (-1001 : Int) ∧ (-1001 : Int) ≤ 8)) ∧ pieceM (sr Po) (-1001 : Int) t1.toInt (4 : Int) := ⟨by omega, (show ((-1001 : Int) = -1001 ∧ (t1.toInt < 0 ∨ (fv Po 302 (0)).toInt ≤ t1.toInt)) ∨ ((0 ≤ t1.toInt ∧ t1.toInt + 1 ≤ (fv Po 302 (0)).toInt ∧ t1.toInt ≤ 7) ∧ (4 : Int) = 0 ∧ (-1001 : Int) = (fv Po 302 (3 + 19 * t1.toInt.toNat)).toInt) ∨ ((0 ≤ t1.toInt ∧ t1.toInt + 1 ≤ (fv Po 302 (0)).toInt ∧ t1.toInt ≤ 7) ∧ (4 : Int) = 1 ∧ (-1001 : Int) = (fv Po 302 (4 + 19 * t1.toInt.toNat)).toInt) ∨ ((0 ≤ t1.toInt ∧ t1.toInt + 1 ≤ (fv Po 302 (0)).toInt ∧ t1.toInt ≤ 7) ∧ (4 : Int) = 2 ∧ (((fv Po 302 (3 + 19 * t1.toInt.toNat)).toInt = 1 ∧ (-1001 : Int) = (fv Po 302 (4 + 19 * t1.toInt.toNat)).toInt) ∨ ((fv Po 302 (3 + 19 * t1.toInt.toNat)).toInt = 0 ∧ (-1001 : Int) = (fv Po 302 (4 + 19 * t1.toInt.toNat)).toInt - 1))) ∨ ((0 ≤ t1.toInt ∧ t1.toInt + 1 ≤ (fv Po 302 (0)).toInt ∧ t1.toInt ≤ 7) ∧ (4 : Int) = 3 ∧ (-1001 : Int) = cntF (fun j : Nat => fv Po 302 (14 + 19 * t1.toInt.toNat + j)) 1 (nC (fv Po 302 (3 + 19 * t1.toInt.toNat)).toInt (fv Po 302 (4 + 19 * t1.toInt.toNat)).toInt)) ∨ ((0 ≤ t1.toInt ∧ t1.toInt + 1 ≤ (fv Po 302 (0)).toInt ∧ t1.toInt ≤ 7) ∧ (4 : Int) = 4 ∧ (-1001 : Int) = cntF (fun j : Nat => fv Po 302 (14 + 19 * t1.toInt.toNat + j)) 2 (nC (fv Po 302 (3 + 19 * t1.toInt.toNat)).toInt (fv Po 302 (4 + 19 * t1.toInt.toNat)).toInt)) ∨ ((0 ≤ t1.toInt ∧ t1.toInt + 1 ≤ (fv Po 302 (0)).toInt ∧ t1.toInt ≤ 7) ∧ (4 : Int) = 5 ∧ (-1001 : Int) = cntF (fun j : Nat => fv Po 302 (14 + 19 * t1.toInt.toNat + j)) 0 (nC (fv Po 302 (3 + 19 * t1.toInt.toNat)).toInt (fv Po 302 (4 + 19 * t1.toInt.toNat)).toInt)) ∨ ((0 ≤ t1.toInt ∧ t1.toInt + 1 ≤ (fv Po 302 (0)).toInt ∧ t1.toInt ≤ 7) ∧ (4 : Int) = 6 ∧ (-1001 : Int) = (smF (fun j : Nat => fv Po 302 (6 + 19 * t1.toInt.toNat + j)) (fv Po 302 (4 + 19 * t1.toInt.toNat)).toInt.toNat).toInt) ∨ ((0 ≤ t1.toInt ∧ t1.toInt + 1 ≤ (fv Po 302 (0)).toInt ∧ t1.toInt ≤ 7) ∧ (4 : Int) = 7 ∧ (-1001 : Int) = (fv Po 302 (5 + 19 * t1.toInt.toNat)).toInt) ∨ ((0 ≤ t1.toInt ∧ t1.toInt + 1 ≤ (fv Po 302 (0)).toInt ∧ t1.toInt ≤ 7) ∧ (4 : Int) = 8 ∧ (-1001 : Int) = (wdF (fv Po 302 (3 + 19 * t1.toInt.toNat)).toInt (fun j : Nat => fv Po 302 (6 + 19 * t1.toInt.toNat + j)) (fv Po 302 (4 + 19 * t1.toInt.toNat)).toInt.toNat).toInt) ∨ ((0 ≤ t1.toInt ∧ t1.toInt + 1 ≤ (fv Po 302 (0)).toInt ∧ t1.toInt ≤ 7) ∧ ((4 : Int) < 0 ∨ 8 < (4 : Int)) ∧ (-1001 : Int) = -1002) from Or.inl (⟨by omega, by omega⟩))⟩
    exact mp_iret ⟨⟨_, rfl, u20⟩, rfl⟩ dX7_piece_11 (Or.inl rfl)

