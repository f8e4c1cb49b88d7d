/-! methods on typed pools, 22 (written by a program) -/
set_option maxHeartbeats 4000000 in
theorem c_F_read_l58 {Po : mP}  (hTo : Typ Po) (hX : XR Po) (hJo : Inj Po)  : ∀ (n : Nat) (v1 : Int32) (v2 : Int32) (v3 : Int32), ∀ (P : mP), Typ P → KW [9, 10, 11, 12, 65, 66, 67, 192, 193, 194, 256, 320, 385, 386, 387, 513, 514, 515, 516, 517, 518, 519, 640, 641, 704, 768, 1985, 1986, 1987, 2048, 2112, 2113, 2114] Po P → Inj P → ((0 ≤ v3.toInt ∧ ∀ (R : mP) (a : Int), TRD (chC Po) (fv Po 289 1).toInt (fv P 289 2).toInt P R a → TRD (chC Po) (fv Po 289 1).toInt 0 Po R a) ∨ (v3.toInt < 0 ∧ ∀ (R : mP) (a : Int), a < 0 → TRD (chC Po) (fv Po 289 1).toInt 0 Po R a)) → ((∀ j : Nat, fv P 290 j = fv Po 290 j) ∧ fv P 289 1 = fv Po 289 1) → (v3.toInt < 0 ∨ (fv Po 289 1).toInt ≤ (fv P 289 2).toInt ∨ TKT (chC Po) (fv Po 289 1).toInt (fv P 289 2).toInt) → (0 ≤ (fv P 289 2).toInt ∧ (fv P 289 2).toInt ≤ (fv Po 289 1).toInt ∧ 0 ≤ v2.toInt ∧ 2 * v2.toInt ≤ (fv P 289 2).toInt ∧ (fv Po 289 1).toInt ≤ 80) → ((fv P 79 3).toInt = 1) → ((∀ x j : Nat, (53 ≤ x ∧ x < 79) ∨ (80 ≤ x ∧ x < 289) → fv P x j = fv Po x j) ∧ fv P 79 1 = fv Po 79 1 ∧ fv P 79 2 = fv Po 79 2 ∧ fv P 0 8 = fv Po 0 8) → (SCn P 27 Po) → (TKT (chC Po) (fv Po 289 1).toInt 0) → (2147483647 - v2.toInt).toNat = n → MEvP 6 none q_94 58 [(0, .ref 0), (1, .int v1), (2, .int v2), (3, .int v3)] [] P 0 0 (fun r P' => (∃ x : Int32, r = some (.int x) ∧ ((fv P' 289 1).toInt = 0 ∧ RDC Po P')) ∧ Typ P' ∧ KW [9, 10, 11, 12, 65, 66, 67, 192, 193, 194, 256, 320, 385, 386, 387, 513, 514, 515, 516, 517, 518, 519, 640, 641, 704, 768, 1985, 1986, 1987, 2048, 2112, 2113, 2114] Po P' ∧ Inj P' ∧ True) := by
  intro n
  induction n using Nat.strongRecOn with | _ n ih => ?_
  intro v1 v2 v3 P hT hK hJ i_0 i_1 i_2 i_3 i_4 i_5 i_6 i_7 hm
  have w_v1 := ti_full v1
  have w_v2 := ti_full v2
  have w_v3 := ti_full v3
  have g1 := ti_full (fv P 289 2)
  have g2 := ti_full (fv P 289 2)
  refine mp_a (a_iload_n dX6_read_58 rfl) (mpp 59 rfl ?_)
  refine mp_a (a_bipush (v := 80) dX6_read_59 rfl) (mpp 61 rfl ?_)
  refine mp_Tb (t := 104) (j_icmp_ge dX6_read_61) (by decide) (fun c3 => ?_) (fun c3 => mpp 64 rfl ?_)
  · have c3 : v2.toInt ≥ 80 := ti_ge c3
    refine mp_a (a_aload_n dX6_read_104 rfl) (mpp 105 rfl ?_)
    refine mp_a (a_sipush (v := -1004) dX6_read_105 rfl) (mpp 108 rfl ?_)
    refine mt_putI (i := 57) (k := 9) (x := (-1004)) hT dX6_read_108 rfl rl_0 (by decide) rfl (by decide) rfl (by decide) rfl rfl (fun P4 hT5 f6 f7 f8 => mpp 111 rfl ?_)
    have k9 : KW [9, 10, 11, 12, 65, 66, 67, 192, 193, 194, 256, 320, 385, 386, 387, 513, 514, 515, 516, 517, 518, 519, 640, 641, 704, 768, 1985, 1986, 1987, 2048, 2112, 2113, 2114] Po P4 := KW.step hK rl_0 rfl f7 f8
    have J10 := Inj.st hJ f8
    have e11 : (fv P4 0 9).toInt = (-1004) := congrArg Int32.toInt f6
    refine mp_a (a_aload_n dX6_read_111 rfl) (mpp 112 rfl ?_)
    refine mt_getU (i := 25) (k := 3) (A := 79) hT5 dX6_read_112 rfl rl_0 (by decide) rfl (by decide) rfl un_6 (mpp 115 rfl ?_)
    refine mp_a (a_iconst (v := 0) dX6_read_115 rfl) (mpp 116 rfl ?_)
    refine mt_putI (i := 230) (k := 3) (x := 0) hT5 dX6_read_116 rfl rl_79 (by decide) rfl (by decide) rfl (by decide) rfl rfl (fun P12 hT13 f14 f15 f16 => mpp 119 rfl ?_)
    have k17 : KW [9, 10, 11, 12, 65, 66, 67, 192, 193, 194, 256, 320, 385, 386, 387, 513, 514, 515, 516, 517, 518, 519, 640, 641, 704, 768, 1985, 1986, 1987, 2048, 2112, 2113, 2114] Po P12 := KW.step k9 rl_79 rfl f15 f16
    have J18 := Inj.st J10 f16
    have e19 : (fv P12 79 3).toInt = 0 := congrArg Int32.toInt f14
    refine mp_a (a_aload_n dX6_read_119 rfl) (mpp 120 rfl ?_)
    refine mt_getU (i := 32) (k := 4) (A := 289) hT13 dX6_read_120 rfl rl_0 (by decide) rfl (by decide) rfl un_8 (mpp 123 rfl ?_)
    refine mt_callv (i := 225) (q' := q_106) (As := []) (rest := []) hT13 dX6_read_123 rfl qm_106 (by decide) rfl rl_289 (by decide) rfl (Nat.le_of_ble_eq_true rfl) rfl ⟨rfl, rfl⟩ ⟨Nat.le_of_ble_eq_true rfl, Nat.le_of_ble_eq_true rfl⟩ (EvP.mono (by decide) (c_CS_clear_Script hT13 (KW.xr k17 hX) )) (fun r20 P21 g22 => mpp 126 rfl ?_)
    obtain ⟨⟨rfl, g24⟩, hT25, k26, R27⟩ := g22
    have k28 : KW [9, 10, 11, 12, 65, 66, 67, 192, 193, 194, 256, 320, 385, 386, 387, 513, 514, 515, 516, 517, 518, 519, 640, 641, 704, 768, 1985, 1986, 1987, 2048, 2112, 2113, 2114] Po P21 := KW.trans k17 k26 rfl
    have J30 := Inj.kw J18 k26 rfl
    replace g24 : (fv P21 289 1).toInt = 0 := g24
    have g31 : (0 : Int) ≤ (fv P21 289 1).toInt ∧ (fv P21 289 1).toInt ≤ 80 := Typ.rng hT25 rl_289 (by decide) (by decide) rfl
    show MEvP _ none q_94 126 [(0, .ref 0), (1, .int v1), (2, .int v2), (3, .int v3)] [] _ _ _ _
    refine mp_a (a_iload_n dX6_read_126 rfl) (mpp 127 rfl ?_)
    refine mp_Tb (t := 158) (j_if_ge dX6_read_127) (by decide) (fun c32 => ?_) (fun c32 => mpp 130 rfl ?_)
    · have c32 : v3.toInt ≥ 0 := ti_ge c32
      refine mp_a (a_aload_n dX6_read_158 rfl) (mpp 159 rfl ?_)
      refine mt_getU (i := 25) (k := 3) (A := 79) hT25 dX6_read_159 rfl rl_0 (by decide) rfl (by decide) rfl un_6 (mpp 162 rfl ?_)
      refine mp_a (a_aload_n dX6_read_162 rfl) (mpp 163 rfl ?_)
      refine mt_getE (i := 16) (k := 1) hT25 dX6_read_163 rfl rl_0 (by decide) rfl (by decide) rfl (KW.xr k28 hX).2.2.2.1 (fun q33 => mpp 166 rfl ?_)
      have p34 : 27 + 26 ≤ 81 := by omega
      refine mt_callv (i := 72) (q' := q_15) (As := [.ref 27]) (rest := []) hT25 dX6_read_166 rfl qm_15 (by decide) rfl rl_79 (by decide) rfl (Nat.le_of_ble_eq_true rfl) rfl ⟨rfl, rfl⟩ ⟨Nat.le_of_ble_eq_true rfl, Nat.le_of_ble_eq_true rfl⟩ (EvP.mono (by decide) (c_CH_push_History_State hT25 (KW.xr k28 hX) J30 p34 q33)) (fun r35 P36 g37 => mpp 169 rfl ?_)
      obtain ⟨⟨rfl, g39⟩, hT40, k41, J44, R42⟩ := g37
      have k43 : KW [9, 10, 11, 12, 65, 66, 67, 192, 193, 194, 256, 320, 385, 386, 387, 513, 514, 515, 516, 517, 518, 519, 640, 641, 704, 768, 1985, 1986, 1987, 2048, 2112, 2113, 2114] Po P36 := KW.trans k28 k41 rfl
      show MEvP _ none q_94 169 [(0, .ref 0), (1, .int v1), (2, .int v2), (3, .int v3)] [] _ _ _ _
      refine mp_a (a_iload_n dX6_read_169 rfl) (mpp 170 rfl ?_)
      have e45 : (fv P36 289 1).toInt = (fv P21 289 1).toInt := congrArg Int32.toInt (KW.at k41 1 rl_289 rfl)
      have w47_c : chC P = chC Po := chC_eq i_1.1 i_1.2
      have w47_l : (fv P 289 1).toInt = (fv Po 289 1).toInt := congrArg Int32.toInt i_1.2
      have w47_k : TKT (chC Po) (fv Po 289 1).toInt 0 := i_7
      have w47_pc : ∀ y j : Nat, 1 ≤ y → y < 289 → ¬ (y = 79 ∧ j = 3) → fv P21 y j = fv P y j := fun y j h1 h2 h3 => by rw [R27.2.2.2.2.2.2 y j (by omega), f15 y j (by omega), f7 y j (by omega)]
      have w47_8 : fv P36 0 8 = fv Po 0 8 := (show fv P36 0 8 = fv P 0 8 from by rw [R42.2.2.2.2.2 0 8 (by omega), R27.2.2.2.2.2.2 0 8 (by omega), f15 0 8 (by omega), f7 0 8 (by omega)]).trans i_5.2.2.2
      have w47_S : SCn P21 27 Po := SCn.cong i_6 (fun y j h1 h2 => w47_pc y j (by omega) (by omega) (by omega))
      have w47_3 : (fv P21 79 3).toInt = 0 := by rw [R27.2.2.2.2.2.2 79 3 (by omega), f14]; rfl
      have w47_i := (i_0.resolve_right (by omega)).2
      have w47_L : (fv Po 289 1).toInt ≤ (fv P 289 2).toInt := by omega
      have w47_t : TRD (chC Po) (fv Po 289 1).toInt 0 Po P 0 := w47_i P 0 ⟨0, w47_L, ⟨fun _ _ _ _ => rfl, fun _ => rfl⟩, by decide⟩
      have w47_1 : fv P21 79 1 = fv Po 79 1 := (w47_pc 79 1 (by omega) (by omega) (by omega)).trans i_5.2.1
      have w47_2 : fv P21 79 2 = fv Po 79 2 := (w47_pc 79 2 (by omega) (by omega) (by omega)).trans i_5.2.2.1
      have w47_n := (R42.1.resolve_left (by omega)).2
      rw [w47_1, w47_2] at w47_n
      have w47_s := R42.2.1.resolve_left (by omega)
      rw [w47_1] at w47_s
      have w47_o := R42.2.2.1
      rw [w47_1] at w47_o
      have w47_ki : ∀ y j : Nat, y < 79 → fv P36 y j = fv P21 y j := fun y j h1 => R42.2.2.2.2.2 y j (by omega)
      have u46 : (fv P36 289 1).toInt = 0 ∧ RDC Po P36 := ⟨by omega, w47_8, fun y j h1 h2 => (w47_ki y j h2).trans ((w47_pc y j (by omega) (by omega) (by omega)).trans (i_5.1 y j (by omega))), Or.inr ⟨w47_k, (congrArg Int32.toInt (R42.2.2.2.2.1)).trans w47_3, P, 0, w47_t, hT, Or.inr ⟨by decide, ⟨fun y j h1 h2 => (w47_ki y j (by omega)).trans (w47_pc y j (by omega) (by omega) (by omega)), fun k => by rw [k41.2.2 rfl k, k26.2.2 rfl k, f16 2 k, f8 2 k]⟩, w47_n.1, w47_n.2, SCs.trans w47_s w47_S, fun y j h1 h2 h3 => (w47_o y j (by omega) h3).trans ((w47_pc y j (by omega) (by omega) (by omega)).trans (i_5.1 y j (by omega)))⟩⟩⟩
      exact mp_iret ⟨⟨_, rfl, u46⟩, hT40, k43, J44, trivial⟩ dX6_read_170 (Or.inl rfl)
    · have c32 : v3.toInt < 0 := ti_ge_n c32
      refine mp_a (a_aload_n dX6_read_130 rfl) (mpp 131 rfl ?_)
      refine mt_getU (i := 10) (k := 0) (A := 1) hT25 dX6_read_131 rfl rl_0 (by decide) rfl (by decide) rfl un_31 (mpp 134 rfl ?_)
      refine mp_a (a_aload_n dX6_read_134 rfl) (mpp 135 rfl ?_)
      refine mt_getE (i := 16) (k := 1) hT25 dX6_read_135 rfl rl_0 (by decide) rfl (by decide) rfl (KW.xr k28 hX).2.2.2.1 (fun q48 => mpp 138 rfl ?_)
      refine mt_callv (i := 228) (q' := q_17) (As := [.ref 27]) (rest := []) hT25 dX6_read_138 rfl qm_17 (by decide) rfl rl_1 (by decide) rfl (Nat.le_of_ble_eq_true rfl) rfl ⟨rfl, rfl⟩ ⟨Nat.le_of_ble_eq_true rfl, Nat.le_of_ble_eq_true rfl⟩ (EvP.mono (by decide) (c_CS_copyFrom_NState_State hT25 (KW.xr k28 hX) J30 q48)) (fun r49 P50 g51 => mpp 141 rfl ?_)
      obtain ⟨⟨rfl, g53⟩, hT54, k55, J58, R56⟩ := g51
      have k57 : KW [9, 10, 11, 12, 65, 66, 67, 192, 193, 194, 256, 320, 385, 386, 387, 513, 514, 515, 516, 517, 518, 519, 640, 641, 704, 768, 1985, 1986, 1987, 2048, 2112, 2113, 2114] Po P50 := KW.trans k28 k55 rfl
      show MEvP _ none q_94 141 [(0, .ref 0), (1, .int v1), (2, .int v2), (3, .int v3)] [] _ _ _ _
      refine mp_a (a_iload_n dX6_read_141 rfl) (mpp 142 rfl ?_)
      refine mp_a (a_sipush (v := -1003) dX6_read_142 rfl) (mpp 145 rfl ?_)
      refine mp_Tb (t := 154) (j_icmp_ne dX6_read_145) (by decide) (fun c59 => ?_) (fun c59 => mpp 148 rfl ?_)
      · have c59 : v3.toInt ≠ (-1003) := ti_ne c59
        refine mp_a (a_sipush (v := -1002) dX6_read_154 rfl) (mpp 157 rfl ?_)
        have e60 : (fv P50 289 1).toInt = (fv P21 289 1).toInt := congrArg Int32.toInt (KW.at k55 1 rl_289 rfl)
        have w62_c : chC P = chC Po := chC_eq i_1.1 i_1.2
        have w62_l : (fv P 289 1).toInt = (fv Po 289 1).toInt := congrArg Int32.toInt i_1.2
        have w62_k : TKT (chC Po) (fv Po 289 1).toInt 0 := i_7
        have w62_pc : ∀ y j : Nat, 1 ≤ y → y < 289 → ¬ (y = 79 ∧ j = 3) → fv P21 y j = fv P y j := fun y j h1 h2 h3 => by rw [R27.2.2.2.2.2.2 y j (by omega), f15 y j (by omega), f7 y j (by omega)]
        have w62_8 : fv P50 0 8 = fv Po 0 8 := (show fv P50 0 8 = fv P 0 8 from by rw [R56.2.2.2.2 0 8 (by omega), R27.2.2.2.2.2.2 0 8 (by omega), f15 0 8 (by omega), f7 0 8 (by omega)]).trans i_5.2.2.2
        have w62_S : SCn P21 27 Po := SCn.cong i_6 (fun y j h1 h2 => w62_pc y j (by omega) (by omega) (by omega))
        have w62_3 : (fv P21 79 3).toInt = 0 := by rw [R27.2.2.2.2.2.2 79 3 (by omega), f14]; rfl
        have w62_q : ∀ y j : Nat, 27 ≤ y → y < 289 → fv P50 y j = fv P21 y j := fun y j h1 h2 => R56.2.2.2.2 y j (by omega)
        have w62_i := (i_0.resolve_left (by omega)).2
        have w62_pe : ∀ k : Nat, k < 8 → (k : Int) < (fv Po 1 1).toInt → PE P50 (rv P50 2 k) Po (rv Po 2 k) := fun k hk hz => (R56.2.2.2.1 k hk (by rw [w62_S.1]; exact hz)).trans (w62_S.2.2.2 k hk hz)
        have u61 : (fv P50 289 1).toInt = 0 ∧ RDC Po P50 := ⟨by omega, w62_8, fun y j h1 h2 => (w62_q y j (by omega) (by omega)).trans ((w62_pc y j (by omega) (by omega) (by omega)).trans (i_5.1 y j (by omega))), Or.inr ⟨w62_k, (congrArg Int32.toInt (w62_q 79 3 (by omega) (by omega))).trans w62_3, P, -1, w62_i P (-1) (by decide), hT, Or.inl ⟨by decide, ⟨(R56.1).trans w62_S.1, (R56.2.1).trans w62_S.2.1, (R56.2.2.1).trans w62_S.2.2.1, w62_pe⟩, fun y j h1 h2 => (w62_q y j (by omega) (by omega)).trans ((w62_pc y j (by omega) (by omega) (by omega)).trans (i_5.1 y j (by omega))), ((w62_q 79 1 (by omega) (by omega)).trans (w62_pc 79 1 (by omega) (by omega) (by omega))).trans i_5.2.1, ((w62_q 79 2 (by omega) (by omega)).trans (w62_pc 79 2 (by omega) (by omega) (by omega))).trans i_5.2.2.1⟩⟩⟩
        exact mp_iret ⟨⟨_, rfl, u61⟩, hT54, k57, J58, trivial⟩ dX6_read_157 (Or.inl rfl)
      · have c59 : v3.toInt = (-1003) := ti_ne_n c59
        refine mp_a (a_sipush (v := -1003) dX6_read_148 rfl) (mpp 151 rfl ?_)
        refine mp_a (a_goto (t := 157) dX6_read_151 (by decide)) ?_
        have e63 : (fv P50 289 1).toInt = (fv P21 289 1).toInt := congrArg Int32.toInt (KW.at k55 1 rl_289 rfl)
        have w65_c : chC P = chC Po := chC_eq i_1.1 i_1.2
        have w65_l : (fv P 289 1).toInt = (fv Po 289 1).toInt := congrArg Int32.toInt i_1.2
        have w65_k : TKT (chC Po) (fv Po 289 1).toInt 0 := i_7
        have w65_pc : ∀ y j : Nat, 1 ≤ y → y < 289 → ¬ (y = 79 ∧ j = 3) → fv P21 y j = fv P y j := fun y j h1 h2 h3 => by rw [R27.2.2.2.2.2.2 y j (by omega), f15 y j (by omega), f7 y j (by omega)]
        have w65_8 : fv P50 0 8 = fv Po 0 8 := (show fv P50 0 8 = fv P 0 8 from by rw [R56.2.2.2.2 0 8 (by omega), R27.2.2.2.2.2.2 0 8 (by omega), f15 0 8 (by omega), f7 0 8 (by omega)]).trans i_5.2.2.2
        have w65_S : SCn P21 27 Po := SCn.cong i_6 (fun y j h1 h2 => w65_pc y j (by omega) (by omega) (by omega))
        have w65_3 : (fv P21 79 3).toInt = 0 := by rw [R27.2.2.2.2.2.2 79 3 (by omega), f14]; rfl
        have w65_q : ∀ y j : Nat, 27 ≤ y → y < 289 → fv P50 y j = fv P21 y j := fun y j h1 h2 => R56.2.2.2.2 y j (by omega)
        have w65_i := (i_0.resolve_left (by omega)).2
        have w65_pe : ∀ k : Nat, k < 8 → (k : Int) < (fv Po 1 1).toInt → PE P50 (rv P50 2 k) Po (rv Po 2 k) := fun k hk hz => (R56.2.2.2.1 k hk (by rw [w65_S.1]; exact hz)).trans (w65_S.2.2.2 k hk hz)
        have u64 : (fv P50 289 1).toInt = 0 ∧ RDC Po P50 := ⟨by omega, w65_8, fun y j h1 h2 => (w65_q y j (by omega) (by omega)).trans ((w65_pc y j (by omega) (by omega) (by omega)).trans (i_5.1 y j (by omega))), Or.inr ⟨w65_k, (congrArg Int32.toInt (w65_q 79 3 (by omega) (by omega))).trans w65_3, P, -1, w65_i P (-1) (by decide), hT, Or.inl ⟨by decide, ⟨(R56.1).trans w65_S.1, (R56.2.1).trans w65_S.2.1, (R56.2.2.1).trans w65_S.2.2.1, w65_pe⟩, fun y j h1 h2 => (w65_q y j (by omega) (by omega)).trans ((w65_pc y j (by omega) (by omega) (by omega)).trans (i_5.1 y j (by omega))), ((w65_q 79 1 (by omega) (by omega)).trans (w65_pc 79 1 (by omega) (by omega) (by omega))).trans i_5.2.1, ((w65_q 79 2 (by omega) (by omega)).trans (w65_pc 79 2 (by omega) (by omega) (by omega))).trans i_5.2.2.1⟩⟩⟩
        exact mp_iret ⟨⟨_, rfl, u64⟩, hT54, k57, J58, trivial⟩ dX6_read_157 (Or.inl rfl)
  · have c3 : v2.toInt < 80 := ti_ge_n c3
    refine mp_a (a_iload_n dX6_read_64 rfl) (mpp 65 rfl ?_)
    refine mp_Tb (t := 104) (j_if_lt dX6_read_65) (by decide) (fun c66 => ?_) (fun c66 => mpp 68 rfl ?_)
    · have c66 : v3.toInt < 0 := ti_lt c66
      refine mp_a (a_aload_n dX6_read_104 rfl) (mpp 105 rfl ?_)
      refine mp_a (a_sipush (v := -1004) dX6_read_105 rfl) (mpp 108 rfl ?_)
      refine mt_putI (i := 57) (k := 9) (x := (-1004)) hT dX6_read_108 rfl rl_0 (by decide) rfl (by decide) rfl (by decide) rfl rfl (fun P67 hT68 f69 f70 f71 => mpp 111 rfl ?_)
      have k72 : KW [9, 10, 11, 12, 65, 66, 67, 192, 193, 194, 256, 320, 385, 386, 387, 513, 514, 515, 516, 517, 518, 519, 640, 641, 704, 768, 1985, 1986, 1987, 2048, 2112, 2113, 2114] Po P67 := KW.step hK rl_0 rfl f70 f71
      have J73 := Inj.st hJ f71
      have e74 : (fv P67 0 9).toInt = (-1004) := congrArg Int32.toInt f69
      refine mp_a (a_aload_n dX6_read_111 rfl) (mpp 112 rfl ?_)
      refine mt_getU (i := 25) (k := 3) (A := 79) hT68 dX6_read_112 rfl rl_0 (by decide) rfl (by decide) rfl un_6 (mpp 115 rfl ?_)
      refine mp_a (a_iconst (v := 0) dX6_read_115 rfl) (mpp 116 rfl ?_)
      refine mt_putI (i := 230) (k := 3) (x := 0) hT68 dX6_read_116 rfl rl_79 (by decide) rfl (by decide) rfl (by decide) rfl rfl (fun P75 hT76 f77 f78 f79 => mpp 119 rfl ?_)
      have k80 : KW [9, 10, 11, 12, 65, 66, 67, 192, 193, 194, 256, 320, 385, 386, 387, 513, 514, 515, 516, 517, 518, 519, 640, 641, 704, 768, 1985, 1986, 1987, 2048, 2112, 2113, 2114] Po P75 := KW.step k72 rl_79 rfl f78 f79
      have J81 := Inj.st J73 f79
      have e82 : (fv P75 79 3).toInt = 0 := congrArg Int32.toInt f77
      refine mp_a (a_aload_n dX6_read_119 rfl) (mpp 120 rfl ?_)
      refine mt_getU (i := 32) (k := 4) (A := 289) hT76 dX6_read_120 rfl rl_0 (by decide) rfl (by decide) rfl un_8 (mpp 123 rfl ?_)
      refine mt_callv (i := 225) (q' := q_106) (As := []) (rest := []) hT76 dX6_read_123 rfl qm_106 (by decide) rfl rl_289 (by decide) rfl (Nat.le_of_ble_eq_true rfl) rfl ⟨rfl, rfl⟩ ⟨Nat.le_of_ble_eq_true rfl, Nat.le_of_ble_eq_true rfl⟩ (EvP.mono (by decide) (c_CS_clear_Script hT76 (KW.xr k80 hX) )) (fun r83 P84 g85 => mpp 126 rfl ?_)
      obtain ⟨⟨rfl, g87⟩, hT88, k89, R90⟩ := g85
      have k91 : KW [9, 10, 11, 12, 65, 66, 67, 192, 193, 194, 256, 320, 385, 386, 387, 513, 514, 515, 516, 517, 518, 519, 640, 641, 704, 768, 1985, 1986, 1987, 2048, 2112, 2113, 2114] Po P84 := KW.trans k80 k89 rfl
      have J93 := Inj.kw J81 k89 rfl
      replace g87 : (fv P84 289 1).toInt = 0 := g87
      have g94 : (0 : Int) ≤ (fv P84 289 1).toInt ∧ (fv P84 289 1).toInt ≤ 80 := Typ.rng hT88 rl_289 (by decide) (by decide) rfl
      show MEvP _ none q_94 126 [(0, .ref 0), (1, .int v1), (2, .int v2), (3, .int v3)] [] _ _ _ _
      refine mp_a (a_iload_n dX6_read_126 rfl) (mpp 127 rfl ?_)
      refine mp_Tb (t := 158) (j_if_ge dX6_read_127) (by decide) (fun c95 => ?_) (fun c95 => mpp 130 rfl ?_)
      · have c95 : v3.toInt ≥ 0 := ti_ge c95
        refine mp_a (a_aload_n dX6_read_158 rfl) (mpp 159 rfl ?_)
        refine mt_getU (i := 25) (k := 3) (A := 79) hT88 dX6_read_159 rfl rl_0 (by decide) rfl (by decide) rfl un_6 (mpp 162 rfl ?_)
        refine mp_a (a_aload_n dX6_read_162 rfl) (mpp 163 rfl ?_)
        refine mt_getE (i := 16) (k := 1) hT88 dX6_read_163 rfl rl_0 (by decide) rfl (by decide) rfl (KW.xr k91 hX).2.2.2.1 (fun q96 => mpp 166 rfl ?_)
        have p97 : 27 + 26 ≤ 81 := by omega
        refine mt_callv (i := 72) (q' := q_15) (As := [.ref 27]) (rest := []) hT88 dX6_read_166 rfl qm_15 (by decide) rfl rl_79 (by decide) rfl (Nat.le_of_ble_eq_true rfl) rfl ⟨rfl, rfl⟩ ⟨Nat.le_of_ble_eq_true rfl, Nat.le_of_ble_eq_true rfl⟩ (EvP.mono (by decide) (c_CH_push_History_State hT88 (KW.xr k91 hX) J93 p97 q96)) (fun r98 P99 g100 => mpp 169 rfl ?_)
        obtain ⟨⟨rfl, g102⟩, hT103, k104, J107, R105⟩ := g100
        have k106 : KW [9, 10, 11, 12, 65, 66, 67, 192, 193, 194, 256, 320, 385, 386, 387, 513, 514, 515, 516, 517, 518, 519, 640, 641, 704, 768, 1985, 1986, 1987, 2048, 2112, 2113, 2114] Po P99 := KW.trans k91 k104 rfl
        show MEvP _ none q_94 169 [(0, .ref 0), (1, .int v1), (2, .int v2), (3, .int v3)] [] _ _ _ _
        refine mp_a (a_iload_n dX6_read_169 rfl) (mpp 170 rfl ?_)
        have e108 : (fv P99 289 1).toInt = (fv P84 289 1).toInt := congrArg Int32.toInt (KW.at k104 1 rl_289 rfl)
        have w110_c : chC P = chC Po := chC_eq i_1.1 i_1.2
        have w110_l : (fv P 289 1).toInt = (fv Po 289 1).toInt := congrArg Int32.toInt i_1.2
        have w110_k : TKT (chC Po) (fv Po 289 1).toInt 0 := i_7
        have w110_pc : ∀ y j : Nat, 1 ≤ y → y < 289 → ¬ (y = 79 ∧ j = 3) → fv P84 y j = fv P y j := fun y j h1 h2 h3 => by rw [R90.2.2.2.2.2.2 y j (by omega), f78 y j (by omega), f70 y j (by omega)]
        have w110_8 : fv P99 0 8 = fv Po 0 8 := (show fv P99 0 8 = fv P 0 8 from by rw [R105.2.2.2.2.2 0 8 (by omega), R90.2.2.2.2.2.2 0 8 (by omega), f78 0 8 (by omega), f70 0 8 (by omega)]).trans i_5.2.2.2
        have w110_S : SCn P84 27 Po := SCn.cong i_6 (fun y j h1 h2 => w110_pc y j (by omega) (by omega) (by omega))
        have w110_3 : (fv P84 79 3).toInt = 0 := by rw [R90.2.2.2.2.2.2 79 3 (by omega), f77]; rfl
        have w110_i := (i_0.resolve_right (by omega)).2
        have w110_L : (fv Po 289 1).toInt ≤ (fv P 289 2).toInt := by omega
        have w110_t : TRD (chC Po) (fv Po 289 1).toInt 0 Po P 0 := w110_i P 0 ⟨0, w110_L, ⟨fun _ _ _ _ => rfl, fun _ => rfl⟩, by decide⟩
        have w110_1 : fv P84 79 1 = fv Po 79 1 := (w110_pc 79 1 (by omega) (by omega) (by omega)).trans i_5.2.1
        have w110_2 : fv P84 79 2 = fv Po 79 2 := (w110_pc 79 2 (by omega) (by omega) (by omega)).trans i_5.2.2.1
        have w110_n := (R105.1.resolve_left (by omega)).2
        rw [w110_1, w110_2] at w110_n
        have w110_s := R105.2.1.resolve_left (by omega)
        rw [w110_1] at w110_s
        have w110_o := R105.2.2.1
        rw [w110_1] at w110_o
        have w110_ki : ∀ y j : Nat, y < 79 → fv P99 y j = fv P84 y j := fun y j h1 => R105.2.2.2.2.2 y j (by omega)
        have u109 : (fv P99 289 1).toInt = 0 ∧ RDC Po P99 := ⟨by omega, w110_8, fun y j h1 h2 => (w110_ki y j h2).trans ((w110_pc y j (by omega) (by omega) (by omega)).trans (i_5.1 y j (by omega))), Or.inr ⟨w110_k, (congrArg Int32.toInt (R105.2.2.2.2.1)).trans w110_3, P, 0, w110_t, hT, Or.inr ⟨by decide, ⟨fun y j h1 h2 => (w110_ki y j (by omega)).trans (w110_pc y j (by omega) (by omega) (by omega)), fun k => by rw [k104.2.2 rfl k, k89.2.2 rfl k, f79 2 k, f71 2 k]⟩, w110_n.1, w110_n.2, SCs.trans w110_s w110_S, fun y j h1 h2 h3 => (w110_o y j (by omega) h3).trans ((w110_pc y j (by omega) (by omega) (by omega)).trans (i_5.1 y j (by omega)))⟩⟩⟩
        exact mp_iret ⟨⟨_, rfl, u109⟩, hT103, k106, J107, trivial⟩ dX6_read_170 (Or.inl rfl)
      · have c95 : v3.toInt < 0 := ti_ge_n c95
        refine mp_a (a_aload_n dX6_read_130 rfl) (mpp 131 rfl ?_)
        refine mt_getU (i := 10) (k := 0) (A := 1) hT88 dX6_read_131 rfl rl_0 (by decide) rfl (by decide) rfl un_31 (mpp 134 rfl ?_)
        refine mp_a (a_aload_n dX6_read_134 rfl) (mpp 135 rfl ?_)
        refine mt_getE (i := 16) (k := 1) hT88 dX6_read_135 rfl rl_0 (by decide) rfl (by decide) rfl (KW.xr k91 hX).2.2.2.1 (fun q111 => mpp 138 rfl ?_)
        refine mt_callv (i := 228) (q' := q_17) (As := [.ref 27]) (rest := []) hT88 dX6_read_138 rfl qm_17 (by decide) rfl rl_1 (by decide) rfl (Nat.le_of_ble_eq_true rfl) rfl ⟨rfl, rfl⟩ ⟨Nat.le_of_ble_eq_true rfl, Nat.le_of_ble_eq_true rfl⟩ (EvP.mono (by decide) (c_CS_copyFrom_NState_State hT88 (KW.xr k91 hX) J93 q111)) (fun r112 P113 g114 => mpp 141 rfl ?_)
        obtain ⟨⟨rfl, g116⟩, hT117, k118, J121, R119⟩ := g114
        have k120 : KW [9, 10, 11, 12, 65, 66, 67, 192, 193, 194, 256, 320, 385, 386, 387, 513, 514, 515, 516, 517, 518, 519, 640, 641, 704, 768, 1985, 1986, 1987, 2048, 2112, 2113, 2114] Po P113 := KW.trans k91 k118 rfl
        show MEvP _ none q_94 141 [(0, .ref 0), (1, .int v1), (2, .int v2), (3, .int v3)] [] _ _ _ _
        refine mp_a (a_iload_n dX6_read_141 rfl) (mpp 142 rfl ?_)
        refine mp_a (a_sipush (v := -1003) dX6_read_142 rfl) (mpp 145 rfl ?_)
        refine mp_Tb (t := 154) (j_icmp_ne dX6_read_145) (by decide) (fun c122 => ?_) (fun c122 => mpp 148 rfl ?_)
        · have c122 : v3.toInt ≠ (-1003) := ti_ne c122
          refine mp_a (a_sipush (v := -1002) dX6_read_154 rfl) (mpp 157 rfl ?_)
          have e123 : (fv P113 289 1).toInt = (fv P84 289 1).toInt := congrArg Int32.toInt (KW.at k118 1 rl_289 rfl)
          have w125_c : chC P = chC Po := chC_eq i_1.1 i_1.2
          have w125_l : (fv P 289 1).toInt = (fv Po 289 1).toInt := congrArg Int32.toInt i_1.2
          have w125_k : TKT (chC Po) (fv Po 289 1).toInt 0 := i_7
          have w125_pc : ∀ y j : Nat, 1 ≤ y → y < 289 → ¬ (y = 79 ∧ j = 3) → fv P84 y j = fv P y j := fun y j h1 h2 h3 => by rw [R90.2.2.2.2.2.2 y j (by omega), f78 y j (by omega), f70 y j (by omega)]
          have w125_8 : fv P113 0 8 = fv Po 0 8 := (show fv P113 0 8 = fv P 0 8 from by rw [R119.2.2.2.2 0 8 (by omega), R90.2.2.2.2.2.2 0 8 (by omega), f78 0 8 (by omega), f70 0 8 (by omega)]).trans i_5.2.2.2
          have w125_S : SCn P84 27 Po := SCn.cong i_6 (fun y j h1 h2 => w125_pc y j (by omega) (by omega) (by omega))
          have w125_3 : (fv P84 79 3).toInt = 0 := by rw [R90.2.2.2.2.2.2 79 3 (by omega), f77]; rfl
          have w125_q : ∀ y j : Nat, 27 ≤ y → y < 289 → fv P113 y j = fv P84 y j := fun y j h1 h2 => R119.2.2.2.2 y j (by omega)
          have w125_i := (i_0.resolve_left (by omega)).2
          have w125_pe : ∀ k : Nat, k < 8 → (k : Int) < (fv Po 1 1).toInt → PE P113 (rv P113 2 k) Po (rv Po 2 k) := fun k hk hz => (R119.2.2.2.1 k hk (by rw [w125_S.1]; exact hz)).trans (w125_S.2.2.2 k hk hz)
          have u124 : (fv P113 289 1).toInt = 0 ∧ RDC Po P113 := ⟨by omega, w125_8, fun y j h1 h2 => (w125_q y j (by omega) (by omega)).trans ((w125_pc y j (by omega) (by omega) (by omega)).trans (i_5.1 y j (by omega))), Or.inr ⟨w125_k, (congrArg Int32.toInt (w125_q 79 3 (by omega) (by omega))).trans w125_3, P, -1, w125_i P (-1) (by decide), hT, Or.inl ⟨by decide, ⟨(R119.1).trans w125_S.1, (R119.2.1).trans w125_S.2.1, (R119.2.2.1).trans w125_S.2.2.1, w125_pe⟩, fun y j h1 h2 => (w125_q y j (by omega) (by omega)).trans ((w125_pc y j (by omega) (by omega) (by omega)).trans (i_5.1 y j (by omega))), ((w125_q 79 1 (by omega) (by omega)).trans (w125_pc 79 1 (by omega) (by omega) (by omega))).trans i_5.2.1, ((w125_q 79 2 (by omega) (by omega)).trans (w125_pc 79 2 (by omega) (by omega) (by omega))).trans i_5.2.2.1⟩⟩⟩
          exact mp_iret ⟨⟨_, rfl, u124⟩, hT117, k120, J121, trivial⟩ dX6_read_157 (Or.inl rfl)
        · have c122 : v3.toInt = (-1003) := ti_ne_n c122
          refine mp_a (a_sipush (v := -1003) dX6_read_148 rfl) (mpp 151 rfl ?_)
          refine mp_a (a_goto (t := 157) dX6_read_151 (by decide)) ?_
          have e126 : (fv P113 289 1).toInt = (fv P84 289 1).toInt := congrArg Int32.toInt (KW.at k118 1 rl_289 rfl)
          have w128_c : chC P = chC Po := chC_eq i_1.1 i_1.2
          have w128_l : (fv P 289 1).toInt = (fv Po 289 1).toInt := congrArg Int32.toInt i_1.2
          have w128_k : TKT (chC Po) (fv Po 289 1).toInt 0 := i_7
          have w128_pc : ∀ y j : Nat, 1 ≤ y → y < 289 → ¬ (y = 79 ∧ j = 3) → fv P84 y j = fv P y j := fun y j h1 h2 h3 => by rw [R90.2.2.2.2.2.2 y j (by omega), f78 y j (by omega), f70 y j (by omega)]
          have w128_8 : fv P113 0 8 = fv Po 0 8 := (show fv P113 0 8 = fv P 0 8 from by rw [R119.2.2.2.2 0 8 (by omega), R90.2.2.2.2.2.2 0 8 (by omega), f78 0 8 (by omega), f70 0 8 (by omega)]).trans i_5.2.2.2
          have w128_S : SCn P84 27 Po := SCn.cong i_6 (fun y j h1 h2 => w128_pc y j (by omega) (by omega) (by omega))
          have w128_3 : (fv P84 79 3).toInt = 0 := by rw [R90.2.2.2.2.2.2 79 3 (by omega), f77]; rfl
          have w128_q : ∀ y j : Nat, 27 ≤ y → y < 289 → fv P113 y j = fv P84 y j := fun y j h1 h2 => R119.2.2.2.2 y j (by omega)
          have w128_i := (i_0.resolve_left (by omega)).2
          have w128_pe : ∀ k : Nat, k < 8 → (k : Int) < (fv Po 1 1).toInt → PE P113 (rv P113 2 k) Po (rv Po 2 k) := fun k hk hz => (R119.2.2.2.1 k hk (by rw [w128_S.1]; exact hz)).trans (w128_S.2.2.2 k hk hz)
          have u127 : (fv P113 289 1).toInt = 0 ∧ RDC Po P113 := ⟨by omega, w128_8, fun y j h1 h2 => (w128_q y j (by omega) (by omega)).trans ((w128_pc y j (by omega) (by omega) (by omega)).trans (i_5.1 y j (by omega))), Or.inr ⟨w128_k, (congrArg Int32.toInt (w128_q 79 3 (by omega) (by omega))).trans w128_3, P, -1, w128_i P (-1) (by decide), hT, Or.inl ⟨by decide, ⟨(R119.1).trans w128_S.1, (R119.2.1).trans w128_S.2.1, (R119.2.2.1).trans w128_S.2.2.1, w128_pe⟩, fun y j h1 h2 => (w128_q y j (by omega) (by omega)).trans ((w128_pc y j (by omega) (by omega) (by omega)).trans (i_5.1 y j (by omega))), ((w128_q 79 1 (by omega) (by omega)).trans (w128_pc 79 1 (by omega) (by omega) (by omega))).trans i_5.2.1, ((w128_q 79 2 (by omega) (by omega)).trans (w128_pc 79 2 (by omega) (by omega) (by omega))).trans i_5.2.2.1⟩⟩⟩
          exact mp_iret ⟨⟨_, rfl, u127⟩, hT117, k120, J121, trivial⟩ dX6_read_157 (Or.inl rfl)
    · have c66 : v3.toInt ≥ 0 := ti_lt_n c66
      refine mp_a (a_aload_n dX6_read_68 rfl) (mpp 69 rfl ?_)
      refine mt_getU (i := 32) (k := 4) (A := 289) hT dX6_read_69 rfl rl_0 (by decide) rfl (by decide) rfl un_8 (mpp 72 rfl ?_)
      have p129 : 0 ≤ (fv P 289 2).toInt := by omega
      refine mt_callv (i := 236) (q' := q_97) (As := []) (rest := []) hT dX6_read_72 rfl qm_97 (by decide) rfl rl_289 (by decide) rfl (Nat.le_of_ble_eq_true rfl) rfl ⟨rfl, rfl⟩ ⟨Nat.le_of_ble_eq_true rfl, Nat.le_of_ble_eq_true rfl⟩ (EvP.mono (by decide) (c_CS_takeCommand_Script hT (KW.xr hK hX) p129 )) (fun r130 P131 g132 => mpp 75 rfl ?_)
      obtain ⟨⟨x133, rfl, g134⟩, hT135, k136, R137⟩ := g132
      have k138 : KW [9, 10, 11, 12, 65, 66, 67, 192, 193, 194, 256, 320, 385, 386, 387, 513, 514, 515, 516, 517, 518, 519, 640, 641, 704, 768, 1985, 1986, 1987, 2048, 2112, 2113, 2114] Po P131 := KW.trans hK k136 rfl
      have J140 := Inj.kw hJ k136 rfl
      have wx133 := ti_full x133
      replace g134 : 0 ≤ x133.toInt ∧ x133.toInt ≤ 1 ∧ (0 ≤ (fv P131 289 2).toInt ∧ ((x133.toInt = 1 ∧ CMD (chC P) (fv P 289 2).toInt (fv P131 289 2).toInt (fv P131 289 3).toInt (fv P131 289 4).toInt (fv P131 289 5).toInt (fv P131 289 6).toInt (fv P131 289 7).toInt) ∨ (x133.toInt = 0 ∧ ¬ CMO (chC P) (fv P 289 2).toInt))) := g134
      have g141 := ti_full (fv P131 289 2)
      have g142 := ti_full (fv P131 289 2)
      have g143 := ti_full (fv P131 289 3)
      have g144 := ti_full (fv P131 289 4)
      have g145 := ti_full (fv P131 289 5)
      have g146 := ti_full (fv P131 289 6)
      have g147 := ti_full (fv P131 289 7)
      show MEvP _ none q_94 75 [(0, .ref 0), (1, .int v1), (2, .int v2), (3, .int v3)] [.int x133] _ _ _ _
      refine mp_Tb (t := 104) (j_if_eq dX6_read_75) (by decide) (fun c148 => ?_) (fun c148 => mpp 78 rfl ?_)
      · have c148 : x133.toInt = 0 := ti_eq c148
        refine mp_a (a_aload_n dX6_read_104 rfl) (mpp 105 rfl ?_)
        refine mp_a (a_sipush (v := -1004) dX6_read_105 rfl) (mpp 108 rfl ?_)
        refine mt_putI (i := 57) (k := 9) (x := (-1004)) hT135 dX6_read_108 rfl rl_0 (by decide) rfl (by decide) rfl (by decide) rfl rfl (fun P149 hT150 f151 f152 f153 => mpp 111 rfl ?_)
        have k154 : KW [9, 10, 11, 12, 65, 66, 67, 192, 193, 194, 256, 320, 385, 386, 387, 513, 514, 515, 516, 517, 518, 519, 640, 641, 704, 768, 1985, 1986, 1987, 2048, 2112, 2113, 2114] Po P149 := KW.step k138 rl_0 rfl f152 f153
        have J155 := Inj.st J140 f153
        have e156 : (fv P149 0 9).toInt = (-1004) := congrArg Int32.toInt f151
        refine mp_a (a_aload_n dX6_read_111 rfl) (mpp 112 rfl ?_)
        refine mt_getU (i := 25) (k := 3) (A := 79) hT150 dX6_read_112 rfl rl_0 (by decide) rfl (by decide) rfl un_6 (mpp 115 rfl ?_)
        refine mp_a (a_iconst (v := 0) dX6_read_115 rfl) (mpp 116 rfl ?_)
        refine mt_putI (i := 230) (k := 3) (x := 0) hT150 dX6_read_116 rfl rl_79 (by decide) rfl (by decide) rfl (by decide) rfl rfl (fun P157 hT158 f159 f160 f161 => mpp 119 rfl ?_)
        have k162 : KW [9, 10, 11, 12, 65, 66, 67, 192, 193, 194, 256, 320, 385, 386, 387, 513, 514, 515, 516, 517, 518, 519, 640, 641, 704, 768, 1985, 1986, 1987, 2048, 2112, 2113, 2114] Po P157 := KW.step k154 rl_79 rfl f160 f161
        have J163 := Inj.st J155 f161
        have e164 : (fv P157 79 3).toInt = 0 := congrArg Int32.toInt f159
        refine mp_a (a_aload_n dX6_read_119 rfl) (mpp 120 rfl ?_)
        refine mt_getU (i := 32) (k := 4) (A := 289) hT158 dX6_read_120 rfl rl_0 (by decide) rfl (by decide) rfl un_8 (mpp 123 rfl ?_)
        refine mt_callv (i := 225) (q' := q_106) (As := []) (rest := []) hT158 dX6_read_123 rfl qm_106 (by decide) rfl rl_289 (by decide) rfl (Nat.le_of_ble_eq_true rfl) rfl ⟨rfl, rfl⟩ ⟨Nat.le_of_ble_eq_true rfl, Nat.le_of_ble_eq_true rfl⟩ (EvP.mono (by decide) (c_CS_clear_Script hT158 (KW.xr k162 hX) )) (fun r165 P166 g167 => mpp 126 rfl ?_)
        obtain ⟨⟨rfl, g169⟩, hT170, k171, R172⟩ := g167
        have k173 : KW [9, 10, 11, 12, 65, 66, 67, 192, 193, 194, 256, 320, 385, 386, 387, 513, 514, 515, 516, 517, 518, 519, 640, 641, 704, 768, 1985, 1986, 1987, 2048, 2112, 2113, 2114] Po P166 := KW.trans k162 k171 rfl
        have J175 := Inj.kw J163 k171 rfl
        replace g169 : (fv P166 289 1).toInt = 0 := g169
        have g176 : (0 : Int) ≤ (fv P166 289 1).toInt ∧ (fv P166 289 1).toInt ≤ 80 := Typ.rng hT170 rl_289 (by decide) (by decide) rfl
        show MEvP _ none q_94 126 [(0, .ref 0), (1, .int v1), (2, .int v2), (3, .int v3)] [] _ _ _ _
        refine mp_a (a_iload_n dX6_read_126 rfl) (mpp 127 rfl ?_)
        refine mp_Tb (t := 158) (j_if_ge dX6_read_127) (by decide) (fun c177 => ?_) (fun c177 => mpp 130 rfl ?_)
        · have c177 : v3.toInt ≥ 0 := ti_ge c177
          refine mp_a (a_aload_n dX6_read_158 rfl) (mpp 159 rfl ?_)
          refine mt_getU (i := 25) (k := 3) (A := 79) hT170 dX6_read_159 rfl rl_0 (by decide) rfl (by decide) rfl un_6 (mpp 162 rfl ?_)
          refine mp_a (a_aload_n dX6_read_162 rfl) (mpp 163 rfl ?_)
          refine mt_getE (i := 16) (k := 1) hT170 dX6_read_163 rfl rl_0 (by decide) rfl (by decide) rfl (KW.xr k173 hX).2.2.2.1 (fun q178 => mpp 166 rfl ?_)
          have p179 : 27 + 26 ≤ 81 := by omega
          refine mt_callv (i := 72) (q' := q_15) (As := [.ref 27]) (rest := []) hT170 dX6_read_166 rfl qm_15 (by decide) rfl rl_79 (by decide) rfl (Nat.le_of_ble_eq_true rfl) rfl ⟨rfl, rfl⟩ ⟨Nat.le_of_ble_eq_true rfl, Nat.le_of_ble_eq_true rfl⟩ (EvP.mono (by decide) (c_CH_push_History_State hT170 (KW.xr k173 hX) J175 p179 q178)) (fun r180 P181 g182 => mpp 169 rfl ?_)
          obtain ⟨⟨rfl, g184⟩, hT185, k186, J189, R187⟩ := g182
          have k188 : KW [9, 10, 11, 12, 65, 66, 67, 192, 193, 194, 256, 320, 385, 386, 387, 513, 514, 515, 516, 517, 518, 519, 640, 641, 704, 768, 1985, 1986, 1987, 2048, 2112, 2113, 2114] Po P181 := KW.trans k173 k186 rfl
          show MEvP _ none q_94 169 [(0, .ref 0), (1, .int v1), (2, .int v2), (3, .int v3)] [] _ _ _ _
          refine mp_a (a_iload_n dX6_read_169 rfl) (mpp 170 rfl ?_)
          have e190 : (fv P181 289 1).toInt = (fv P166 289 1).toInt := congrArg Int32.toInt (KW.at k186 1 rl_289 rfl)
          have w192_c : chC P = chC Po := chC_eq i_1.1 i_1.2
          have w192_l : (fv P 289 1).toInt = (fv Po 289 1).toInt := congrArg Int32.toInt i_1.2
          have w192_k : TKT (chC Po) (fv Po 289 1).toInt 0 := i_7
          have w192_pc : ∀ y j : Nat, 1 ≤ y → y < 289 → ¬ (y = 79 ∧ j = 3) → fv P166 y j = fv P y j := fun y j h1 h2 h3 => by rw [R172.2.2.2.2.2.2 y j (by omega), f160 y j (by omega), f152 y j (by omega), R137.2 y j (by omega)]
          have w192_8 : fv P181 0 8 = fv Po 0 8 := (show fv P181 0 8 = fv P 0 8 from by rw [R187.2.2.2.2.2 0 8 (by omega), R172.2.2.2.2.2.2 0 8 (by omega), f160 0 8 (by omega), f152 0 8 (by omega), R137.2 0 8 (by omega)]).trans i_5.2.2.2
          have w192_S : SCn P166 27 Po := SCn.cong i_6 (fun y j h1 h2 => w192_pc y j (by omega) (by omega) (by omega))
          have w192_3 : (fv P166 79 3).toInt = 0 := by rw [R172.2.2.2.2.2.2 79 3 (by omega), f159]; rfl
          have w192_i := (i_0.resolve_right (by omega)).2
          have w192_g := g134.2.2.2
          rw [w192_c] at w192_g
          have w192_L : (fv Po 289 1).toInt ≤ (fv P 289 2).toInt := by
            rcases i_2.resolve_left (by omega) with q | q
            · exact q
            · exact absurd q (TKT.no (w192_g.resolve_left (by omega)).2)
          have w192_t : TRD (chC Po) (fv Po 289 1).toInt 0 Po P 0 := w192_i P 0 ⟨0, w192_L, ⟨fun _ _ _ _ => rfl, fun _ => rfl⟩, by decide⟩
          have w192_1 : fv P166 79 1 = fv Po 79 1 := (w192_pc 79 1 (by omega) (by omega) (by omega)).trans i_5.2.1
          have w192_2 : fv P166 79 2 = fv Po 79 2 := (w192_pc 79 2 (by omega) (by omega) (by omega)).trans i_5.2.2.1
          have w192_n := (R187.1.resolve_left (by omega)).2
          rw [w192_1, w192_2] at w192_n
          have w192_s := R187.2.1.resolve_left (by omega)
          rw [w192_1] at w192_s
          have w192_o := R187.2.2.1
          rw [w192_1] at w192_o
          have w192_ki : ∀ y j : Nat, y < 79 → fv P181 y j = fv P166 y j := fun y j h1 => R187.2.2.2.2.2 y j (by omega)
          have u191 : (fv P181 289 1).toInt = 0 ∧ RDC Po P181 := ⟨by omega, w192_8, fun y j h1 h2 => (w192_ki y j h2).trans ((w192_pc y j (by omega) (by omega) (by omega)).trans (i_5.1 y j (by omega))), Or.inr ⟨w192_k, (congrArg Int32.toInt (R187.2.2.2.2.1)).trans w192_3, P, 0, w192_t, hT, Or.inr ⟨by decide, ⟨fun y j h1 h2 => (w192_ki y j (by omega)).trans (w192_pc y j (by omega) (by omega) (by omega)), fun k => by rw [k186.2.2 rfl k, k171.2.2 rfl k, f161 2 k, f153 2 k, k136.2.2 rfl k]⟩, w192_n.1, w192_n.2, SCs.trans w192_s w192_S, fun y j h1 h2 h3 => (w192_o y j (by omega) h3).trans ((w192_pc y j (by omega) (by omega) (by omega)).trans (i_5.1 y j (by omega)))⟩⟩⟩
          exact mp_iret ⟨⟨_, rfl, u191⟩, hT185, k188, J189, trivial⟩ dX6_read_170 (Or.inl rfl)
        · have c177 : v3.toInt < 0 := ti_ge_n c177
          refine mp_a (a_aload_n dX6_read_130 rfl) (mpp 131 rfl ?_)
          refine mt_getU (i := 10) (k := 0) (A := 1) hT170 dX6_read_131 rfl rl_0 (by decide) rfl (by decide) rfl un_31 (mpp 134 rfl ?_)
          refine mp_a (a_aload_n dX6_read_134 rfl) (mpp 135 rfl ?_)
          refine mt_getE (i := 16) (k := 1) hT170 dX6_read_135 rfl rl_0 (by decide) rfl (by decide) rfl (KW.xr k173 hX).2.2.2.1 (fun q193 => mpp 138 rfl ?_)
          refine mt_callv (i := 228) (q' := q_17) (As := [.ref 27]) (rest := []) hT170 dX6_read_138 rfl qm_17 (by decide) rfl rl_1 (by decide) rfl (Nat.le_of_ble_eq_true rfl) rfl ⟨rfl, rfl⟩ ⟨Nat.le_of_ble_eq_true rfl, Nat.le_of_ble_eq_true rfl⟩ (EvP.mono (by decide) (c_CS_copyFrom_NState_State hT170 (KW.xr k173 hX) J175 q193)) (fun r194 P195 g196 => mpp 141 rfl ?_)
          obtain ⟨⟨rfl, g198⟩, hT199, k200, J203, R201⟩ := g196
          have k202 : KW [9, 10, 11, 12, 65, 66, 67, 192, 193, 194, 256, 320, 385, 386, 387, 513, 514, 515, 516, 517, 518, 519, 640, 641, 704, 768, 1985, 1986, 1987, 2048, 2112, 2113, 2114] Po P195 := KW.trans k173 k200 rfl
          show MEvP _ none q_94 141 [(0, .ref 0), (1, .int v1), (2, .int v2), (3, .int v3)] [] _ _ _ _
          refine mp_a (a_iload_n dX6_read_141 rfl) (mpp 142 rfl ?_)
          refine mp_a (a_sipush (v := -1003) dX6_read_142 rfl) (mpp 145 rfl ?_)
          refine mp_Tb (t := 154) (j_icmp_ne dX6_read_145) (by decide) (fun c204 => ?_) (fun c204 => mpp 148 rfl ?_)
          · have c204 : v3.toInt ≠ (-1003) := ti_ne c204
            refine mp_a (a_sipush (v := -1002) dX6_read_154 rfl) (mpp 157 rfl ?_)
            have e205 : (fv P195 289 1).toInt = (fv P166 289 1).toInt := congrArg Int32.toInt (KW.at k200 1 rl_289 rfl)
            have w207_c : chC P = chC Po := chC_eq i_1.1 i_1.2
            have w207_l : (fv P 289 1).toInt = (fv Po 289 1).toInt := congrArg Int32.toInt i_1.2
            have w207_k : TKT (chC Po) (fv Po 289 1).toInt 0 := i_7
            have w207_pc : ∀ y j : Nat, 1 ≤ y → y < 289 → ¬ (y = 79 ∧ j = 3) → fv P166 y j = fv P y j := fun y j h1 h2 h3 => by rw [R172.2.2.2.2.2.2 y j (by omega), f160 y j (by omega), f152 y j (by omega), R137.2 y j (by omega)]
            have w207_8 : fv P195 0 8 = fv Po 0 8 := (show fv P195 0 8 = fv P 0 8 from by rw [R201.2.2.2.2 0 8 (by omega), R172.2.2.2.2.2.2 0 8 (by omega), f160 0 8 (by omega), f152 0 8 (by omega), R137.2 0 8 (by omega)]).trans i_5.2.2.2
            have w207_S : SCn P166 27 Po := SCn.cong i_6 (fun y j h1 h2 => w207_pc y j (by omega) (by omega) (by omega))
            have w207_3 : (fv P166 79 3).toInt = 0 := by rw [R172.2.2.2.2.2.2 79 3 (by omega), f159]; rfl
            have w207_q : ∀ y j : Nat, 27 ≤ y → y < 289 → fv P195 y j = fv P166 y j := fun y j h1 h2 => R201.2.2.2.2 y j (by omega)
            have w207_i := (i_0.resolve_left (by omega)).2
            have w207_pe : ∀ k : Nat, k < 8 → (k : Int) < (fv Po 1 1).toInt → PE P195 (rv P195 2 k) Po (rv Po 2 k) := fun k hk hz => (R201.2.2.2.1 k hk (by rw [w207_S.1]; exact hz)).trans (w207_S.2.2.2 k hk hz)
            have u206 : (fv P195 289 1).toInt = 0 ∧ RDC Po P195 := ⟨by omega, w207_8, fun y j h1 h2 => (w207_q y j (by omega) (by omega)).trans ((w207_pc y j (by omega) (by omega) (by omega)).trans (i_5.1 y j (by omega))), Or.inr ⟨w207_k, (congrArg Int32.toInt (w207_q 79 3 (by omega) (by omega))).trans w207_3, P, -1, w207_i P (-1) (by decide), hT, Or.inl ⟨by decide, ⟨(R201.1).trans w207_S.1, (R201.2.1).trans w207_S.2.1, (R201.2.2.1).trans w207_S.2.2.1, w207_pe⟩, fun y j h1 h2 => (w207_q y j (by omega) (by omega)).trans ((w207_pc y j (by omega) (by omega) (by omega)).trans (i_5.1 y j (by omega))), ((w207_q 79 1 (by omega) (by omega)).trans (w207_pc 79 1 (by omega) (by omega) (by omega))).trans i_5.2.1, ((w207_q 79 2 (by omega) (by omega)).trans (w207_pc 79 2 (by omega) (by omega) (by omega))).trans i_5.2.2.1⟩⟩⟩
            exact mp_iret ⟨⟨_, rfl, u206⟩, hT199, k202, J203, trivial⟩ dX6_read_157 (Or.inl rfl)
          · have c204 : v3.toInt = (-1003) := ti_ne_n c204
            refine mp_a (a_sipush (v := -1003) dX6_read_148 rfl) (mpp 151 rfl ?_)
            refine mp_a (a_goto (t := 157) dX6_read_151 (by decide)) ?_
            have e208 : (fv P195 289 1).toInt = (fv P166 289 1).toInt := congrArg Int32.toInt (KW.at k200 1 rl_289 rfl)
            have w210_c : chC P = chC Po := chC_eq i_1.1 i_1.2
            have w210_l : (fv P 289 1).toInt = (fv Po 289 1).toInt := congrArg Int32.toInt i_1.2
            have w210_k : TKT (chC Po) (fv Po 289 1).toInt 0 := i_7
            have w210_pc : ∀ y j : Nat, 1 ≤ y → y < 289 → ¬ (y = 79 ∧ j = 3) → fv P166 y j = fv P y j := fun y j h1 h2 h3 => by rw [R172.2.2.2.2.2.2 y j (by omega), f160 y j (by omega), f152 y j (by omega), R137.2 y j (by omega)]
            have w210_8 : fv P195 0 8 = fv Po 0 8 := (show fv P195 0 8 = fv P 0 8 from by rw [R201.2.2.2.2 0 8 (by omega), R172.2.2.2.2.2.2 0 8 (by omega), f160 0 8 (by omega), f152 0 8 (by omega), R137.2 0 8 (by omega)]).trans i_5.2.2.2
            have w210_S : SCn P166 27 Po := SCn.cong i_6 (fun y j h1 h2 => w210_pc y j (by omega) (by omega) (by omega))
            have w210_3 : (fv P166 79 3).toInt = 0 := by rw [R172.2.2.2.2.2.2 79 3 (by omega), f159]; rfl
            have w210_q : ∀ y j : Nat, 27 ≤ y → y < 289 → fv P195 y j = fv P166 y j := fun y j h1 h2 => R201.2.2.2.2 y j (by omega)
            have w210_i := (i_0.resolve_left (by omega)).2
            have w210_pe : ∀ k : Nat, k < 8 → (k : Int) < (fv Po 1 1).toInt → PE P195 (rv P195 2 k) Po (rv Po 2 k) := fun k hk hz => (R201.2.2.2.1 k hk (by rw [w210_S.1]; exact hz)).trans (w210_S.2.2.2 k hk hz)
            have u209 : (fv P195 289 1).toInt = 0 ∧ RDC Po P195 := ⟨by omega, w210_8, fun y j h1 h2 => (w210_q y j (by omega) (by omega)).trans ((w210_pc y j (by omega) (by omega) (by omega)).trans (i_5.1 y j (by omega))), Or.inr ⟨w210_k, (congrArg Int32.toInt (w210_q 79 3 (by omega) (by omega))).trans w210_3, P, -1, w210_i P (-1) (by decide), hT, Or.inl ⟨by decide, ⟨(R201.1).trans w210_S.1, (R201.2.1).trans w210_S.2.1, (R201.2.2.1).trans w210_S.2.2.1, w210_pe⟩, fun y j h1 h2 => (w210_q y j (by omega) (by omega)).trans ((w210_pc y j (by omega) (by omega) (by omega)).trans (i_5.1 y j (by omega))), ((w210_q 79 1 (by omega) (by omega)).trans (w210_pc 79 1 (by omega) (by omega) (by omega))).trans i_5.2.1, ((w210_q 79 2 (by omega) (by omega)).trans (w210_pc 79 2 (by omega) (by omega) (by omega))).trans i_5.2.2.1⟩⟩⟩
            exact mp_iret ⟨⟨_, rfl, u209⟩, hT199, k202, J203, trivial⟩ dX6_read_157 (Or.inl rfl)
      · have c148 : x133.toInt ≠ 0 := ti_eq_n c148
        refine mp_a (a_aload_n dX6_read_78 rfl) (mpp 79 rfl ?_)
        refine mp_a (a_iload_n dX6_read_79 rfl) (mpp 80 rfl ?_)
        refine mt_putI (i := 57) (k := 9) (x := v2) hT135 dX6_read_80 rfl rl_0 (by decide) rfl (by decide) rfl (ti_full v2) rfl rfl (fun P211 hT212 f213 f214 f215 => mpp 83 rfl ?_)
        have k216 : KW [9, 10, 11, 12, 65, 66, 67, 192, 193, 194, 256, 320, 385, 386, 387, 513, 514, 515, 516, 517, 518, 519, 640, 641, 704, 768, 1985, 1986, 1987, 2048, 2112, 2113, 2114] Po P211 := KW.step k138 rl_0 rfl f214 f215
        have J217 := Inj.st J140 f215
        have e218 : (fv P211 0 9).toInt = v2.toInt := congrArg Int32.toInt f213
        refine mp_a (a_aload_n dX6_read_83 rfl) (mpp 84 rfl ?_)
        refine mt_callv (i := 239) (q' := q_107) (As := []) (rest := []) hT212 dX6_read_84 rfl qm_107 (by decide) rfl rl_0 (by decide) rfl (Nat.le_of_ble_eq_true rfl) rfl ⟨rfl, rfl⟩ ⟨Nat.le_of_ble_eq_true rfl, Nat.le_of_ble_eq_true rfl⟩ (EvP.mono (by decide) (c_F_perform hT212 (KW.xr k216 hX) J217 )) (fun r219 P220 g221 => mpp 87 rfl ?_)
        obtain ⟨⟨x222, rfl, g223⟩, hT224, k225, J228, R226⟩ := g221
        have k227 : KW [9, 10, 11, 12, 65, 66, 67, 192, 193, 194, 256, 320, 385, 386, 387, 513, 514, 515, 516, 517, 518, 519, 640, 641, 704, 768, 1985, 1986, 1987, 2048, 2112, 2113, 2114] Po P220 := KW.trans k216 k225 rfl
        have wx222 := ti_full x222
        replace g223 : KPX P211 P220 ∧ PFC P211 P220 x222.toInt (fv P211 289 3).toInt (fv P211 289 4).toInt (fv P211 289 5).toInt (fv P211 289 6).toInt (fv P211 289 7).toInt := g223
        have e229 : (fv P211 289 3).toInt = (fv P131 289 3).toInt := congrArg Int32.toInt (f214 289 3 (ne_r rl_289 rl_0 rfl))
        have e230 : (fv P211 289 4).toInt = (fv P131 289 4).toInt := congrArg Int32.toInt (f214 289 4 (ne_r rl_289 rl_0 rfl))
        have e231 : (fv P211 289 5).toInt = (fv P131 289 5).toInt := congrArg Int32.toInt (f214 289 5 (ne_r rl_289 rl_0 rfl))
        have e232 : (fv P211 289 6).toInt = (fv P131 289 6).toInt := congrArg Int32.toInt (f214 289 6 (ne_r rl_289 rl_0 rfl))
        have e233 : (fv P211 289 7).toInt = (fv P131 289 7).toInt := congrArg Int32.toInt (f214 289 7 (ne_r rl_289 rl_0 rfl))
        show MEvP _ none q_94 87 [(0, .ref 0), (1, .int v1), (2, .int v2), (3, .int v3)] [.int x222] _ _ _ _
        refine mp_a (a_istore_n (L' := [(3, .int x222), (0, .ref 0), (1, .int v1), (2, .int v2)]) dX6_read_87 (by decide) rfl) (mpp 88 rfl ?_)
        obtain ⟨z234, h235⟩ := ti_ex (v2 + 1 : Int32)
        have wz234 := ti_full z234
        refine mp_a (a_iinc (v := z234) (L' := [(2, .int z234), (3, .int x222), (0, .ref 0), (1, .int v1)]) dX6_read_88 (by decide) rfl h235 rfl) (mpp 91 rfl ?_)
        try have e236 : z234.toInt = v2.toInt + 1 := ti_addz h235 rfl rfl (by omega) (by omega)
        refine mp_a (a_aload_n dX6_read_91 rfl) (mpp 92 rfl ?_)
        refine mt_getU (i := 32) (k := 4) (A := 289) hT224 dX6_read_92 rfl rl_0 (by decide) rfl (by decide) rfl un_8 (mpp 95 rfl ?_)
        refine mp_a (a_bipush (v := 59) dX6_read_95 rfl) (mpp 97 rfl ?_)
        have e237 : (fv P220 289 2).toInt = (fv P131 289 2).toInt := congrArg Int32.toInt ((KW.at k225 2 rl_289 rfl).trans (f214 289 2 (ne_r rl_289 rl_0 rfl)))
        have p238 : 0 ≤ (fv P220 289 2).toInt := by omega
        have p239 : 1 ≤ (59 : Int) := by omega
        refine mt_callv (i := 242) (q' := q_100) (As := [.int 59]) (rest := []) hT224 dX6_read_97 rfl qm_100 (by decide) rfl rl_289 (by decide) rfl (Nat.le_of_ble_eq_true rfl) rfl ⟨rfl, rfl⟩ ⟨Nat.le_of_ble_eq_true rfl, Nat.le_of_ble_eq_true rfl⟩ (EvP.mono (by decide) (c_CS_takeSign_Script hT224 (KW.xr k227 hX) p238 p239 )) (fun r240 P241 g242 => mpp 100 rfl ?_)
        obtain ⟨⟨x243, rfl, g244⟩, hT245, k246, R247⟩ := g242
        have k248 : KW [9, 10, 11, 12, 65, 66, 67, 192, 193, 194, 256, 320, 385, 386, 387, 513, 514, 515, 516, 517, 518, 519, 640, 641, 704, 768, 1985, 1986, 1987, 2048, 2112, 2113, 2114] Po P241 := KW.trans k227 k246 rfl
        have J250 := Inj.kw J228 k246 rfl
        have wx243 := ti_full x243
        replace g244 : 0 ≤ x243.toInt ∧ x243.toInt ≤ 1 ∧ ((x243.toInt = 1 ∧ (chC P220 (fv P220 289 2).toInt).toInt = (59 : Int) ∧ (fv P241 289 2).toInt = (fv P220 289 2).toInt + 1) ∨ (x243.toInt = 0 ∧ ¬ (chC P220 (fv P220 289 2).toInt).toInt = (59 : Int) ∧ (fv P241 289 2).toInt = (fv P220 289 2).toInt)) := g244
        have g251 := ti_full (fv P241 289 2)
        have g252 := ti_full (fv P241 289 2)
        show MEvP _ none q_94 100 [(2, .int z234), (3, .int x222), (0, .ref 0), (1, .int v1)] [.int x243] _ _ _ _
        refine mp_t (s_pop dX6_read_100 rfl) (mpp 101 rfl ?_)
        refine mp_a (a_goto (t := 58) dX6_read_101 (by decide)) ?_
        refine MEvP.less (L := [(0, .ref 0), (1, .int v1), (2, .int z234), (3, .int x222)]) rfl rfl ⟨rfl, rfl, rfl, rfl, trivial⟩ ?_
        have w254_c : chC P = chC Po := chC_eq i_1.1 i_1.2
        have w254_l : (fv P 289 1).toInt = (fv Po 289 1).toInt := congrArg Int32.toInt i_1.2
        have w254_g := g134.2.2.2
        rw [w254_c] at w254_g
        have w254_m := (w254_g.resolve_right (by omega)).2
        have w254_n := CMD.len (t := fun j => fv Po 290 j) (L := (fv Po 289 1).toInt) w254_m
        have w254_a := CMD.adv w254_m
        have w254_t := (i_2.resolve_left (by omega)).resolve_left (by omega)
        have w254_ab : ∀ y j : Nat, 1 ≤ y → y < 289 → fv P211 y j = fv P y j := fun y j h1 h2 => (f214 y j (by omega)).trans (R137.2 y j (by omega))
        have w254_k := g223.1
        have w254_p := g223.2
        rw [show fv P211 289 3 = fv P131 289 3 from f214 289 3 (by omega), show fv P211 289 4 = fv P131 289 4 from f214 289 4 (by omega), show fv P211 289 5 = fv P131 289 5 from f214 289 5 (by omega), show fv P211 289 6 = fv P131 289 6 from f214 289 6 (by omega), show fv P211 289 7 = fv P131 289 7 from f214 289 7 (by omega)] at w254_p
        have w254_h := PFC.hist w254_p (CMD.let w254_m) (by rw [w254_ab 79 3 (by omega) (by omega)]; exact i_4)
        have w254_cd : ∀ y j : Nat, y < 289 → fv P241 y j = fv P220 y j := fun y j h1 => R247.2.2.2.2.2.2 y j (by omega)
        have w254_x : chC P220 = chC Po := (chC_eq (fun j => (w254_k.2 290 j (by omega)).trans ((f214 290 j (by omega)).trans (R137.2 290 j (by omega)))) ((w254_k.2 289 1 (by omega)).trans ((f214 289 1 (by omega)).trans (R137.1)))).trans w254_c
        have w254_q : (fv P220 289 2).toInt = (fv P131 289 2).toInt := congrArg Int32.toInt ((w254_k.2 289 2 (by omega)).trans (f214 289 2 (by omega)))
        have w254_s := g244
        rw [w254_x, w254_q] at w254_s
        have w254_e : (fv P131 289 2).toInt = (fv Po 289 1).toInt ∨ ((chC Po (fv P131 289 2).toInt).toInt = 59 ∧ TKT (chC Po) (fv Po 289 1).toInt ((fv P131 289 2).toInt + 1)) := (TKT.at w254_m).mp w254_t
        have w254_o : (chC Po (fv Po 289 1).toInt).toInt = -1 := by rw [show chC Po (fv Po 289 1).toInt = -1 from ch_out (by omega)]; rfl
        have w254_u : (fv P131 289 2).toInt = (fv Po 289 1).toInt → ¬ (chC Po (fv P131 289 2).toInt).toInt = 59 := fun q => by rw [q, w254_o]; decide
        have w254_z : ((fv P131 289 2).toInt = (fv Po 289 1).toInt ∧ (fv P241 289 2).toInt = (fv Po 289 1).toInt) ∨ ((fv P131 289 2).toInt < (fv Po 289 1).toInt ∧ (fv P241 289 2).toInt = (fv P131 289 2).toInt + 1 ∧ TKT (chC Po) (fv Po 289 1).toInt ((fv P131 289 2).toInt + 1)) := by
          rcases w254_e with q | ⟨q, q2⟩
          · have := w254_u q
            exact Or.inl ⟨q, by omega⟩
          · have hlt := ch_lt (t := fun j => fv Po 290 j) (L := (fv Po 289 1).toInt) (i := (fv P131 289 2).toInt) (show ¬ (chC Po (fv P131 289 2).toInt).toInt = -1 from by omega)
            exact Or.inr ⟨by omega, by omega, q2⟩
        have w254_i := (i_0.resolve_right (by omega)).2
        have w254_S : SMC P P211 := ⟨fun y j h1 h2 => w254_ab y j h1 (by omega), fun k => (f215 2 k).trans (k136.2.2 rfl k)⟩
        have w254_T : SMC P220 P241 := ⟨fun y j h1 h2 => w254_cd y j (by omega), fun k => k246.2.2 rfl k⟩
        have i253 : (0 ≤ x222.toInt ∧ ∀ (R : mP) (a : Int), TRD (chC Po) (fv Po 289 1).toInt (fv P241 289 2).toInt P241 R a → TRD (chC Po) (fv Po 289 1).toInt 0 Po R a) ∨ (x222.toInt < 0 ∧ ∀ (R : mP) (a : Int), a < 0 → TRD (chC Po) (fv Po 289 1).toInt 0 Po R a) := if hv : x222.toInt < 0 then Or.inr ⟨hv, fun R a q => w254_i R a ⟨1, by omega, _, _, _, _, _, _, _, _, _, P241, w254_m, w254_S, hT212, J217, w254_p, hT224, Or.inl ⟨hv, q⟩⟩⟩ else Or.inl ⟨by omega, fun R a q => w254_i R a (by obtain ⟨n, q⟩ := q; exact ⟨n + 1, by omega, _, _, _, _, _, _, _, _, _, P241, w254_m, w254_S, hT212, J217, w254_p, hT224, Or.inr ⟨by omega, w254_T, hT245, by rcases w254_z with ⟨z1, z2⟩ | ⟨z1, z2, z3⟩; exact TRC.fin (by omega) (by omega) q; rw [z2] at q; exact q⟩⟩)⟩
        have i255 : (∀ j : Nat, fv P241 290 j = fv Po 290 j) ∧ fv P241 289 1 = fv Po 289 1 := ⟨fun j => (R247.2.2.2.2.2.2 290 j (by omega)).trans ((w254_k.2 290 j (by omega)).trans ((f214 290 j (by omega)).trans ((R137.2 290 j (by omega)).trans (i_1.1 j)))), (R247.1).trans ((w254_k.2 289 1 (by omega)).trans ((f214 289 1 (by omega)).trans ((R137.1).trans i_1.2)))⟩
        have i256 : x222.toInt < 0 ∨ (fv Po 289 1).toInt ≤ (fv P241 289 2).toInt ∨ TKT (chC Po) (fv Po 289 1).toInt (fv P241 289 2).toInt := Or.inr (w254_z.elim (fun q => Or.inl (by omega)) (fun q => Or.inr (by rw [q.2.1]; exact q.2.2)))
        have i257 : 0 ≤ (fv P241 289 2).toInt ∧ (fv P241 289 2).toInt ≤ (fv Po 289 1).toInt ∧ 0 ≤ z234.toInt ∧ 2 * z234.toInt ≤ (fv P241 289 2).toInt ∧ (fv Po 289 1).toInt ≤ 80 := by omega
        have i258 : (fv P241 79 3).toInt = 1 := (congrArg Int32.toInt ((w254_cd 79 3 (by omega)).trans ((w254_h 79 3 (by omega) (by omega)).trans (w254_ab 79 3 (by omega) (by omega))))).trans i_4
        have i259 : (∀ x j : Nat, (53 ≤ x ∧ x < 79) ∨ (80 ≤ x ∧ x < 289) → fv P241 x j = fv Po x j) ∧ fv P241 79 1 = fv Po 79 1 ∧ fv P241 79 2 = fv Po 79 2 ∧ fv P241 0 8 = fv Po 0 8 := ⟨fun y j hy => (show fv P241 y j = fv P y j from (w254_cd y j (by omega)).trans ((show fv P220 y j = fv P211 y j from if hq : y < 79 then w254_k.2 y j (by omega) else w254_h y j (by omega) (by omega)).trans (w254_ab y j (by omega) (by omega)))).trans (i_5.1 y j hy), ((w254_cd 79 1 (by omega)).trans ((w254_h 79 1 (by omega) (by omega)).trans (w254_ab 79 1 (by omega) (by omega)))).trans i_5.2.1, ((w254_cd 79 2 (by omega)).trans ((w254_h 79 2 (by omega) (by omega)).trans (w254_ab 79 2 (by omega) (by omega)))).trans i_5.2.2.1, ((w254_cd 0 8 (by omega)).trans ((w254_k.1).trans ((f214 0 8 (by omega)).trans (R137.2 0 8 (by omega))))).trans i_5.2.2.2⟩
        have i260 : SCn P241 27 Po := SCn.cong i_6 (fun y j h1 h2 => (w254_cd y j (by omega)).trans ((w254_k.2 y j (by omega)).trans (w254_ab y j (by omega) (by omega))))
        have i261 : TKT (chC Po) (fv Po 289 1).toInt 0 := i_7
        exact ih _ (by omega) _ _ _ P241 hT245 k248 J250 i253 i255 i256 i257 i258 i259 i260 i261 rfl

set_option maxHeartbeats 4000000 in
theorem c_F_read {Po : mP}  (hT : Typ Po) (hX : XR Po)  (hJ : Inj Po)  : EvP 7 94 [.ref 0] Po (fun r P' => (∃ x : Int32, r = some (.int x) ∧ ((fv P' 289 1).toInt = 0 ∧ RDC Po P')) ∧ Typ P' ∧ KW [9, 10, 11, 12, 65, 66, 67, 192, 193, 194, 256, 320, 385, 386, 387, 513, 514, 515, 516, 517, 518, 519, 640, 641, 704, 768, 1985, 1986, 1987, 2048, 2112, 2113, 2114] Po P' ∧ Inj P' ∧ True) := by
  refine EvP.of qm_94 (Nat.le_of_ble_eq_true rfl) rfl ?_
  show MEvP _ none q_94 0 [(0, .ref 0)] [] _ 0 0 _
  refine mp_a (a_aload_n dX6_read_0 rfl) (mpp 1 rfl ?_)
  refine mt_getU (i := 32) (k := 4) (A := 289) hT dX6_read_1 rfl rl_0 (by decide) rfl (by decide) rfl un_8 (mpp 4 rfl ?_)
  refine mt_callv (i := 222) (q' := q_95) (As := []) (rest := []) hT dX6_read_4 rfl qm_95 (by decide) rfl rl_289 (by decide) rfl (Nat.le_of_ble_eq_true rfl) rfl ⟨rfl, rfl⟩ ⟨Nat.le_of_ble_eq_true rfl, Nat.le_of_ble_eq_true rfl⟩ (EvP.mono (by decide) (c_CS_faultPosition_Script hT hX )) (fun r1 P2 g3 => mpp 7 rfl ?_)
  obtain ⟨⟨x4, rfl, g5⟩, hT6, k7, R8⟩ := g3
  have k9 : KW [9, 10, 11, 12, 65, 66, 67, 192, 193, 194, 256, 320, 385, 386, 387, 513, 514, 515, 516, 517, 518, 519, 640, 641, 704, 768, 1985, 1986, 1987, 2048, 2112, 2113, 2114] Po P2 := KW.trans KW.refl k7 rfl
  have J11 := Inj.kw hJ k7 rfl
  have wx4 := ti_full x4
  replace g5 : (x4.toInt = -1004 ∧ TKT (chC Po) (fv Po 289 1).toInt 0) ∨ (0 ≤ x4.toInt ∧ ¬ TKT (chC Po) (fv Po 289 1).toInt 0) := g5
  have g12 : (0 : Int) ≤ (fv Po 289 1).toInt ∧ (fv Po 289 1).toInt ≤ 80 := Typ.rng hT rl_289 (by decide) (by decide) rfl
  show MEvP _ none q_94 7 [(0, .ref 0)] [.int x4] _ _ _ _
  refine mp_a (a_istore_n (L' := [(1, .int x4), (0, .ref 0)]) dX6_read_7 (by decide) rfl) (mpp 8 rfl ?_)
  refine mp_a (a_iload_n dX6_read_8 rfl) (mpp 9 rfl ?_)
  refine mp_a (a_sipush (v := -1004) dX6_read_9 rfl) (mpp 12 rfl ?_)
  refine mp_Tb (t := 28) (j_icmp_eq dX6_read_12) (by decide) (fun c13 => ?_) (fun c13 => mpp 15 rfl ?_)
  · have c13 : x4.toInt = (-1004) := ti_eq c13
    refine mp_a (a_aload_n dX6_read_28 rfl) (mpp 29 rfl ?_)
    refine mt_getE (i := 16) (k := 1) hT6 dX6_read_29 rfl rl_0 (by decide) rfl (by decide) rfl (KW.xr k9 hX).2.2.2.1 (fun q14 => mpp 32 rfl ?_)
    refine mp_a (a_aload_n dX6_read_32 rfl) (mpp 33 rfl ?_)
    refine mt_getU (i := 10) (k := 0) (A := 1) hT6 dX6_read_33 rfl rl_0 (by decide) rfl (by decide) rfl un_31 (mpp 36 rfl ?_)
    refine mt_callv (i := 228) (q' := q_17) (As := [.ref 1]) (rest := []) hT6 dX6_read_36 rfl qm_17 (by decide) rfl q14 (by decide) rfl (Nat.le_of_ble_eq_true rfl) rfl ⟨rfl, rfl⟩ ⟨Nat.le_of_ble_eq_true rfl, Nat.le_of_ble_eq_true rfl⟩ (EvP.mono (by decide) (c_CS_copyFrom_State_NState hT6 (KW.xr k9 hX) J11 q14)) (fun r15 P16 g17 => mpp 39 rfl ?_)
    obtain ⟨⟨rfl, g19⟩, hT20, k21, J24, R22⟩ := g17
    have k23 : KW [9, 10, 11, 12, 65, 66, 67, 192, 193, 194, 256, 320, 385, 386, 387, 513, 514, 515, 516, 517, 518, 519, 640, 641, 704, 768, 1985, 1986, 1987, 2048, 2112, 2113, 2114] Po P16 := KW.trans k9 k21 rfl
    show MEvP _ none q_94 39 [(1, .int x4), (0, .ref 0)] [] _ _ _ _
    refine mp_a (a_aload_n dX6_read_39 rfl) (mpp 40 rfl ?_)
    refine mt_getU (i := 25) (k := 3) (A := 79) hT20 dX6_read_40 rfl rl_0 (by decide) rfl (by decide) rfl un_6 (mpp 43 rfl ?_)
    refine mp_a (a_iconst (v := 1) dX6_read_43 rfl) (mpp 44 rfl ?_)
    refine mt_putI (i := 230) (k := 3) (x := 1) hT20 dX6_read_44 rfl rl_79 (by decide) rfl (by decide) rfl (by decide) rfl rfl (fun P25 hT26 f27 f28 f29 => mpp 47 rfl ?_)
    have k30 : KW [9, 10, 11, 12, 65, 66, 67, 192, 193, 194, 256, 320, 385, 386, 387, 513, 514, 515, 516, 517, 518, 519, 640, 641, 704, 768, 1985, 1986, 1987, 2048, 2112, 2113, 2114] Po P25 := KW.step k23 rl_79 rfl f28 f29
    have J31 := Inj.st J24 f29
    have e32 : (fv P25 79 3).toInt = 1 := congrArg Int32.toInt f27
    refine mp_a (a_aload_n dX6_read_47 rfl) (mpp 48 rfl ?_)
    refine mt_getU (i := 32) (k := 4) (A := 289) hT26 dX6_read_48 rfl rl_0 (by decide) rfl (by decide) rfl un_8 (mpp 51 rfl ?_)
    refine mt_callv (i := 233) (q' := q_96) (As := []) (rest := []) hT26 dX6_read_51 rfl qm_96 (by decide) rfl rl_289 (by decide) rfl (Nat.le_of_ble_eq_true rfl) rfl ⟨rfl, rfl⟩ ⟨Nat.le_of_ble_eq_true rfl, Nat.le_of_ble_eq_true rfl⟩ (EvP.mono (by decide) (c_CS_rewind_Script hT26 (KW.xr k30 hX) )) (fun r33 P34 g35 => mpp 54 rfl ?_)
    obtain ⟨⟨rfl, g37⟩, hT38, k39, R40⟩ := g35
    have k41 : KW [9, 10, 11, 12, 65, 66, 67, 192, 193, 194, 256, 320, 385, 386, 387, 513, 514, 515, 516, 517, 518, 519, 640, 641, 704, 768, 1985, 1986, 1987, 2048, 2112, 2113, 2114] Po P34 := KW.trans k30 k39 rfl
    have J43 := Inj.kw J31 k39 rfl
    replace g37 : (fv P34 289 2).toInt = 0 := g37
    have g44 := ti_full (fv P34 289 2)
    show MEvP _ none q_94 54 [(1, .int x4), (0, .ref 0)] [] _ _ _ _
    refine mp_a (a_iconst (v := 0) dX6_read_54 rfl) (mpp 55 rfl ?_)
    refine mp_a (a_istore_n (L' := [(2, .int 0), (1, .int x4), (0, .ref 0)]) dX6_read_55 (by decide) rfl) (mpp 56 rfl ?_)
    refine mp_a (a_iconst (v := 0) dX6_read_56 rfl) (mpp 57 rfl ?_)
    refine mp_a (a_istore_n (L' := [(3, .int 0), (2, .int 0), (1, .int x4), (0, .ref 0)]) dX6_read_57 (by decide) rfl) (mpp 58 rfl ?_)
    refine MEvP.less (L := [(0, .ref 0), (1, .int x4), (2, .int 0), (3, .int 0)]) rfl rfl ⟨rfl, rfl, rfl, rfl, trivial⟩ ?_
    have q0 : (fv P34 289 2).toInt = 0 := by omega
    have i45 : (0 ≤ (0 : Int) ∧ ∀ (R : mP) (a : Int), TRD (chC Po) (fv Po 289 1).toInt (fv P34 289 2).toInt P34 R a → TRD (chC Po) (fv Po 289 1).toInt 0 Po R a) ∨ ((0 : Int) < 0 ∧ ∀ (R : mP) (a : Int), a < 0 → TRD (chC Po) (fv Po 289 1).toInt 0 Po R a) := Or.inl ⟨by decide, fun R a q => by rw [q0] at q; obtain ⟨n, q⟩ := q; exact ⟨n, TRC.from ⟨fun y j h1 h2 => by rw [R40.2 y j (by omega), f28 y j (by omega), R22.2.2.2.2 y j (by omega), R8.2 y j (by omega)], fun k => by rw [k39.2.2 rfl k, f29 2 k, k21.2.2 rfl k, k7.2.2 rfl k]⟩ hT q⟩⟩
    have i46 : (∀ j : Nat, fv P34 290 j = fv Po 290 j) ∧ fv P34 289 1 = fv Po 289 1 := ⟨fun j => by rw [R40.2 290 j (by omega), f28 290 j (by omega), R22.2.2.2.2 290 j (by omega), R8.2 290 j (by omega)], by rw [R40.1, f28 289 1 (by omega), R22.2.2.2.2 289 1 (by omega), R8.1]⟩
    have i47 : (0 : Int) < 0 ∨ (fv Po 289 1).toInt ≤ (fv P34 289 2).toInt ∨ TKT (chC Po) (fv Po 289 1).toInt (fv P34 289 2).toInt := Or.inr (Or.inr (by rw [show (fv P34 289 2).toInt = 0 from by omega]; exact ((g5).resolve_right (by omega)).2))
    have q49 : (0 : Int) ≤ (fv Po 289 1).toInt ∧ (fv Po 289 1).toInt ≤ 80 := Typ.rng hT rl_289 (by decide) (by decide) rfl
    have i48 : 0 ≤ (fv P34 289 2).toInt ∧ (fv P34 289 2).toInt ≤ (fv Po 289 1).toInt ∧ 0 ≤ (0 : Int) ∧ 2 * (0 : Int) ≤ (fv P34 289 2).toInt ∧ (fv Po 289 1).toInt ≤ 80 := by omega
    have i50 : (fv P34 79 3).toInt = 1 := by rw [R40.2 79 3 (by omega), f27]; rfl
    have i51 : (∀ x j : Nat, (53 ≤ x ∧ x < 79) ∨ (80 ≤ x ∧ x < 289) → fv P34 x j = fv Po x j) ∧ fv P34 79 1 = fv Po 79 1 ∧ fv P34 79 2 = fv Po 79 2 ∧ fv P34 0 8 = fv Po 0 8 := ⟨fun x j hx => by rw [R40.2 x j (by omega), f28 x j (by omega), R22.2.2.2.2 x j (by omega), R8.2 x j (by omega)], by rw [R40.2 79 1 (by omega), f28 79 1 (by omega), R22.2.2.2.2 79 1 (by omega), R8.2 79 1 (by omega)], by rw [R40.2 79 2 (by omega), f28 79 2 (by omega), R22.2.2.2.2 79 2 (by omega), R8.2 79 2 (by omega)], by rw [R40.2 0 8 (by omega), f28 0 8 (by omega), R22.2.2.2.2 0 8 (by omega), R8.2 0 8 (by omega)]⟩
    have k27 : KI 289 290 Po P2 := fun x j hx => by rw [R8.2 x j (by omega)]
    have s27 : SCn P16 27 P2 := ⟨R22.1, R22.2.1, R22.2.2.1, R22.2.2.2.1⟩
    have r27 : SCn P16 27 Po := SCn.src s27 hT (fun x j hx => by rw [R8.2 x j (by omega)]) (fun k => by rw [k7.2.2 rfl k])
    have i52 : SCn P34 27 Po := SCn.keep (lo := 79) (hi := 290) r27 (fun x j hx => by rw [R40.2 x j (by omega), f28 x j (by omega)]) (Or.inl (by omega))
    have i53 : TKT (chC Po) (fv Po 289 1).toInt 0 := ((g5).resolve_right (by omega)).2
    exact c_F_read_l58 hT hX hJ  _ _ _ _ P34 hT38 k41 J43 i45 i46 i47 i48 i50 i51 i52 i53 rfl
  · have c13 : x4.toInt ≠ (-1004) := ti_eq_n c13
    refine mp_a (a_aload_n dX6_read_15 rfl) (mpp 16 rfl ?_)
    refine mt_getU (i := 32) (k := 4) (A := 289) hT6 dX6_read_16 rfl rl_0 (by decide) rfl (by decide) rfl un_8 (mpp 19 rfl ?_)
    refine mt_callv (i := 225) (q' := q_106) (As := []) (rest := []) hT6 dX6_read_19 rfl qm_106 (by decide) rfl rl_289 (by decide) rfl (Nat.le_of_ble_eq_true rfl) rfl ⟨rfl, rfl⟩ ⟨Nat.le_of_ble_eq_true rfl, Nat.le_of_ble_eq_true rfl⟩ (EvP.mono (by decide) (c_CS_clear_Script hT6 (KW.xr k9 hX) )) (fun r54 P55 g56 => mpp 22 rfl ?_)
    obtain ⟨⟨rfl, g58⟩, hT59, k60, R61⟩ := g56
    have k62 : KW [9, 10, 11, 12, 65, 66, 67, 192, 193, 194, 256, 320, 385, 386, 387, 513, 514, 515, 516, 517, 518, 519, 640, 641, 704, 768, 1985, 1986, 1987, 2048, 2112, 2113, 2114] Po P55 := KW.trans k9 k60 rfl
    have J64 := Inj.kw J11 k60 rfl
    replace g58 : (fv P55 289 1).toInt = 0 := g58
    have g65 : (0 : Int) ≤ (fv P55 289 1).toInt ∧ (fv P55 289 1).toInt ≤ 80 := Typ.rng hT59 rl_289 (by decide) (by decide) rfl
    show MEvP _ none q_94 22 [(1, .int x4), (0, .ref 0)] [] _ _ _ _
    refine mp_a (a_sipush (v := -2000) dX6_read_22 rfl) (mpp 25 rfl ?_)
    refine mp_a (a_iload_n dX6_read_25 rfl) (mpp 26 rfl ?_)
    obtain ⟨z66, h67⟩ := ti_ex ((-2000) - x4 : Int32)
    have wz66 := ti_full z66
    refine mp_t (s_isub (v := z66) dX6_read_26 h67) (mpp 27 rfl ?_)
    try have e68 : z66.toInt = (-2000) - x4.toInt := ti_subz h67 rfl rfl (by omega) (by omega)
    have u69 : (fv P55 289 1).toInt = 0 ∧ RDC Po P55 := ⟨by omega, by rw [R61.2.2.2.2.2.2 0 8 (by omega), R8.2 0 8 (by omega)], fun x j h1 h2 => by rw [R61.2.2.2.2.2.2 x j (by omega), R8.2 x j (by omega)], Or.inl ⟨((g5).resolve_left (by omega)).2, fun x j h1 h2 => by rw [R61.2.2.2.2.2.2 x j (by omega), R8.2 x j (by omega)], fun k => by rw [k60.2.2 rfl k, k7.2.2 rfl k]⟩⟩
    exact mp_iret ⟨⟨_, rfl, u69⟩, hT59, k62, J64, trivial⟩ dX6_read_27 (Or.inl rfl)

set_option maxHeartbeats 4000000 in
theorem c_F_refusal {Po : mP} {t1 : Int32} (hT : Typ Po) (hX : XR Po)   : EvP 1 109 [.ref 0, .int t1] Po (fun r P' => (∃ x : Int32, r = some (.int x) ∧ (True)) ∧ P' = Po) := by
  refine EvP.of qm_109 (Nat.le_of_ble_eq_true rfl) rfl ?_
  show MEvP _ none q_109 0 [(0, .ref 0), (1, .int t1)] [] _ 0 0 _
  have w_t1 := ti_full t1
  refine mp_a (a_iload_n dX6_refusal_0 rfl) (mpp 1 rfl ?_)
  refine mp_Tb (t := 9) (j_if_lt dX6_refusal_1) (by decide) (fun c1 => ?_) (fun c1 => mpp 4 rfl ?_)
  · have c1 : t1.toInt < 0 := ti_lt c1
    refine mp_a (a_sipush (v := -1002) dX6_refusal_9 rfl) (mpp 12 rfl ?_)
    exact mp_iret ⟨⟨_, rfl, trivial⟩, rfl⟩ dX6_refusal_12 (Or.inl rfl)
  · have c1 : t1.toInt ≥ 0 := ti_lt_n c1
    refine mp_a (a_iload_n dX6_refusal_4 rfl) (mpp 5 rfl ?_)
    refine mp_a (a_iconst (v := 2) dX6_refusal_5 rfl) (mpp 6 rfl ?_)
    refine mp_Tb (t := 13) (j_icmp_le dX6_refusal_6) (by decide) (fun c2 => ?_) (fun c2 => mpp 9 rfl ?_)
    · have c2 : t1.toInt ≤ 2 := ti_le c2
      refine mp_a (a_aload_n dX6_refusal_13 rfl) (mpp 14 rfl ?_)
      have g3 := ti_full (fv Po 0 10)
      refine mt_getI (i := 246) (k := 10) hT dX6_refusal_14 rfl rl_0 (by decide) rfl (by decide) rfl (fun g4 g5 => mpp 17 rfl ?_)
      refine mp_Tb (t := 24) (j_if_ne dX6_refusal_17) (by decide) (fun c6 => ?_) (fun c6 => mpp 20 rfl ?_)
      · have c6 : (fv Po 0 10).toInt ≠ 0 := ti_ne c6
        refine mp_a (a_iload_n dX6_refusal_24 rfl) (mpp 25 rfl ?_)
        refine mp_Tb (t := 33) (j_if_ne dX6_refusal_25) (by decide) (fun c7 => ?_) (fun c7 => mpp 28 rfl ?_)
        · have c7 : t1.toInt ≠ 0 := ti_ne c7
          refine mp_a (a_iload_n dX6_refusal_33 rfl) (mpp 34 rfl ?_)
          refine mp_a (a_iconst (v := 1) dX6_refusal_34 rfl) (mpp 35 rfl ?_)
          refine mp_Tb (t := 45) (j_icmp_ne dX6_refusal_35) (by decide) (fun c8 => ?_) (fun c8 => mpp 38 rfl ?_)
          · have c8 : t1.toInt ≠ 1 := ti_ne c8
            refine mp_a (a_aload_n dX6_refusal_45 rfl) (mpp 46 rfl ?_)
            have g9 := ti_full (fv Po 0 12)
            refine mt_getI (i := 61) (k := 12) hT dX6_refusal_46 rfl rl_0 (by decide) rfl (by decide) rfl (fun g10 g11 => mpp 49 rfl ?_)
            exact mp_iret ⟨⟨_, rfl, trivial⟩, rfl⟩ dX6_refusal_49 (Or.inl rfl)
          · have c8 : t1.toInt = 1 := ti_ne_n c8
            refine mp_a (a_aload_n dX6_refusal_38 rfl) (mpp 39 rfl ?_)
            have g12 := ti_full (fv Po 0 11)
            refine mt_getI (i := 249) (k := 11) hT dX6_refusal_39 rfl rl_0 (by decide) rfl (by decide) rfl (fun g13 g14 => mpp 42 rfl ?_)
            refine mp_a (a_goto (t := 49) dX6_refusal_42 (by decide)) ?_
            exact mp_iret ⟨⟨_, rfl, trivial⟩, rfl⟩ dX6_refusal_49 (Or.inl rfl)
        · have c7 : t1.toInt = 0 := ti_ne_n c7
          refine mp_a (a_aload_n dX6_refusal_28 rfl) (mpp 29 rfl ?_)
          refine mt_getI (i := 246) (k := 10) hT dX6_refusal_29 rfl rl_0 (by decide) rfl (by decide) rfl (fun g15 g16 => mpp 32 rfl ?_)
          exact mp_iret ⟨⟨_, rfl, trivial⟩, rfl⟩ dX6_refusal_32 (Or.inl rfl)
      · have c6 : (fv Po 0 10).toInt = 0 := ti_ne_n c6
        refine mp_a (a_sipush (v := -1004) dX6_refusal_20 rfl) (mpp 23 rfl ?_)
        exact mp_iret ⟨⟨_, rfl, trivial⟩, rfl⟩ dX6_refusal_23 (Or.inl rfl)
    · have c2 : t1.toInt > 2 := ti_le_n c2
      refine mp_a (a_sipush (v := -1002) dX6_refusal_9 rfl) (mpp 12 rfl ?_)
      exact mp_iret ⟨⟨_, rfl, trivial⟩, rfl⟩ dX6_refusal_12 (Or.inl rfl)

set_option maxHeartbeats 4000000 in
theorem c_CS_countOfKind_NState_l4 {Po : mP} {t1 : Int32} (hT : Typ Po) (hX : XR Po)   : ∀ (n : Nat) (v2 : Int32) (v3 : Int32), (v2.toInt = siF (fun k : Nat => isI (fv Po (rv Po 2 k) 0).toInt t1.toInt) v3.toInt.toNat) → (v3.toInt ≤ (fv Po 1 1).toInt) → (0 ≤ v2.toInt) → (v2.toInt ≤ 1 * v3.toInt) → (0 ≤ v3.toInt) → (2147483647 - v3.toInt).toNat = n → MEvP 1 none q_111 4 [(0, .ref 1), (1, .int t1), (2, .int v2), (3, .int v3)] [] Po 0 0 (fun r P' => (∃ x : Int32, r = some (.int x) ∧ (x.toInt = siF (fun k : Nat => isI (fv Po (rv Po 2 k) 0).toInt t1.toInt) (fv Po 1 1).toInt.toNat ∧ 0 ≤ x.toInt ∧ x.toInt ≤ 8)) ∧ P' = Po) := by
  intro n
  induction n using Nat.strongRecOn with | _ n ih => ?_
  intro v2 v3 i_0 i_1 i_2 i_3 i_4 hm
  have w_t1 := ti_full t1
  have w_v2 := ti_full v2
  have w_v3 := ti_full v3
  have g1 : (0 : Int) ≤ (fv Po 1 1).toInt ∧ (fv Po 1 1).toInt ≤ 8 := Typ.rng hT rl_1 (by decide) (by decide) rfl
  refine mp_a (a_iload_n dX5_countOfKind_4 rfl) (mpp 5 rfl ?_)
  refine mp_a (a_aload_n dX5_countOfKind_5 rfl) (mpp 6 rfl ?_)
  refine mt_getI (i := 22) (k := 1) hT dX5_countOfKind_6 rfl rl_1 (by decide) rfl (by decide) rfl (fun g2 g3 => mpp 9 rfl ?_)
  refine mp_Tb (t := 42) (j_icmp_ge dX5_countOfKind_9) (by decide) (fun c4 => ?_) (fun c4 => mpp 12 rfl ?_)
  · have c4 : v3.toInt ≥ (fv Po 1 1).toInt := ti_ge c4
    refine mp_a (a_iload_n dX5_countOfKind_42 rfl) (mpp 43 rfl ?_)
    have u5 : v2.toInt = siF (fun k : Nat => isI (fv Po (rv Po 2 k) 0).toInt t1.toInt) (fv Po 1 1).toInt.toNat ∧ 0 ≤ v2.toInt ∧ v2.toInt ≤ 8 := ⟨i_0.trans (congrArg (siF _) (by omega)), by omega, by omega⟩
    exact mp_iret ⟨⟨_, rfl, u5⟩, rfl⟩ dX5_countOfKind_43 (Or.inl rfl)
  · have c4 : v3.toInt < (fv Po 1 1).toInt := ti_ge_n c4
    refine mp_a (a_aload_n dX5_countOfKind_12 rfl) (mpp 13 rfl ?_)
    refine mp_a (a_iload_n dX5_countOfKind_13 rfl) (mpp 14 rfl ?_)
    refine mt_callv (i := 28) (q' := q_9) (As := [.int v3]) (rest := []) hT dX5_countOfKind_14 rfl qm_9 (by decide) rfl rl_1 (by decide) rfl (Nat.le_of_ble_eq_true rfl) rfl ⟨rfl, rfl⟩ ⟨Nat.le_of_ble_eq_true rfl, Nat.le_of_ble_eq_true rfl⟩ (EvP.mono (by decide) (c_CS_pieceAt_NState hT hX )) (fun r6 P7 g8 => mpp 17 rfl ?_)
    obtain ⟨g8, e9⟩ := g8
    have e9 := e9.symm
    subst e9
    rcases g8 with ⟨rfl, q11n⟩ | ⟨b10, rfl, q11, q11r⟩
    · show MEvP _ none q_111 17 [(0, .ref 1), (1, .int t1), (2, .int v2), (3, .int v3)] [.null] _ _ _ _
      replace q11n : v3.toInt < 0 ∨ (fv Po 1 1).toInt ≤ v3.toInt ∨ 8 ≤ v3.toInt := q11n
      refine mp_a (a_astoreN (L' := [(4, .null), (0, .ref 1), (1, .int t1), (2, .int v2), (3, .int v3)]) dX5_countOfKind_17 (by decide) rfl) (mpp 19 rfl ?_)
      refine mp_a (a_aloadN dX5_countOfKind_19 rfl) (mpp 21 rfl ?_)
      exfalso
      omega
    · show MEvP _ none q_111 17 [(0, .ref 1), (1, .int t1), (2, .int v2), (3, .int v3)] [.ref b10] _ _ _ _
      replace q11r : 0 ≤ v3.toInt ∧ v3.toInt ≤ 7 ∧ v3.toInt + 1 ≤ (fv Po 1 1).toInt ∧ rv Po 2 v3.toInt.toNat = b10 := q11r
      have w12 := np_ar q11
      refine mp_a (a_astore (L' := [(4, .ref b10), (0, .ref 1), (1, .int t1), (2, .int v2), (3, .int v3)]) dX5_countOfKind_17 (by decide) rfl) (mpp 19 rfl ?_)
      refine mp_a (a_aload dX5_countOfKind_19 rfl) (mpp 21 rfl ?_)
      refine mp_t (s_ifnullR dX5_countOfKind_21) (mpp 24 rfl ?_)
      refine mp_a (a_aload dX5_countOfKind_24 rfl) (mpp 26 rfl ?_)
      have g13 := ti_full (fv Po b10 0)
      refine mt_getI (i := 43) (k := 0) hT dX5_countOfKind_26 rfl q11 (by decide) rfl (by decide) rfl (fun g14 g15 => mpp 29 rfl ?_)
      refine mp_a (a_iload_n dX5_countOfKind_29 rfl) (mpp 30 rfl ?_)
      refine mp_Tb (t := 36) (j_icmp_ne dX5_countOfKind_30) (by decide) (fun c16 => ?_) (fun c16 => mpp 33 rfl ?_)
      · have c16 : (fv Po b10 0).toInt ≠ t1.toInt := ti_ne c16
        obtain ⟨z17, h18⟩ := ti_ex (v3 + 1 : Int32)
        have wz17 := ti_full z17
        refine mp_a (a_iinc (v := z17) (L' := [(3, .int z17), (4, .ref b10), (0, .ref 1), (1, .int t1), (2, .int v2)]) dX5_countOfKind_36 (by decide) rfl h18 rfl) (mpp 39 rfl ?_)
        try have e19 : z17.toInt = v3.toInt + 1 := ti_addz h18 rfl rfl (by omega) (by omega)
        refine mp_a (a_goto (t := 4) dX5_countOfKind_39 (by decide)) ?_
        refine MEvP.less (L := [(0, .ref 1), (1, .int t1), (2, .int v2), (3, .int z17)]) rfl rfl ⟨rfl, rfl, rfl, rfl, trivial⟩ ?_
        have i20 : v2.toInt = siF (fun k : Nat => isI (fv Po (rv Po 2 k) 0).toInt t1.toInt) z17.toInt.toNat := siF.step i_0 (by omega) (d := 0) (by show isI (fv Po (rv Po 2 v3.toInt.toNat) 0).toInt t1.toInt = _; rw [q11r.2.2.2]; exact isI.no (by omega)) (by omega)
        have i21 : z17.toInt ≤ (fv Po 1 1).toInt := by omega
        have i22 : 0 ≤ v2.toInt := by omega
        have i23 : v2.toInt ≤ 1 * z17.toInt := by omega
        have i24 : 0 ≤ z17.toInt := by omega
        exact ih _ (by omega) _ _ i20 i21 i22 i23 i24 rfl
      · have c16 : (fv Po b10 0).toInt = t1.toInt := ti_ne_n c16
        obtain ⟨z25, h26⟩ := ti_ex (v2 + 1 : Int32)
        have wz25 := ti_full z25
        refine mp_a (a_iinc (v := z25) (L' := [(2, .int z25), (4, .ref b10), (0, .ref 1), (1, .int t1), (3, .int v3)]) dX5_countOfKind_33 (by decide) rfl h26 rfl) (mpp 36 rfl ?_)
        try have e27 : z25.toInt = v2.toInt + 1 := ti_addz h26 rfl rfl (by omega) (by omega)
        obtain ⟨z28, h29⟩ := ti_ex (v3 + 1 : Int32)
        have wz28 := ti_full z28
        refine mp_a (a_iinc (v := z28) (L' := [(3, .int z28), (2, .int z25), (4, .ref b10), (0, .ref 1), (1, .int t1)]) dX5_countOfKind_36 (by decide) rfl h29 rfl) (mpp 39 rfl ?_)
        try have e30 : z28.toInt = v3.toInt + 1 := ti_addz h29 rfl rfl (by omega) (by omega)
        refine mp_a (a_goto (t := 4) dX5_countOfKind_39 (by decide)) ?_
        refine MEvP.less (L := [(0, .ref 1), (1, .int t1), (2, .int z25), (3, .int z28)]) rfl rfl ⟨rfl, rfl, rfl, rfl, trivial⟩ ?_
        have i31 : z25.toInt = siF (fun k : Nat => isI (fv Po (rv Po 2 k) 0).toInt t1.toInt) z28.toInt.toNat := siF.step i_0 (by omega) (d := 1) (by show isI (fv Po (rv Po 2 v3.toInt.toNat) 0).toInt t1.toInt = _; rw [q11r.2.2.2]; exact isI.yes (by omega)) (by omega)
        have i32 : z28.toInt ≤ (fv Po 1 1).toInt := by omega
        have i33 : 0 ≤ z25.toInt := by omega
        have i34 : z25.toInt ≤ 1 * z28.toInt := by omega
        have i35 : 0 ≤ z28.toInt := by omega
        exact ih _ (by omega) _ _ i31 i32 i33 i34 i35 rfl

set_option maxHeartbeats 4000000 in
theorem c_CS_countOfKind_NState {Po : mP} {t1 : Int32} (hT : Typ Po) (hX : XR Po)   : EvP 2 111 [.ref 1, .int t1] Po (fun r P' => (∃ x : Int32, r = some (.int x) ∧ (x.toInt = siF (fun k : Nat => isI (fv Po (rv Po 2 k) 0).toInt t1.toInt) (fv Po 1 1).toInt.toNat ∧ 0 ≤ x.toInt ∧ x.toInt ≤ 8)) ∧ P' = Po) := by
  refine EvP.of qm_111 (Nat.le_of_ble_eq_true rfl) rfl ?_
  show MEvP _ none q_111 0 [(0, .ref 1), (1, .int t1)] [] _ 0 0 _
  have w_t1 := ti_full t1
  have g1 : (0 : Int) ≤ (fv Po 1 1).toInt ∧ (fv Po 1 1).toInt ≤ 8 := Typ.rng hT rl_1 (by decide) (by decide) rfl
  refine mp_a (a_iconst (v := 0) dX5_countOfKind_0 rfl) (mpp 1 rfl ?_)
  refine mp_a (a_istore_n (L' := [(2, .int 0), (0, .ref 1), (1, .int t1)]) dX5_countOfKind_1 (by decide) rfl) (mpp 2 rfl ?_)
  refine mp_a (a_iconst (v := 0) dX5_countOfKind_2 rfl) (mpp 3 rfl ?_)
  refine mp_a (a_istore_n (L' := [(3, .int 0), (2, .int 0), (0, .ref 1), (1, .int t1)]) dX5_countOfKind_3 (by decide) rfl) (mpp 4 rfl ?_)
  refine MEvP.less (L := [(0, .ref 1), (1, .int t1), (2, .int 0), (3, .int 0)]) rfl rfl ⟨rfl, rfl, rfl, rfl, trivial⟩ ?_
  have i2 : (0 : Int) = siF (fun k : Nat => isI (fv Po (rv Po 2 k) 0).toInt t1.toInt) (0 : Int).toNat := rfl
  have i3 : (0 : Int) ≤ (fv Po 1 1).toInt := by omega
  have i4 : 0 ≤ (0 : Int) := by omega
  have i5 : (0 : Int) ≤ 1 * (0 : Int) := by omega
  have i6 : 0 ≤ (0 : Int) := by omega
  exact c_CS_countOfKind_NState_l4 hT hX   _ _ _ i2 i3 i4 i5 i6 rfl

