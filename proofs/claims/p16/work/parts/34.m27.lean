/-! methods on typed pools, 27 (written by a program) -/
set_option maxHeartbeats 4000000 in
theorem c_M_laysCreases {Po : mP} {t1 : Int32} {t2 : Int32} (hT : Typ Po)  (hp0 : 0 ≤ t2.toInt) (hp1 : t2.toInt ≤ 8)  : EvP 2 132 [.ref 301, .int t1, .int t2] Po (fun r P' => (∃ x : Int32, r = some (.int x) ∧ (0 ≤ x.toInt ∧ x.toInt ≤ 1 ∧ ((x.toInt = 1 ∧ okCr t1.toInt t2.toInt.toNat ∧ ∀ j : Nat, j < t2.toInt.toNat → fv P' 307 j = dgI t1.toInt t2.toInt.toNat j) ∨ (x.toInt = 0 ∧ ¬ okCr t1.toInt t2.toInt.toNat)))) ∧ Typ P' ∧ KW [1472] Po P' ∧ True) := by
  refine EvP.of qm_132 (Nat.le_of_ble_eq_true rfl) rfl ?_
  show MEvP _ none q_132 0 [(0, .ref 301), (1, .int t1), (2, .int t2)] [] _ 0 0 _
  have w_t1 := ti_full t1
  have w_t2 := ti_full t2
  refine mp_a (a_iload_n dX7_laysCreases_0 rfl) (mpp 1 rfl ?_)
  refine mp_Tb (t := 12) (j_if_lt dX7_laysCreases_1) (by decide) (fun c1 => ?_) (fun c1 => mpp 4 rfl ?_)
  · have c1 : t1.toInt < 0 := ti_lt c1
    refine mp_a (a_iconst (v := 0) dX7_laysCreases_12 rfl) (mpp 13 rfl ?_)
    have u2 : 0 ≤ (0 : Int) ∧ (0 : Int) ≤ 1 ∧ (((0 : Int) = 1 ∧ okCr t1.toInt t2.toInt.toNat ∧ ∀ j : Nat, j < t2.toInt.toNat → fv Po 307 j = dgI t1.toInt t2.toInt.toNat j) ∨ ((0 : Int) = 0 ∧ ¬ okCr t1.toInt t2.toInt.toNat)) := ⟨by omega, by omega, Or.inr ⟨rfl, fun h => by have := h.1; omega⟩⟩
    exact mp_iret ⟨⟨_, rfl, u2⟩, hT, KW.refl, trivial⟩ dX7_laysCreases_13 (Or.inr ⟨rfl, by decide⟩)
  · have c1 : t1.toInt ≥ 0 := ti_lt_n c1
    refine mp_a (a_iload_n dX7_laysCreases_4 rfl) (mpp 5 rfl ?_)
    have p3 : 0 ≤ t1.toInt := by omega
    refine mp_calls (i := 95) (q' := q_129) (As := [.int t1]) (rest := []) dX7_laysCreases_5 rfl qm_129 (by decide) rfl (Nat.le_of_ble_eq_true rfl) rfl ⟨rfl, rfl⟩ ⟨Nat.le_of_ble_eq_true rfl, Nat.le_of_ble_eq_true rfl⟩ (EvP.mono (by decide) (c_M_digits hT p3 )) (fun r4 P5 g6 => mpp 8 rfl ?_)
    obtain ⟨⟨x7, rfl, g8⟩, e9⟩ := g6
    have e9 := e9.symm
    subst e9
    have wx7 := ti_full x7
    replace g8 : NDG t1.toInt x7.toInt.toNat ∧ 0 ≤ x7.toInt ∧ x7.toInt ≤ 10 := g8
    show MEvP _ none q_132 8 [(0, .ref 301), (1, .int t1), (2, .int t2)] [.int x7] _ _ _ _
    refine mp_a (a_iload_n dX7_laysCreases_8 rfl) (mpp 9 rfl ?_)
    refine mp_Tb (t := 14) (j_icmp_le dX7_laysCreases_9) (by decide) (fun c10 => ?_) (fun c10 => mpp 12 rfl ?_)
    · have c10 : x7.toInt ≤ t2.toInt := ti_le c10
      refine mp_a (a_iload_n dX7_laysCreases_14 rfl) (mpp 15 rfl ?_)
      refine mp_a (a_istore_n (L' := [(3, .int t1), (0, .ref 301), (1, .int t1), (2, .int t2)]) dX7_laysCreases_15 (by decide) rfl) (mpp 16 rfl ?_)
      refine mp_a (a_iconst (v := 1) dX7_laysCreases_16 rfl) (mpp 17 rfl ?_)
      refine mp_a (a_istore (L' := [(4, .int 1), (3, .int t1), (0, .ref 301), (1, .int t1), (2, .int t2)]) dX7_laysCreases_17 (by decide) rfl) (mpp 19 rfl ?_)
      refine mp_a (a_iload_n dX7_laysCreases_19 rfl) (mpp 20 rfl ?_)
      refine mp_a (a_iconst (v := 1) dX7_laysCreases_20 rfl) (mpp 21 rfl ?_)
      obtain ⟨z11, h12⟩ := ti_ex (t2 - 1 : Int32)
      have wz11 := ti_full z11
      refine mp_t (s_isub (v := z11) dX7_laysCreases_21 h12) (mpp 22 rfl ?_)
      try have e13 : z11.toInt = t2.toInt - 1 := ti_subz h12 rfl rfl (by omega) (by omega)
      refine mp_a (a_istore (L' := [(5, .int z11), (4, .int 1), (3, .int t1), (0, .ref 301), (1, .int t1), (2, .int t2)]) dX7_laysCreases_22 (by decide) rfl) (mpp 24 rfl ?_)
      refine MEvP.less (L := [(0, .ref 301), (1, .int t1), (2, .int t2), (3, .int t1), (4, .int 1), (5, .int z11)]) rfl rfl ⟨rfl, rfl, rfl, rfl, rfl, rfl, trivial⟩ ?_
      have i14 : 0 ≤ t1.toInt ∧ dvF t1.toInt t2.toInt.toNat = 0 := ⟨by omega, by have q := dvF_0 g8.1.1 (t2.toInt - x7.toInt).toNat; rw [show x7.toInt.toNat + (t2.toInt - x7.toInt).toNat = t2.toInt.toNat from by omega] at q; exact q⟩
      have i15 : t1.toInt = dvF t1.toInt (t2.toInt - 1 - z11.toInt).toNat := by rw [show (t2.toInt - 1 - z11.toInt).toNat = 0 from by omega]; rfl
      have i16 : (-1) ≤ z11.toInt ∧ z11.toInt ≤ t2.toInt - 1 := by omega
      have i17 : DGR Po 307 t1.toInt t2.toInt.toNat z11.toInt := DGR.start (by omega)
      have i18 : ((1 : Int) = 1 ∧ SM2 t1.toInt t2.toInt.toNat z11.toInt) ∨ ((1 : Int) = 0 ∧ ¬ okCr t1.toInt t2.toInt.toNat) := Or.inl ⟨rfl, SM2.start (by omega)⟩
      exact c_M_laysCreases_l24   hp0 hp1 _ _ _ _ Po hT KW.refl i14 i15 i16 i17 i18 rfl
    · have c10 : x7.toInt > t2.toInt := ti_le_n c10
      refine mp_a (a_iconst (v := 0) dX7_laysCreases_12 rfl) (mpp 13 rfl ?_)
      have u19 : 0 ≤ (0 : Int) ∧ (0 : Int) ≤ 1 ∧ (((0 : Int) = 1 ∧ okCr t1.toInt t2.toInt.toNat ∧ ∀ j : Nat, j < t2.toInt.toNat → fv Po 307 j = dgI t1.toInt t2.toInt.toNat j) ∨ ((0 : Int) = 0 ∧ ¬ okCr t1.toInt t2.toInt.toNat)) := ⟨by omega, by omega, Or.inr ⟨rfl, fun h => by have o1 := g8.1.2 t2.toInt.toNat (by omega); have o2 := h.2.1; omega⟩⟩
      exact mp_iret ⟨⟨_, rfl, u19⟩, hT, KW.refl, trivial⟩ dX7_laysCreases_13 (Or.inr ⟨rfl, by decide⟩)

set_option maxHeartbeats 4000000 in
theorem c_M_creases {Po : mP} {t1 : Int32} (hT : Typ Po)  (hp0 : 0 ≤ t1.toInt) (hp1 : t1.toInt ≤ 7)  : EvP 4 136 [.ref 301, .int t1] Po (fun r P' => (∃ x : Int32, r = some (.int x) ∧ (-1 ≤ x.toInt ∧ x.toInt ≤ 8 ∧ (((fv Po 302 (3 + 19 * t1.toInt.toNat)).toInt = 1 ∧ x.toInt = (fv Po 302 (4 + 19 * t1.toInt.toNat)).toInt) ∨ ((fv Po 302 (3 + 19 * t1.toInt.toNat)).toInt = 0 ∧ x.toInt = (fv Po 302 (4 + 19 * t1.toInt.toNat)).toInt - 1)))) ∧ P' = Po) := by
  refine EvP.of qm_136 (Nat.le_of_ble_eq_true rfl) rfl ?_
  show MEvP _ none q_136 0 [(0, .ref 301), (1, .int t1)] [] _ 0 0 _
  have w_t1 := ti_full t1
  try have g1 : (0 : Int) ≤ (fv Po 302 (3 + 19 * t1.toInt.toNat)).toInt ∧ (fv Po 302 (3 + 19 * t1.toInt.toNat)).toInt ≤ 1 := s3_rng hT (by omega)
  try have g2 : (0 : Int) ≤ (fv Po 302 (4 + 19 * t1.toInt.toNat)).toInt ∧ (fv Po 302 (4 + 19 * t1.toInt.toNat)).toInt ≤ 8 := s4_rng hT (by omega)
  refine mp_a (a_aload_n dX7_creases_0 rfl) (mpp 1 rfl ?_)
  refine mp_a (a_iload_n dX7_creases_1 rfl) (mpp 2 rfl ?_)
  refine mp_a (a_iconst (v := 1) dX7_creases_2 rfl) (mpp 3 rfl ?_)
  have p3 : 0 ≤ t1.toInt := by omega
  have p4 : t1.toInt ≤ 7 := by omega
  have p5 : 0 ≤ (1 : Int) := by omega
  have p6 : (1 : Int) ≤ 18 := by omega
  refine mt_callv (i := 78) (q' := q_137) (As := [.int t1, .int 1]) (rest := []) hT dX7_creases_3 rfl qm_137 (by decide) rfl rl_301 (by decide) rfl (Nat.le_of_ble_eq_true rfl) rfl ⟨rfl, rfl⟩ ⟨Nat.le_of_ble_eq_true rfl, Nat.le_of_ble_eq_true rfl⟩ (EvP.mono (by decide) (c_M_of_c1 hT p3 p4 p5 p6 )) (fun r7 P8 g9 => mpp 6 rfl ?_)
  obtain ⟨⟨x10, rfl, g11⟩, e12⟩ := g9
  have e12 := e12.symm
  subst e12
  have wx10 := ti_full x10
  replace g11 : x10.toInt = (fv Po 302 (4 + 19 * t1.toInt.toNat)).toInt ∧ 0 ≤ x10.toInt ∧ x10.toInt ≤ 8 := g11
  show MEvP _ none q_136 6 [(0, .ref 301), (1, .int t1)] [.int x10] _ _ _ _
  refine mp_a (a_aload_n dX7_creases_6 rfl) (mpp 7 rfl ?_)
  refine mp_a (a_iload_n dX7_creases_7 rfl) (mpp 8 rfl ?_)
  have p13 : 0 ≤ t1.toInt := by omega
  have p14 : t1.toInt ≤ 7 := by omega
  refine mt_callv (i := 81) (q' := q_138) (As := [.int t1]) (rest := [.int x10]) hT dX7_creases_8 rfl qm_138 (by decide) rfl rl_301 (by decide) rfl (Nat.le_of_ble_eq_true rfl) rfl ⟨rfl, rfl⟩ ⟨Nat.le_of_ble_eq_true rfl, Nat.le_of_ble_eq_true rfl⟩ (EvP.mono (by decide) (c_M_isCorner hT p13 p14 )) (fun r15 P16 g17 => mpp 11 rfl ?_)
  obtain ⟨⟨x18, rfl, g19⟩, e20⟩ := g17
  have e20 := e20.symm
  subst e20
  have wx18 := ti_full x18
  replace g19 : 0 ≤ x18.toInt ∧ x18.toInt ≤ 1 ∧ ((x18.toInt = 1 ∧ (fv Po 302 (3 + 19 * t1.toInt.toNat)).toInt = 1) ∨ (x18.toInt = 0 ∧ (fv Po 302 (3 + 19 * t1.toInt.toNat)).toInt = 0)) := g19
  show MEvP _ none q_136 11 [(0, .ref 301), (1, .int t1)] [.int x18, .int x10] _ _ _ _
  refine mp_Tb (t := 18) (j_if_eq dX7_creases_11) (by decide) (fun c21 => ?_) (fun c21 => mpp 14 rfl ?_)
  · have c21 : x18.toInt = 0 := ti_eq c21
    refine mp_a (a_iconst (v := 1) dX7_creases_18 rfl) (mpp 19 rfl ?_)
    obtain ⟨z22, h23⟩ := ti_ex (x10 - 1 : Int32)
    have wz22 := ti_full z22
    refine mp_t (s_isub (v := z22) dX7_creases_19 h23) (mpp 20 rfl ?_)
    try have e24 : z22.toInt = x10.toInt - 1 := ti_subz h23 rfl rfl (by omega) (by omega)
    have u25 : -1 ≤ z22.toInt ∧ z22.toInt ≤ 8 ∧ (((fv Po 302 (3 + 19 * t1.toInt.toNat)).toInt = 1 ∧ z22.toInt = (fv Po 302 (4 + 19 * t1.toInt.toNat)).toInt) ∨ ((fv Po 302 (3 + 19 * t1.toInt.toNat)).toInt = 0 ∧ z22.toInt = (fv Po 302 (4 + 19 * t1.toInt.toNat)).toInt - 1)) := by omega
    exact mp_iret ⟨⟨_, rfl, u25⟩, rfl⟩ dX7_creases_20 (Or.inl rfl)
  · have c21 : x18.toInt ≠ 0 := ti_eq_n c21
    refine mp_a (a_iconst (v := 0) dX7_creases_14 rfl) (mpp 15 rfl ?_)
    refine mp_a (a_goto (t := 19) dX7_creases_15 (by decide)) ?_
    obtain ⟨z26, h27⟩ := ti_ex (x10 - 0 : Int32)
    have wz26 := ti_full z26
    refine mp_t (s_isub (v := z26) dX7_creases_19 h27) (mpp 20 rfl ?_)
    try have e28 : z26.toInt = x10.toInt - 0 := ti_subz h27 rfl rfl (by omega) (by omega)
    have u29 : -1 ≤ z26.toInt ∧ z26.toInt ≤ 8 ∧ (((fv Po 302 (3 + 19 * t1.toInt.toNat)).toInt = 1 ∧ z26.toInt = (fv Po 302 (4 + 19 * t1.toInt.toNat)).toInt) ∨ ((fv Po 302 (3 + 19 * t1.toInt.toNat)).toInt = 0 ∧ z26.toInt = (fv Po 302 (4 + 19 * t1.toInt.toNat)).toInt - 1)) := by omega
    exact mp_iret ⟨⟨_, rfl, u29⟩, rfl⟩ dX7_creases_20 (Or.inl rfl)

set_option maxHeartbeats 4000000 in
theorem c_M_adds_l72 {Po : mP} {t1 : Int32} {t2 : Int32} (hp0 : 0 ≤ t1.toInt) (hp1 : t1.toInt ≤ 1) (hp2 : 2 ≤ t2.toInt) (hp3 : t2.toInt ≤ 8) (hp4 : t1.toInt ≠ 0 ∨ t2.toInt ≤ 7)  : ∀ (n : Nat) (v3 : Int32) (v4 : Int32), ∀ (P : mP), Typ P → KW [1093, 1094, 1152] Po P → Rel P → (0 ≤ v3.toInt) → (v3.toInt ≤ 7) → (W2 Po P (fun j : Nat => j = 0 ∨ (3 + 19 * (fv Po 302 0).toInt.toNat ≤ j ∧ j < 6 + 19 * (fv Po 302 0).toInt.toNat)) (6 + 19 * (fv Po 302 0).toInt.toNat) (14 + 19 * (fv Po 302 0).toInt.toNat) (fun j : Nat => if (j : Int) < t2.toInt then fv Po 306 j else 0) (fun j : Nat => if (j : Int) < (nC t1.toInt t2.toInt : Nat) then fv Po 307 j else 0) v4.toInt.toNat v4.toInt.toNat) → ((fv P 302 (3 + 19 * v3.toInt.toNat)).toInt = t1.toInt ∧ (fv P 302 (4 + 19 * v3.toInt.toNat)).toInt = t2.toInt ∧ (fv P 302 (5 + 19 * v3.toInt.toNat)).toInt = 0) → (v3.toInt = (fv Po 302 0).toInt ∧ (fv P 302 0).toInt = (fv Po 302 0).toInt + 1) → (v4.toInt ≤ 8) → (∀ j : Nat, fv P 306 j = fv Po 306 j ∧ fv P 307 j = fv Po 307 j) → (0 ≤ v4.toInt) → (2147483647 - v4.toInt).toNat = n → MEvP 4 none q_133 72 [(0, .ref 301), (1, .int t1), (2, .int t2), (3, .int v3), (4, .int v4)] [] P 0 0 (fun r P' => (∃ x : Int32, r = some (.int x) ∧ (addsM (sr Po) (sr P') (fun j : Nat => fv Po 306 j) (fun j : Nat => fv Po 307 j) x.toInt t1.toInt t2.toInt)) ∧ Typ P' ∧ KW [1093, 1094, 1152] Po P' ∧ Rel P') := by
  intro n
  induction n using Nat.strongRecOn with | _ n ih => ?_
  intro v3 v4 P hT hK hR i_0 i_1 i_2 i_3 i_4 i_5 i_6 i_7 hm
  have w_t1 := ti_full t1
  have w_t2 := ti_full t2
  have w_v3 := ti_full v3
  have w_v4 := ti_full v4
  try have g1 : (0 : Int) ≤ (fv P 302 (3 + 19 * v3.toInt.toNat)).toInt ∧ (fv P 302 (3 + 19 * v3.toInt.toNat)).toInt ≤ 1 := s3_rng hT (by omega)
  try have g2 : (0 : Int) ≤ (fv P 302 (3 + 19 * v3.toInt.toNat)).toInt ∧ (fv P 302 (3 + 19 * v3.toInt.toNat)).toInt ≤ 1 := s3_rng hT (by omega)
  try have g3 : (0 : Int) ≤ (fv P 302 (4 + 19 * v3.toInt.toNat)).toInt ∧ (fv P 302 (4 + 19 * v3.toInt.toNat)).toInt ≤ 8 := s4_rng hT (by omega)
  try have g4 : (0 : Int) ≤ (fv P 302 (4 + 19 * v3.toInt.toNat)).toInt ∧ (fv P 302 (4 + 19 * v3.toInt.toNat)).toInt ≤ 8 := s4_rng hT (by omega)
  have g5 := ti_full (fv P 302 (5 + 19 * v3.toInt.toNat))
  have g6 := ti_full (fv P 302 (5 + 19 * v3.toInt.toNat))
  have g7 : (0 : Int) ≤ (fv P 302 0).toInt ∧ (fv P 302 0).toInt ≤ 8 := Typ.rng hT rl_302 (by decide) (by decide) rfl
  have g8 : (0 : Int) ≤ (fv P 302 0).toInt ∧ (fv P 302 0).toInt ≤ 8 := Typ.rng hT rl_302 (by decide) (by decide) rfl
  refine mp_a (a_iload dX7_adds_72 rfl) (mpp 74 rfl ?_)
  refine mp_a (a_bipush (v := 8) dX7_adds_74 rfl) (mpp 76 rfl ?_)
  refine mp_Tb (t := 150) (j_icmp_ge dX7_adds_76) (by decide) (fun c9 => ?_) (fun c9 => mpp 79 rfl ?_)
  · have c9 : v4.toInt ≥ 8 := ti_ge c9
    refine mp_a (a_iload_n dX7_adds_150 rfl) (mpp 151 rfl ?_)
    have u10 : addsM (sr Po) (sr P) (fun j : Nat => fv Po 306 j) (fun j : Nat => fv Po 307 j) v3.toInt t1.toInt t2.toInt := (show (v3.toInt = -1003 ∧ 8 ≤ (fv Po 302 (0)).toInt ∧ (∀ j : Nat, fv P 302 j = fv Po 302 j)) ∨ ((fv Po 302 (0)).toInt ≤ 7 ∧ v3.toInt = (fv Po 302 (0)).toInt ∧ (fv P 302 (0)).toInt = (fv Po 302 (0)).toInt + 1 ∧ (fv P 302 (3 + 19 * ((fv Po 302 (0)).toInt).toNat)).toInt = t1.toInt ∧ (fv P 302 (4 + 19 * ((fv Po 302 (0)).toInt).toNat)).toInt = t2.toInt ∧ (fv P 302 (5 + 19 * ((fv Po 302 (0)).toInt).toNat)).toInt = 0 ∧ (∀ k : Nat, k < 8 → (k : Int) < t2.toInt → fv P 302 (6 + 19 * ((fv Po 302 (0)).toInt).toNat + k) = (fun j : Nat => fv Po 306 j) k) ∧ (∀ k : Nat, k < 8 → k < nC t1.toInt t2.toInt → fv P 302 (14 + 19 * ((fv Po 302 (0)).toInt).toNat + k) = (fun j : Nat => fv Po 307 j) k) ∧ (∀ j : Nat, ¬ j = 0 → (j < 3 + 19 * ((fv Po 302 (0)).toInt).toNat ∨ 22 + 19 * ((fv Po 302 (0)).toInt).toNat ≤ j) → fv P 302 j = fv Po 302 j)) from Or.inr (⟨by omega, by omega, by omega, (congrArg (fun k => (fv P 302 k).toInt) (by omega)).trans i_3.1, (congrArg (fun k => (fv P 302 k).toInt) (by omega)).trans i_3.2.1, (congrArg (fun k => (fv P 302 k).toInt) (by omega)).trans i_3.2.2, fun k hk h2 => (i_2.1 k (by omega)).trans (if_pos h2), fun k hk h2 => (i_2.2.1 k (by omega)).trans (if_pos (by omega)), fun j h1 h2 => i_2.2.2 j (by omega) (by omega) (by omega)⟩))
    exact mp_iret ⟨⟨_, rfl, u10⟩, hT, hK, hR⟩ dX7_adds_151 (Or.inl rfl)
  · have c9 : v4.toInt < 8 := ti_ge_n c9
    refine mp_a (a_aload_n dX7_adds_79 rfl) (mpp 80 rfl ?_)
    refine mt_getU (i := 9) (k := 0) (A := 302) hT dX7_adds_80 rfl rl_301 (by decide) rfl (by decide) rfl un_18 (mpp 83 rfl ?_)
    refine mp_a (a_iload_n dX7_adds_83 rfl) (mpp 84 rfl ?_)
    refine mp_a (a_iconst (v := 3) dX7_adds_84 rfl) (mpp 85 rfl ?_)
    refine mp_a (a_iload dX7_adds_85 rfl) (mpp 87 rfl ?_)
    obtain ⟨z11, h12⟩ := ti_ex (3 + v4 : Int32)
    have wz11 := ti_full z11
    refine mp_t (s_iadd (v := z11) dX7_adds_87 h12) (mpp 88 rfl ?_)
    try have e13 : z11.toInt = 3 + v4.toInt := ti_addz h12 rfl rfl (by omega) (by omega)
    have p14 : 0 ≤ v3.toInt := by omega
    have p15 : v3.toInt ≤ 8 := by omega
    have p16 : 0 ≤ z11.toInt := by omega
    have p17 : z11.toInt ≤ 20 := by omega
    refine mp_calls (i := 74) (q' := q_135) (As := [.int v3, .int z11]) (rest := [.ref 302]) dX7_adds_88 rfl qm_135 (by decide) rfl (Nat.le_of_ble_eq_true rfl) rfl ⟨rfl, rfl⟩ ⟨Nat.le_of_ble_eq_true rfl, Nat.le_of_ble_eq_true rfl⟩ (EvP.mono (by decide) (c_M_at hT p14 p15 p16 p17 )) (fun r18 P19 g20 => mpp 91 rfl ?_)
    obtain ⟨⟨x21, rfl, g22⟩, e23⟩ := g20
    have e23 := e23.symm
    subst e23
    have wx21 := ti_full x21
    replace g22 : x21.toInt = 3 + 19 * v3.toInt + z11.toInt := g22
    show MEvP _ none q_133 91 [(0, .ref 301), (1, .int t1), (2, .int t2), (3, .int v3), (4, .int v4)] [.int x21, .ref 302] _ _ _ _
    refine mp_a (a_iload dX7_adds_91 rfl) (mpp 93 rfl ?_)
    refine mp_a (a_iload_n dX7_adds_93 rfl) (mpp 94 rfl ?_)
    refine mp_Tb (t := 107) (j_icmp_ge dX7_adds_94) (by decide) (fun c24 => ?_) (fun c24 => mpp 97 rfl ?_)
    · have c24 : v4.toInt ≥ t2.toInt := ti_ge c24
      refine mp_a (a_iconst (v := 0) dX7_adds_107 rfl) (mpp 108 rfl ?_)
      refine mt_iasX (n := 155) hT dX7_adds_108 rl_302 (by decide) rfl rfl (by omega) (by omega) ssp_0 (okS_mk (by omega) (fun _ => ⟨by omega, by omega⟩) (fun _ => ⟨by omega, by omega⟩)) (fun P25 hT26 f27 f28 f29 => mpp 109 rfl ?_)
      have k30 : KW [1093, 1094, 1152] Po P25 := KW.step hK rl_302 rfl f28 f29
      have R31 := Rel.oth hR f28 (by omega)
      refine mp_a (a_aload_n dX7_adds_109 rfl) (mpp 110 rfl ?_)
      refine mt_getU (i := 9) (k := 0) (A := 302) hT26 dX7_adds_110 rfl rl_301 (by decide) rfl (by decide) rfl un_18 (mpp 113 rfl ?_)
      refine mp_a (a_iload_n dX7_adds_113 rfl) (mpp 114 rfl ?_)
      refine mp_a (a_bipush (v := 11) dX7_adds_114 rfl) (mpp 116 rfl ?_)
      refine mp_a (a_iload dX7_adds_116 rfl) (mpp 118 rfl ?_)
      obtain ⟨z32, h33⟩ := ti_ex (11 + v4 : Int32)
      have wz32 := ti_full z32
      refine mp_t (s_iadd (v := z32) dX7_adds_118 h33) (mpp 119 rfl ?_)
      try have e34 : z32.toInt = 11 + v4.toInt := ti_addz h33 rfl rfl (by omega) (by omega)
      have p35 : 0 ≤ v3.toInt := by omega
      have p36 : v3.toInt ≤ 8 := by omega
      have p37 : 0 ≤ z32.toInt := by omega
      have p38 : z32.toInt ≤ 20 := by omega
      refine mp_calls (i := 74) (q' := q_135) (As := [.int v3, .int z32]) (rest := [.ref 302]) dX7_adds_119 rfl qm_135 (by decide) rfl (Nat.le_of_ble_eq_true rfl) rfl ⟨rfl, rfl⟩ ⟨Nat.le_of_ble_eq_true rfl, Nat.le_of_ble_eq_true rfl⟩ (EvP.mono (by decide) (c_M_at hT26 p35 p36 p37 p38 )) (fun r39 P40 g41 => mpp 122 rfl ?_)
      obtain ⟨⟨x42, rfl, g43⟩, e44⟩ := g41
      have e44 := e44.symm
      subst e44
      have wx42 := ti_full x42
      replace g43 : x42.toInt = 3 + 19 * v3.toInt + z32.toInt := g43
      show MEvP _ none q_133 122 [(0, .ref 301), (1, .int t1), (2, .int t2), (3, .int v3), (4, .int v4)] [.int x42, .ref 302] _ _ _ _
      refine mp_a (a_iload dX7_adds_122 rfl) (mpp 124 rfl ?_)
      refine mp_a (a_aload_n dX7_adds_124 rfl) (mpp 125 rfl ?_)
      refine mp_a (a_iload_n dX7_adds_125 rfl) (mpp 126 rfl ?_)
      have p45 : 0 ≤ v3.toInt := by omega
      have p46 : v3.toInt ≤ 7 := by omega
      refine mt_callv (i := 88) (q' := q_136) (As := [.int v3]) (rest := [.int v4, .int x42, .ref 302]) hT26 dX7_adds_126 rfl qm_136 (by decide) rfl rl_301 (by decide) rfl (Nat.le_of_ble_eq_true rfl) rfl ⟨rfl, rfl⟩ ⟨Nat.le_of_ble_eq_true rfl, Nat.le_of_ble_eq_true rfl⟩ (EvP.mono (by decide) (c_M_creases hT26 p45 p46 )) (fun r47 P48 g49 => mpp 129 rfl ?_)
      obtain ⟨⟨x50, rfl, g51⟩, e52⟩ := g49
      have e52 := e52.symm
      subst e52
      have wx50 := ti_full x50
      replace g51 : -1 ≤ x50.toInt ∧ x50.toInt ≤ 8 ∧ (((fv P25 302 (3 + 19 * v3.toInt.toNat)).toInt = 1 ∧ x50.toInt = (fv P25 302 (4 + 19 * v3.toInt.toNat)).toInt) ∨ ((fv P25 302 (3 + 19 * v3.toInt.toNat)).toInt = 0 ∧ x50.toInt = (fv P25 302 (4 + 19 * v3.toInt.toNat)).toInt - 1)) := g51
      try have g53 : (0 : Int) ≤ (fv P25 302 (3 + 19 * v3.toInt.toNat)).toInt ∧ (fv P25 302 (3 + 19 * v3.toInt.toNat)).toInt ≤ 1 := s3_rng hT26 (by omega)
      try have e54 : (fv P25 302 (3 + 19 * v3.toInt.toNat)).toInt = (fv P 302 (3 + 19 * v3.toInt.toNat)).toInt := congrArg Int32.toInt (f28 302 (3 + 19 * v3.toInt.toNat) (ne_i (by omega)))
      try have g55 : (0 : Int) ≤ (fv P25 302 (4 + 19 * v3.toInt.toNat)).toInt ∧ (fv P25 302 (4 + 19 * v3.toInt.toNat)).toInt ≤ 8 := s4_rng hT26 (by omega)
      try have e56 : (fv P25 302 (4 + 19 * v3.toInt.toNat)).toInt = (fv P 302 (4 + 19 * v3.toInt.toNat)).toInt := congrArg Int32.toInt (f28 302 (4 + 19 * v3.toInt.toNat) (ne_i (by omega)))
      show MEvP _ none q_133 129 [(0, .ref 301), (1, .int t1), (2, .int t2), (3, .int v3), (4, .int v4)] [.int x50, .int v4, .int x42, .ref 302] _ _ _ _
      refine mp_Tb (t := 142) (j_icmp_ge dX7_adds_129) (by decide) (fun c57 => ?_) (fun c57 => mpp 132 rfl ?_)
      · have c57 : v4.toInt ≥ x50.toInt := ti_ge c57
        refine mp_a (a_iconst (v := 0) dX7_adds_142 rfl) (mpp 143 rfl ?_)
        refine mt_iasX (n := 155) hT26 dX7_adds_143 rl_302 (by decide) rfl rfl (by omega) (by omega) ssp_0 (okS_mk (by omega) (fun _ => ⟨by omega, by omega⟩) (fun _ => ⟨by omega, by omega⟩)) (fun P58 hT59 f60 f61 f62 => mpp 144 rfl ?_)
        have k63 : KW [1093, 1094, 1152] Po P58 := KW.step k30 rl_302 rfl f61 f62
        have R64 := Rel.oth R31 f61 (by omega)
        obtain ⟨z65, h66⟩ := ti_ex (v4 + 1 : Int32)
        have wz65 := ti_full z65
        refine mp_a (a_iinc (v := z65) (L' := [(4, .int z65), (0, .ref 301), (1, .int t1), (2, .int t2), (3, .int v3)]) dX7_adds_144 (by decide) rfl h66 rfl) (mpp 147 rfl ?_)
        try have e67 : z65.toInt = v4.toInt + 1 := ti_addz h66 rfl rfl (by omega) (by omega)
        refine mp_a (a_goto (t := 72) dX7_adds_147 (by decide)) ?_
        refine MEvP.less (L := [(0, .ref 301), (1, .int t1), (2, .int t2), (3, .int v3), (4, .int z65)]) rfl rfl ⟨rfl, rfl, rfl, rfl, rfl, trivial⟩ ?_
        have i68 : 0 ≤ v3.toInt := by omega
        have i69 : v3.toInt ≤ 7 := by omega
        have w71_n : ((nC t1.toInt t2.toInt : Nat) : Int) = if t1.toInt = 0 then t2.toInt - 1 else t2.toInt := by unfold nC; split <;> omega
        have w71_m : (t1.toInt = 0 ∧ ((nC t1.toInt t2.toInt : Nat) : Int) = t2.toInt - 1) ∨ (t1.toInt = 1 ∧ ((nC t1.toInt t2.toInt : Nat) : Int) = t2.toInt) := by split at w71_n <;> omega
        have w71_ := W2.one i_2 (i' := v4.toInt.toNat + 1) rfl (n := x21.toInt.toNat) (by omega) (congrArg Int32.toInt f27) (by show _ = (if ((v4.toInt.toNat : Nat) : Int) < t2.toInt then fv Po 306 v4.toInt.toNat else 0 : Int32).toInt; rw [if_neg (by omega)]) (fun j hj => f28 302 j (fun e => hj e.2)) (Or.inl (by omega))
        have i70 : W2 Po P58 (fun j : Nat => j = 0 ∨ (3 + 19 * (fv Po 302 0).toInt.toNat ≤ j ∧ j < 6 + 19 * (fv Po 302 0).toInt.toNat)) (6 + 19 * (fv Po 302 0).toInt.toNat) (14 + 19 * (fv Po 302 0).toInt.toNat) (fun j : Nat => if (j : Int) < t2.toInt then fv Po 306 j else 0) (fun j : Nat => if (j : Int) < (nC t1.toInt t2.toInt : Nat) then fv Po 307 j else 0) z65.toInt.toNat z65.toInt.toNat := (W2.two w71_ (k' := v4.toInt.toNat + 1) rfl (n := x42.toInt.toNat) (by omega) (congrArg Int32.toInt f60) (by show _ = (if ((v4.toInt.toNat : Nat) : Int) < (nC t1.toInt t2.toInt : Nat) then fv Po 307 v4.toInt.toNat else 0 : Int32).toInt; rw [if_neg (by omega)]) (fun j hj => f61 302 j (fun e => hj e.2)) (Or.inr (by omega))).fin (by omega) (by omega)
        try have g72 : (0 : Int) ≤ (fv P58 302 (3 + 19 * v3.toInt.toNat)).toInt ∧ (fv P58 302 (3 + 19 * v3.toInt.toNat)).toInt ≤ 1 := s3_rng hT59 (by omega)
        try have e73 : (fv P58 302 (3 + 19 * v3.toInt.toNat)).toInt = (fv P25 302 (3 + 19 * v3.toInt.toNat)).toInt := congrArg Int32.toInt (f61 302 (3 + 19 * v3.toInt.toNat) (ne_i (by omega)))
        try have g74 : (0 : Int) ≤ (fv P58 302 (4 + 19 * v3.toInt.toNat)).toInt ∧ (fv P58 302 (4 + 19 * v3.toInt.toNat)).toInt ≤ 8 := s4_rng hT59 (by omega)
        try have e75 : (fv P58 302 (4 + 19 * v3.toInt.toNat)).toInt = (fv P25 302 (4 + 19 * v3.toInt.toNat)).toInt := congrArg Int32.toInt (f61 302 (4 + 19 * v3.toInt.toNat) (ne_i (by omega)))
        have g76 := ti_full (fv P58 302 (5 + 19 * v3.toInt.toNat))
        try have e77 : (fv P58 302 (5 + 19 * v3.toInt.toNat)).toInt = (fv P 302 (5 + 19 * v3.toInt.toNat)).toInt := congrArg Int32.toInt ((f61 302 (5 + 19 * v3.toInt.toNat) (ne_i (by omega))).trans (f28 302 (5 + 19 * v3.toInt.toNat) (ne_i (by omega))))
        have i78 : (fv P58 302 (3 + 19 * v3.toInt.toNat)).toInt = t1.toInt ∧ (fv P58 302 (4 + 19 * v3.toInt.toNat)).toInt = t2.toInt ∧ (fv P58 302 (5 + 19 * v3.toInt.toNat)).toInt = 0 := by omega
        have e79 : (fv P58 302 0).toInt = (fv P 302 0).toInt := congrArg Int32.toInt ((f61 302 0 (ne_i (by omega))).trans (f28 302 0 (ne_i (by omega))))
        have i80 : v3.toInt = (fv Po 302 0).toInt ∧ (fv P58 302 0).toInt = (fv Po 302 0).toInt + 1 := by omega
        have i81 : z65.toInt ≤ 8 := by omega
        have i82 : ∀ j : Nat, fv P58 306 j = fv Po 306 j ∧ fv P58 307 j = fv Po 307 j := fun j => ⟨by rw [f61 306 j (by omega), f28 306 j (by omega)]; exact (i_6 j).1, by rw [f61 307 j (by omega), f28 307 j (by omega)]; exact (i_6 j).2⟩
        have i83 : 0 ≤ z65.toInt := by omega
        exact ih _ (by omega) _ _ P58 hT59 k63 R64 i68 i69 i70 i78 i80 i81 i82 i83 rfl
      · have c57 : v4.toInt < x50.toInt := ti_ge_n c57
        refine mp_a (a_aload_n dX7_adds_132 rfl) (mpp 133 rfl ?_)
        refine mt_getU (i := 25) (k := 10) (A := 307) hT26 dX7_adds_133 rfl rl_301 (by decide) rfl (by decide) rfl un_23 (mpp 136 rfl ?_)
        refine mp_a (a_iload dX7_adds_136 rfl) (mpp 138 rfl ?_)
        refine mt_ial (n := 8) hT26 dX7_adds_138 rl_307 (by decide) rfl rfl (by omega) (by omega) rfl (fun g84 g85 => mpp 139 rfl ?_)
        refine mp_a (a_goto (t := 143) dX7_adds_139 (by decide)) ?_
        refine mt_iasX (n := 155) hT26 dX7_adds_143 rl_302 (by decide) rfl rfl (by omega) (by omega) ssp_0 (okS_mk (by omega) (fun _ => ⟨by omega, by omega⟩) (fun _ => ⟨by omega, by omega⟩)) (fun P86 hT87 f88 f89 f90 => mpp 144 rfl ?_)
        have k91 : KW [1093, 1094, 1152] Po P86 := KW.step k30 rl_302 rfl f89 f90
        have R92 := Rel.oth R31 f89 (by omega)
        obtain ⟨z93, h94⟩ := ti_ex (v4 + 1 : Int32)
        have wz93 := ti_full z93
        refine mp_a (a_iinc (v := z93) (L' := [(4, .int z93), (0, .ref 301), (1, .int t1), (2, .int t2), (3, .int v3)]) dX7_adds_144 (by decide) rfl h94 rfl) (mpp 147 rfl ?_)
        try have e95 : z93.toInt = v4.toInt + 1 := ti_addz h94 rfl rfl (by omega) (by omega)
        refine mp_a (a_goto (t := 72) dX7_adds_147 (by decide)) ?_
        refine MEvP.less (L := [(0, .ref 301), (1, .int t1), (2, .int t2), (3, .int v3), (4, .int z93)]) rfl rfl ⟨rfl, rfl, rfl, rfl, rfl, trivial⟩ ?_
        have i96 : 0 ≤ v3.toInt := by omega
        have i97 : v3.toInt ≤ 7 := by omega
        have w99_n : ((nC t1.toInt t2.toInt : Nat) : Int) = if t1.toInt = 0 then t2.toInt - 1 else t2.toInt := by unfold nC; split <;> omega
        have w99_m : (t1.toInt = 0 ∧ ((nC t1.toInt t2.toInt : Nat) : Int) = t2.toInt - 1) ∨ (t1.toInt = 1 ∧ ((nC t1.toInt t2.toInt : Nat) : Int) = t2.toInt) := by split at w99_n <;> omega
        have w99_ := W2.one i_2 (i' := v4.toInt.toNat + 1) rfl (n := x21.toInt.toNat) (by omega) (congrArg Int32.toInt f27) (by show _ = (if ((v4.toInt.toNat : Nat) : Int) < t2.toInt then fv Po 306 v4.toInt.toNat else 0 : Int32).toInt; rw [if_neg (by omega)]) (fun j hj => f28 302 j (fun e => hj e.2)) (Or.inl (by omega))
        have i98 : W2 Po P86 (fun j : Nat => j = 0 ∨ (3 + 19 * (fv Po 302 0).toInt.toNat ≤ j ∧ j < 6 + 19 * (fv Po 302 0).toInt.toNat)) (6 + 19 * (fv Po 302 0).toInt.toNat) (14 + 19 * (fv Po 302 0).toInt.toNat) (fun j : Nat => if (j : Int) < t2.toInt then fv Po 306 j else 0) (fun j : Nat => if (j : Int) < (nC t1.toInt t2.toInt : Nat) then fv Po 307 j else 0) z93.toInt.toNat z93.toInt.toNat := (W2.two w99_ (k' := v4.toInt.toNat + 1) rfl (n := x42.toInt.toNat) (by omega) (congrArg Int32.toInt f88) (by show _ = (if ((v4.toInt.toNat : Nat) : Int) < (nC t1.toInt t2.toInt : Nat) then fv Po 307 v4.toInt.toNat else 0 : Int32).toInt; rw [if_pos (by omega)]; rw [f28 307 v4.toInt.toNat (by omega)]; rw [(i_6 v4.toInt.toNat).2]) (fun j hj => f89 302 j (fun e => hj e.2)) (Or.inr (by omega))).fin (by omega) (by omega)
        try have g100 : (0 : Int) ≤ (fv P86 302 (3 + 19 * v3.toInt.toNat)).toInt ∧ (fv P86 302 (3 + 19 * v3.toInt.toNat)).toInt ≤ 1 := s3_rng hT87 (by omega)
        try have e101 : (fv P86 302 (3 + 19 * v3.toInt.toNat)).toInt = (fv P25 302 (3 + 19 * v3.toInt.toNat)).toInt := congrArg Int32.toInt (f89 302 (3 + 19 * v3.toInt.toNat) (ne_i (by omega)))
        try have g102 : (0 : Int) ≤ (fv P86 302 (4 + 19 * v3.toInt.toNat)).toInt ∧ (fv P86 302 (4 + 19 * v3.toInt.toNat)).toInt ≤ 8 := s4_rng hT87 (by omega)
        try have e103 : (fv P86 302 (4 + 19 * v3.toInt.toNat)).toInt = (fv P25 302 (4 + 19 * v3.toInt.toNat)).toInt := congrArg Int32.toInt (f89 302 (4 + 19 * v3.toInt.toNat) (ne_i (by omega)))
        have g104 := ti_full (fv P86 302 (5 + 19 * v3.toInt.toNat))
        try have e105 : (fv P86 302 (5 + 19 * v3.toInt.toNat)).toInt = (fv P 302 (5 + 19 * v3.toInt.toNat)).toInt := congrArg Int32.toInt ((f89 302 (5 + 19 * v3.toInt.toNat) (ne_i (by omega))).trans (f28 302 (5 + 19 * v3.toInt.toNat) (ne_i (by omega))))
        have i106 : (fv P86 302 (3 + 19 * v3.toInt.toNat)).toInt = t1.toInt ∧ (fv P86 302 (4 + 19 * v3.toInt.toNat)).toInt = t2.toInt ∧ (fv P86 302 (5 + 19 * v3.toInt.toNat)).toInt = 0 := by omega
        have e107 : (fv P86 302 0).toInt = (fv P 302 0).toInt := congrArg Int32.toInt ((f89 302 0 (ne_i (by omega))).trans (f28 302 0 (ne_i (by omega))))
        have i108 : v3.toInt = (fv Po 302 0).toInt ∧ (fv P86 302 0).toInt = (fv Po 302 0).toInt + 1 := by omega
        have i109 : z93.toInt ≤ 8 := by omega
        have i110 : ∀ j : Nat, fv P86 306 j = fv Po 306 j ∧ fv P86 307 j = fv Po 307 j := fun j => ⟨by rw [f89 306 j (by omega), f28 306 j (by omega)]; exact (i_6 j).1, by rw [f89 307 j (by omega), f28 307 j (by omega)]; exact (i_6 j).2⟩
        have i111 : 0 ≤ z93.toInt := by omega
        exact ih _ (by omega) _ _ P86 hT87 k91 R92 i96 i97 i98 i106 i108 i109 i110 i111 rfl
    · have c24 : v4.toInt < t2.toInt := ti_ge_n c24
      refine mp_a (a_aload_n dX7_adds_97 rfl) (mpp 98 rfl ?_)
      refine mt_getU (i := 22) (k := 9) (A := 306) hT dX7_adds_98 rfl rl_301 (by decide) rfl (by decide) rfl un_22 (mpp 101 rfl ?_)
      refine mp_a (a_iload dX7_adds_101 rfl) (mpp 103 rfl ?_)
      refine mt_ial (n := 8) hT dX7_adds_103 rl_306 (by decide) rfl rfl (by omega) (by omega) rfl (fun g112 g113 => mpp 104 rfl ?_)
      refine mp_a (a_goto (t := 108) dX7_adds_104 (by decide)) ?_
      refine mt_iasX (n := 155) hT dX7_adds_108 rl_302 (by decide) rfl rfl (by omega) (by omega) ssp_0 (okS_mk (by omega) (fun _ => ⟨by omega, by omega⟩) (fun _ => ⟨by omega, by omega⟩)) (fun P114 hT115 f116 f117 f118 => mpp 109 rfl ?_)
      have k119 : KW [1093, 1094, 1152] Po P114 := KW.step hK rl_302 rfl f117 f118
      have R120 := Rel.oth hR f117 (by omega)
      refine mp_a (a_aload_n dX7_adds_109 rfl) (mpp 110 rfl ?_)
      refine mt_getU (i := 9) (k := 0) (A := 302) hT115 dX7_adds_110 rfl rl_301 (by decide) rfl (by decide) rfl un_18 (mpp 113 rfl ?_)
      refine mp_a (a_iload_n dX7_adds_113 rfl) (mpp 114 rfl ?_)
      refine mp_a (a_bipush (v := 11) dX7_adds_114 rfl) (mpp 116 rfl ?_)
      refine mp_a (a_iload dX7_adds_116 rfl) (mpp 118 rfl ?_)
      obtain ⟨z121, h122⟩ := ti_ex (11 + v4 : Int32)
      have wz121 := ti_full z121
      refine mp_t (s_iadd (v := z121) dX7_adds_118 h122) (mpp 119 rfl ?_)
      try have e123 : z121.toInt = 11 + v4.toInt := ti_addz h122 rfl rfl (by omega) (by omega)
      have p124 : 0 ≤ v3.toInt := by omega
      have p125 : v3.toInt ≤ 8 := by omega
      have p126 : 0 ≤ z121.toInt := by omega
      have p127 : z121.toInt ≤ 20 := by omega
      refine mp_calls (i := 74) (q' := q_135) (As := [.int v3, .int z121]) (rest := [.ref 302]) dX7_adds_119 rfl qm_135 (by decide) rfl (Nat.le_of_ble_eq_true rfl) rfl ⟨rfl, rfl⟩ ⟨Nat.le_of_ble_eq_true rfl, Nat.le_of_ble_eq_true rfl⟩ (EvP.mono (by decide) (c_M_at hT115 p124 p125 p126 p127 )) (fun r128 P129 g130 => mpp 122 rfl ?_)
      obtain ⟨⟨x131, rfl, g132⟩, e133⟩ := g130
      have e133 := e133.symm
      subst e133
      have wx131 := ti_full x131
      replace g132 : x131.toInt = 3 + 19 * v3.toInt + z121.toInt := g132
      show MEvP _ none q_133 122 [(0, .ref 301), (1, .int t1), (2, .int t2), (3, .int v3), (4, .int v4)] [.int x131, .ref 302] _ _ _ _
      refine mp_a (a_iload dX7_adds_122 rfl) (mpp 124 rfl ?_)
      refine mp_a (a_aload_n dX7_adds_124 rfl) (mpp 125 rfl ?_)
      refine mp_a (a_iload_n dX7_adds_125 rfl) (mpp 126 rfl ?_)
      have p134 : 0 ≤ v3.toInt := by omega
      have p135 : v3.toInt ≤ 7 := by omega
      refine mt_callv (i := 88) (q' := q_136) (As := [.int v3]) (rest := [.int v4, .int x131, .ref 302]) hT115 dX7_adds_126 rfl qm_136 (by decide) rfl rl_301 (by decide) rfl (Nat.le_of_ble_eq_true rfl) rfl ⟨rfl, rfl⟩ ⟨Nat.le_of_ble_eq_true rfl, Nat.le_of_ble_eq_true rfl⟩ (EvP.mono (by decide) (c_M_creases hT115 p134 p135 )) (fun r136 P137 g138 => mpp 129 rfl ?_)
      obtain ⟨⟨x139, rfl, g140⟩, e141⟩ := g138
      have e141 := e141.symm
      subst e141
      have wx139 := ti_full x139
      replace g140 : -1 ≤ x139.toInt ∧ x139.toInt ≤ 8 ∧ (((fv P114 302 (3 + 19 * v3.toInt.toNat)).toInt = 1 ∧ x139.toInt = (fv P114 302 (4 + 19 * v3.toInt.toNat)).toInt) ∨ ((fv P114 302 (3 + 19 * v3.toInt.toNat)).toInt = 0 ∧ x139.toInt = (fv P114 302 (4 + 19 * v3.toInt.toNat)).toInt - 1)) := g140
      try have g142 : (0 : Int) ≤ (fv P114 302 (3 + 19 * v3.toInt.toNat)).toInt ∧ (fv P114 302 (3 + 19 * v3.toInt.toNat)).toInt ≤ 1 := s3_rng hT115 (by omega)
      try have e143 : (fv P114 302 (3 + 19 * v3.toInt.toNat)).toInt = (fv P 302 (3 + 19 * v3.toInt.toNat)).toInt := congrArg Int32.toInt (f117 302 (3 + 19 * v3.toInt.toNat) (ne_i (by omega)))
      try have g144 : (0 : Int) ≤ (fv P114 302 (4 + 19 * v3.toInt.toNat)).toInt ∧ (fv P114 302 (4 + 19 * v3.toInt.toNat)).toInt ≤ 8 := s4_rng hT115 (by omega)
      try have e145 : (fv P114 302 (4 + 19 * v3.toInt.toNat)).toInt = (fv P 302 (4 + 19 * v3.toInt.toNat)).toInt := congrArg Int32.toInt (f117 302 (4 + 19 * v3.toInt.toNat) (ne_i (by omega)))
      show MEvP _ none q_133 129 [(0, .ref 301), (1, .int t1), (2, .int t2), (3, .int v3), (4, .int v4)] [.int x139, .int v4, .int x131, .ref 302] _ _ _ _
      refine mp_Tb (t := 142) (j_icmp_ge dX7_adds_129) (by decide) (fun c146 => ?_) (fun c146 => mpp 132 rfl ?_)
      · have c146 : v4.toInt ≥ x139.toInt := ti_ge c146
        refine mp_a (a_iconst (v := 0) dX7_adds_142 rfl) (mpp 143 rfl ?_)
        refine mt_iasX (n := 155) hT115 dX7_adds_143 rl_302 (by decide) rfl rfl (by omega) (by omega) ssp_0 (okS_mk (by omega) (fun _ => ⟨by omega, by omega⟩) (fun _ => ⟨by omega, by omega⟩)) (fun P147 hT148 f149 f150 f151 => mpp 144 rfl ?_)
        have k152 : KW [1093, 1094, 1152] Po P147 := KW.step k119 rl_302 rfl f150 f151
        have R153 := Rel.oth R120 f150 (by omega)
        obtain ⟨z154, h155⟩ := ti_ex (v4 + 1 : Int32)
        have wz154 := ti_full z154
        refine mp_a (a_iinc (v := z154) (L' := [(4, .int z154), (0, .ref 301), (1, .int t1), (2, .int t2), (3, .int v3)]) dX7_adds_144 (by decide) rfl h155 rfl) (mpp 147 rfl ?_)
        try have e156 : z154.toInt = v4.toInt + 1 := ti_addz h155 rfl rfl (by omega) (by omega)
        refine mp_a (a_goto (t := 72) dX7_adds_147 (by decide)) ?_
        refine MEvP.less (L := [(0, .ref 301), (1, .int t1), (2, .int t2), (3, .int v3), (4, .int z154)]) rfl rfl ⟨rfl, rfl, rfl, rfl, rfl, trivial⟩ ?_
        have i157 : 0 ≤ v3.toInt := by omega
        have i158 : v3.toInt ≤ 7 := by omega
        have w160_n : ((nC t1.toInt t2.toInt : Nat) : Int) = if t1.toInt = 0 then t2.toInt - 1 else t2.toInt := by unfold nC; split <;> omega
        have w160_m : (t1.toInt = 0 ∧ ((nC t1.toInt t2.toInt : Nat) : Int) = t2.toInt - 1) ∨ (t1.toInt = 1 ∧ ((nC t1.toInt t2.toInt : Nat) : Int) = t2.toInt) := by split at w160_n <;> omega
        have w160_ := W2.one i_2 (i' := v4.toInt.toNat + 1) rfl (n := x21.toInt.toNat) (by omega) (congrArg Int32.toInt f116) (by show _ = (if ((v4.toInt.toNat : Nat) : Int) < t2.toInt then fv Po 306 v4.toInt.toNat else 0 : Int32).toInt; rw [if_pos (by omega)]; rw [(i_6 v4.toInt.toNat).1]) (fun j hj => f117 302 j (fun e => hj e.2)) (Or.inl (by omega))
        have i159 : W2 Po P147 (fun j : Nat => j = 0 ∨ (3 + 19 * (fv Po 302 0).toInt.toNat ≤ j ∧ j < 6 + 19 * (fv Po 302 0).toInt.toNat)) (6 + 19 * (fv Po 302 0).toInt.toNat) (14 + 19 * (fv Po 302 0).toInt.toNat) (fun j : Nat => if (j : Int) < t2.toInt then fv Po 306 j else 0) (fun j : Nat => if (j : Int) < (nC t1.toInt t2.toInt : Nat) then fv Po 307 j else 0) z154.toInt.toNat z154.toInt.toNat := (W2.two w160_ (k' := v4.toInt.toNat + 1) rfl (n := x131.toInt.toNat) (by omega) (congrArg Int32.toInt f149) (by show _ = (if ((v4.toInt.toNat : Nat) : Int) < (nC t1.toInt t2.toInt : Nat) then fv Po 307 v4.toInt.toNat else 0 : Int32).toInt; rw [if_neg (by omega)]) (fun j hj => f150 302 j (fun e => hj e.2)) (Or.inr (by omega))).fin (by omega) (by omega)
        try have g161 : (0 : Int) ≤ (fv P147 302 (3 + 19 * v3.toInt.toNat)).toInt ∧ (fv P147 302 (3 + 19 * v3.toInt.toNat)).toInt ≤ 1 := s3_rng hT148 (by omega)
        try have e162 : (fv P147 302 (3 + 19 * v3.toInt.toNat)).toInt = (fv P114 302 (3 + 19 * v3.toInt.toNat)).toInt := congrArg Int32.toInt (f150 302 (3 + 19 * v3.toInt.toNat) (ne_i (by omega)))
        try have g163 : (0 : Int) ≤ (fv P147 302 (4 + 19 * v3.toInt.toNat)).toInt ∧ (fv P147 302 (4 + 19 * v3.toInt.toNat)).toInt ≤ 8 := s4_rng hT148 (by omega)
        try have e164 : (fv P147 302 (4 + 19 * v3.toInt.toNat)).toInt = (fv P114 302 (4 + 19 * v3.toInt.toNat)).toInt := congrArg Int32.toInt (f150 302 (4 + 19 * v3.toInt.toNat) (ne_i (by omega)))
        have g165 := ti_full (fv P147 302 (5 + 19 * v3.toInt.toNat))
        try have e166 : (fv P147 302 (5 + 19 * v3.toInt.toNat)).toInt = (fv P 302 (5 + 19 * v3.toInt.toNat)).toInt := congrArg Int32.toInt ((f150 302 (5 + 19 * v3.toInt.toNat) (ne_i (by omega))).trans (f117 302 (5 + 19 * v3.toInt.toNat) (ne_i (by omega))))
        have i167 : (fv P147 302 (3 + 19 * v3.toInt.toNat)).toInt = t1.toInt ∧ (fv P147 302 (4 + 19 * v3.toInt.toNat)).toInt = t2.toInt ∧ (fv P147 302 (5 + 19 * v3.toInt.toNat)).toInt = 0 := by omega
        have e168 : (fv P147 302 0).toInt = (fv P 302 0).toInt := congrArg Int32.toInt ((f150 302 0 (ne_i (by omega))).trans (f117 302 0 (ne_i (by omega))))
        have i169 : v3.toInt = (fv Po 302 0).toInt ∧ (fv P147 302 0).toInt = (fv Po 302 0).toInt + 1 := by omega
        have i170 : z154.toInt ≤ 8 := by omega
        have i171 : ∀ j : Nat, fv P147 306 j = fv Po 306 j ∧ fv P147 307 j = fv Po 307 j := fun j => ⟨by rw [f150 306 j (by omega), f117 306 j (by omega)]; exact (i_6 j).1, by rw [f150 307 j (by omega), f117 307 j (by omega)]; exact (i_6 j).2⟩
        have i172 : 0 ≤ z154.toInt := by omega
        exact ih _ (by omega) _ _ P147 hT148 k152 R153 i157 i158 i159 i167 i169 i170 i171 i172 rfl
      · have c146 : v4.toInt < x139.toInt := ti_ge_n c146
        refine mp_a (a_aload_n dX7_adds_132 rfl) (mpp 133 rfl ?_)
        refine mt_getU (i := 25) (k := 10) (A := 307) hT115 dX7_adds_133 rfl rl_301 (by decide) rfl (by decide) rfl un_23 (mpp 136 rfl ?_)
        refine mp_a (a_iload dX7_adds_136 rfl) (mpp 138 rfl ?_)
        refine mt_ial (n := 8) hT115 dX7_adds_138 rl_307 (by decide) rfl rfl (by omega) (by omega) rfl (fun g173 g174 => mpp 139 rfl ?_)
        refine mp_a (a_goto (t := 143) dX7_adds_139 (by decide)) ?_
        refine mt_iasX (n := 155) hT115 dX7_adds_143 rl_302 (by decide) rfl rfl (by omega) (by omega) ssp_0 (okS_mk (by omega) (fun _ => ⟨by omega, by omega⟩) (fun _ => ⟨by omega, by omega⟩)) (fun P175 hT176 f177 f178 f179 => mpp 144 rfl ?_)
        have k180 : KW [1093, 1094, 1152] Po P175 := KW.step k119 rl_302 rfl f178 f179
        have R181 := Rel.oth R120 f178 (by omega)
        obtain ⟨z182, h183⟩ := ti_ex (v4 + 1 : Int32)
        have wz182 := ti_full z182
        refine mp_a (a_iinc (v := z182) (L' := [(4, .int z182), (0, .ref 301), (1, .int t1), (2, .int t2), (3, .int v3)]) dX7_adds_144 (by decide) rfl h183 rfl) (mpp 147 rfl ?_)
        try have e184 : z182.toInt = v4.toInt + 1 := ti_addz h183 rfl rfl (by omega) (by omega)
        refine mp_a (a_goto (t := 72) dX7_adds_147 (by decide)) ?_
        refine MEvP.less (L := [(0, .ref 301), (1, .int t1), (2, .int t2), (3, .int v3), (4, .int z182)]) rfl rfl ⟨rfl, rfl, rfl, rfl, rfl, trivial⟩ ?_
        have i185 : 0 ≤ v3.toInt := by omega
        have i186 : v3.toInt ≤ 7 := by omega
        have w188_n : ((nC t1.toInt t2.toInt : Nat) : Int) = if t1.toInt = 0 then t2.toInt - 1 else t2.toInt := by unfold nC; split <;> omega
        have w188_m : (t1.toInt = 0 ∧ ((nC t1.toInt t2.toInt : Nat) : Int) = t2.toInt - 1) ∨ (t1.toInt = 1 ∧ ((nC t1.toInt t2.toInt : Nat) : Int) = t2.toInt) := by split at w188_n <;> omega
        have w188_ := W2.one i_2 (i' := v4.toInt.toNat + 1) rfl (n := x21.toInt.toNat) (by omega) (congrArg Int32.toInt f116) (by show _ = (if ((v4.toInt.toNat : Nat) : Int) < t2.toInt then fv Po 306 v4.toInt.toNat else 0 : Int32).toInt; rw [if_pos (by omega)]; rw [(i_6 v4.toInt.toNat).1]) (fun j hj => f117 302 j (fun e => hj e.2)) (Or.inl (by omega))
        have i187 : W2 Po P175 (fun j : Nat => j = 0 ∨ (3 + 19 * (fv Po 302 0).toInt.toNat ≤ j ∧ j < 6 + 19 * (fv Po 302 0).toInt.toNat)) (6 + 19 * (fv Po 302 0).toInt.toNat) (14 + 19 * (fv Po 302 0).toInt.toNat) (fun j : Nat => if (j : Int) < t2.toInt then fv Po 306 j else 0) (fun j : Nat => if (j : Int) < (nC t1.toInt t2.toInt : Nat) then fv Po 307 j else 0) z182.toInt.toNat z182.toInt.toNat := (W2.two w188_ (k' := v4.toInt.toNat + 1) rfl (n := x131.toInt.toNat) (by omega) (congrArg Int32.toInt f177) (by show _ = (if ((v4.toInt.toNat : Nat) : Int) < (nC t1.toInt t2.toInt : Nat) then fv Po 307 v4.toInt.toNat else 0 : Int32).toInt; rw [if_pos (by omega)]; rw [f117 307 v4.toInt.toNat (by omega)]; rw [(i_6 v4.toInt.toNat).2]) (fun j hj => f178 302 j (fun e => hj e.2)) (Or.inr (by omega))).fin (by omega) (by omega)
        try have g189 : (0 : Int) ≤ (fv P175 302 (3 + 19 * v3.toInt.toNat)).toInt ∧ (fv P175 302 (3 + 19 * v3.toInt.toNat)).toInt ≤ 1 := s3_rng hT176 (by omega)
        try have e190 : (fv P175 302 (3 + 19 * v3.toInt.toNat)).toInt = (fv P114 302 (3 + 19 * v3.toInt.toNat)).toInt := congrArg Int32.toInt (f178 302 (3 + 19 * v3.toInt.toNat) (ne_i (by omega)))
        try have g191 : (0 : Int) ≤ (fv P175 302 (4 + 19 * v3.toInt.toNat)).toInt ∧ (fv P175 302 (4 + 19 * v3.toInt.toNat)).toInt ≤ 8 := s4_rng hT176 (by omega)
        try have e192 : (fv P175 302 (4 + 19 * v3.toInt.toNat)).toInt = (fv P114 302 (4 + 19 * v3.toInt.toNat)).toInt := congrArg Int32.toInt (f178 302 (4 + 19 * v3.toInt.toNat) (ne_i (by omega)))
        have g193 := ti_full (fv P175 302 (5 + 19 * v3.toInt.toNat))
        try have e194 : (fv P175 302 (5 + 19 * v3.toInt.toNat)).toInt = (fv P 302 (5 + 19 * v3.toInt.toNat)).toInt := congrArg Int32.toInt ((f178 302 (5 + 19 * v3.toInt.toNat) (ne_i (by omega))).trans (f117 302 (5 + 19 * v3.toInt.toNat) (ne_i (by omega))))
        have i195 : (fv P175 302 (3 + 19 * v3.toInt.toNat)).toInt = t1.toInt ∧ (fv P175 302 (4 + 19 * v3.toInt.toNat)).toInt = t2.toInt ∧ (fv P175 302 (5 + 19 * v3.toInt.toNat)).toInt = 0 := by omega
        have e196 : (fv P175 302 0).toInt = (fv P 302 0).toInt := congrArg Int32.toInt ((f178 302 0 (ne_i (by omega))).trans (f117 302 0 (ne_i (by omega))))
        have i197 : v3.toInt = (fv Po 302 0).toInt ∧ (fv P175 302 0).toInt = (fv Po 302 0).toInt + 1 := by omega
        have i198 : z182.toInt ≤ 8 := by omega
        have i199 : ∀ j : Nat, fv P175 306 j = fv Po 306 j ∧ fv P175 307 j = fv Po 307 j := fun j => ⟨by rw [f178 306 j (by omega), f117 306 j (by omega)]; exact (i_6 j).1, by rw [f178 307 j (by omega), f117 307 j (by omega)]; exact (i_6 j).2⟩
        have i200 : 0 ≤ z182.toInt := by omega
        exact ih _ (by omega) _ _ P175 hT176 k180 R181 i185 i186 i187 i195 i197 i198 i199 i200 rfl

set_option maxHeartbeats 4000000 in
theorem c_M_adds {Po : mP} {t1 : Int32} {t2 : Int32} (hT : Typ Po) (hR : Rel Po) (hp0 : 0 ≤ t1.toInt) (hp1 : t1.toInt ≤ 1) (hp2 : 2 ≤ t2.toInt) (hp3 : t2.toInt ≤ 8) (hp4 : t1.toInt ≠ 0 ∨ t2.toInt ≤ 7)  : EvP 5 133 [.ref 301, .int t1, .int t2] Po (fun r P' => (∃ x : Int32, r = some (.int x) ∧ (addsM (sr Po) (sr P') (fun j : Nat => fv Po 306 j) (fun j : Nat => fv Po 307 j) x.toInt t1.toInt t2.toInt)) ∧ Typ P' ∧ KW [1093, 1094, 1152] Po P' ∧ Rel P') := by
  refine EvP.of qm_133 (Nat.le_of_ble_eq_true rfl) rfl ?_
  show MEvP _ none q_133 0 [(0, .ref 301), (1, .int t1), (2, .int t2)] [] _ 0 0 _
  have w_t1 := ti_full t1
  have w_t2 := ti_full t2
  refine mp_a (a_aload_n dX7_adds_0 rfl) (mpp 1 rfl ?_)
  refine mt_getU (i := 9) (k := 0) (A := 302) hT dX7_adds_1 rfl rl_301 (by decide) rfl (by decide) rfl un_18 (mpp 4 rfl ?_)
  refine mp_a (a_iconst (v := 0) dX7_adds_4 rfl) (mpp 5 rfl ?_)
  have g3 : (0 : Int) ≤ (fv Po 302 0).toInt ∧ (fv Po 302 0).toInt ≤ 8 := Typ.rng hT rl_302 (by decide) (by decide) rfl
  refine mt_ialX (n := 155) hT dX7_adds_5 rl_302 (by decide) rfl rfl (by decide) (by decide) ssp_0 (fun g1 => mpp 6 rfl ?_)
  have we4 := ti_full (fv Po 302 0)
  refine mp_a (a_bipush (v := 8) dX7_adds_6 rfl) (mpp 8 rfl ?_)
  refine mp_Tb (t := 19) (j_icmp_ne dX7_adds_8) (by decide) (fun c5 => ?_) (fun c5 => mpp 11 rfl ?_)
  · have c5 : (fv Po 302 0).toInt ≠ 8 := ti_ne c5
    refine mp_a (a_aload_n dX7_adds_19 rfl) (mpp 20 rfl ?_)
    refine mt_getU (i := 9) (k := 0) (A := 302) hT dX7_adds_20 rfl rl_301 (by decide) rfl (by decide) rfl un_18 (mpp 23 rfl ?_)
    refine mp_a (a_iconst (v := 0) dX7_adds_23 rfl) (mpp 24 rfl ?_)
    refine mt_ialX (n := 155) hT dX7_adds_24 rl_302 (by decide) rfl rfl (by decide) (by decide) ssp_0 (fun g6 => mpp 25 rfl ?_)
    have we8 := ti_full (fv Po 302 0)
    refine mp_a (a_istore_n (L' := [(3, .int (fv Po 302 0)), (0, .ref 301), (1, .int t1), (2, .int t2)]) dX7_adds_25 (by decide) rfl) (mpp 26 rfl ?_)
    refine mp_a (a_aload_n dX7_adds_26 rfl) (mpp 27 rfl ?_)
    refine mt_getU (i := 9) (k := 0) (A := 302) hT dX7_adds_27 rfl rl_301 (by decide) rfl (by decide) rfl un_18 (mpp 30 rfl ?_)
    refine mp_a (a_iconst (v := 0) dX7_adds_30 rfl) (mpp 31 rfl ?_)
    refine mp_t (s_dup2 dX7_adds_31 ⟨rfl, rfl⟩) (mpp 32 rfl ?_)
    refine mt_ialX (n := 155) hT dX7_adds_32 rl_302 (by decide) rfl rfl (by decide) (by decide) ssp_0 (fun g9 => mpp 33 rfl ?_)
    have we11 := ti_full (fv Po 302 0)
    refine mp_a (a_iconst (v := 1) dX7_adds_33 rfl) (mpp 34 rfl ?_)
    obtain ⟨z12, h13⟩ := ti_ex ((fv Po 302 0) + 1 : Int32)
    have wz12 := ti_full z12
    refine mp_t (s_iadd (v := z12) dX7_adds_34 h13) (mpp 35 rfl ?_)
    try have e14 : z12.toInt = (fv Po 302 0).toInt + 1 := ti_addz h13 rfl rfl (by omega) (by omega)
    refine mt_iasX (n := 155) hT dX7_adds_35 rl_302 (by decide) rfl rfl (by decide) (by decide) ssp_0 (okS_c0 ⟨by omega, by omega⟩) (fun P15 hT16 f17 f18 f19 => mpp 36 rfl ?_)
    have f17 : fv P15 302 0 = _ := f17
    have f18 : ∀ b j : Nat, ¬ (b = 302 ∧ j = 0) → fv P15 b j = fv Po b j := f18
    have k20 : KW [1093, 1094, 1152] Po P15 := KW.step KW.refl rl_302 rfl f18 f19
    have e22 : (fv P15 302 0).toInt = z12.toInt := congrArg Int32.toInt f17
    refine mp_a (a_aload_n dX7_adds_36 rfl) (mpp 37 rfl ?_)
    refine mt_getU (i := 9) (k := 0) (A := 302) hT16 dX7_adds_37 rfl rl_301 (by decide) rfl (by decide) rfl un_18 (mpp 40 rfl ?_)
    refine mp_a (a_iload_n dX7_adds_40 rfl) (mpp 41 rfl ?_)
    refine mp_a (a_iconst (v := 0) dX7_adds_41 rfl) (mpp 42 rfl ?_)
    have p23 : 0 ≤ (fv Po 302 0).toInt := by omega
    have p24 : (fv Po 302 0).toInt ≤ 8 := by omega
    have p25 : 0 ≤ (0 : Int) := by omega
    have p26 : (0 : Int) ≤ 20 := by omega
    refine mp_calls (i := 74) (q' := q_135) (As := [.int (fv Po 302 0), .int 0]) (rest := [.ref 302]) dX7_adds_42 rfl qm_135 (by decide) rfl (Nat.le_of_ble_eq_true rfl) rfl ⟨rfl, rfl⟩ ⟨Nat.le_of_ble_eq_true rfl, Nat.le_of_ble_eq_true rfl⟩ (EvP.mono (by decide) (c_M_at hT16 p23 p24 p25 p26 )) (fun r27 P28 g29 => mpp 45 rfl ?_)
    obtain ⟨⟨x30, rfl, g31⟩, e32⟩ := g29
    have e32 := e32.symm
    subst e32
    have wx30 := ti_full x30
    replace g31 : x30.toInt = 3 + 19 * (fv Po 302 0).toInt + (0 : Int) := g31
    show MEvP _ none q_133 45 [(3, .int (fv Po 302 0)), (0, .ref 301), (1, .int t1), (2, .int t2)] [.int x30, .ref 302] _ _ _ _
    refine mp_a (a_iload_n dX7_adds_45 rfl) (mpp 46 rfl ?_)
    refine mt_iasX (n := 155) hT16 dX7_adds_46 rl_302 (by decide) rfl rfl (by omega) (by omega) ssp_0 (okS_mk (by omega) (fun _ => ⟨by omega, by omega⟩) (fun _ => ⟨by omega, by omega⟩)) (fun P33 hT34 f35 f36 f37 => mpp 47 rfl ?_)
    have k38 : KW [1093, 1094, 1152] Po P33 := KW.step k20 rl_302 rfl f36 f37
    refine mp_a (a_aload_n dX7_adds_47 rfl) (mpp 48 rfl ?_)
    refine mt_getU (i := 9) (k := 0) (A := 302) hT34 dX7_adds_48 rfl rl_301 (by decide) rfl (by decide) rfl un_18 (mpp 51 rfl ?_)
    refine mp_a (a_iload_n dX7_adds_51 rfl) (mpp 52 rfl ?_)
    refine mp_a (a_iconst (v := 1) dX7_adds_52 rfl) (mpp 53 rfl ?_)
    have p40 : 0 ≤ (fv Po 302 0).toInt := by omega
    have p41 : (fv Po 302 0).toInt ≤ 8 := by omega
    have p42 : 0 ≤ (1 : Int) := by omega
    have p43 : (1 : Int) ≤ 20 := by omega
    refine mp_calls (i := 74) (q' := q_135) (As := [.int (fv Po 302 0), .int 1]) (rest := [.ref 302]) dX7_adds_53 rfl qm_135 (by decide) rfl (Nat.le_of_ble_eq_true rfl) rfl ⟨rfl, rfl⟩ ⟨Nat.le_of_ble_eq_true rfl, Nat.le_of_ble_eq_true rfl⟩ (EvP.mono (by decide) (c_M_at hT34 p40 p41 p42 p43 )) (fun r44 P45 g46 => mpp 56 rfl ?_)
    obtain ⟨⟨x47, rfl, g48⟩, e49⟩ := g46
    have e49 := e49.symm
    subst e49
    have wx47 := ti_full x47
    replace g48 : x47.toInt = 3 + 19 * (fv Po 302 0).toInt + (1 : Int) := g48
    show MEvP _ none q_133 56 [(3, .int (fv Po 302 0)), (0, .ref 301), (1, .int t1), (2, .int t2)] [.int x47, .ref 302] _ _ _ _
    refine mp_a (a_iload_n dX7_adds_56 rfl) (mpp 57 rfl ?_)
    refine mt_iasX (n := 155) hT34 dX7_adds_57 rl_302 (by decide) rfl rfl (by omega) (by omega) ssp_0 (okS_mk (by omega) (fun _ => ⟨by omega, by omega⟩) (fun _ => ⟨by omega, by omega⟩)) (fun P50 hT51 f52 f53 f54 => mpp 58 rfl ?_)
    have k55 : KW [1093, 1094, 1152] Po P50 := KW.step k38 rl_302 rfl f53 f54
    have R56 := Rel.rec hR (p := (fv Po 302 0).toInt.toNat) f18 f17 f36 f35 f53 f52 (by omega) (by omega) (by omega) (by omega) (by omega) (by omega)
    refine mp_a (a_aload_n dX7_adds_58 rfl) (mpp 59 rfl ?_)
    refine mt_getU (i := 9) (k := 0) (A := 302) hT51 dX7_adds_59 rfl rl_301 (by decide) rfl (by decide) rfl un_18 (mpp 62 rfl ?_)
    refine mp_a (a_iload_n dX7_adds_62 rfl) (mpp 63 rfl ?_)
    refine mp_a (a_iconst (v := 2) dX7_adds_63 rfl) (mpp 64 rfl ?_)
    have p57 : 0 ≤ (fv Po 302 0).toInt := by omega
    have p58 : (fv Po 302 0).toInt ≤ 8 := by omega
    have p59 : 0 ≤ (2 : Int) := by omega
    have p60 : (2 : Int) ≤ 20 := by omega
    refine mp_calls (i := 74) (q' := q_135) (As := [.int (fv Po 302 0), .int 2]) (rest := [.ref 302]) dX7_adds_64 rfl qm_135 (by decide) rfl (Nat.le_of_ble_eq_true rfl) rfl ⟨rfl, rfl⟩ ⟨Nat.le_of_ble_eq_true rfl, Nat.le_of_ble_eq_true rfl⟩ (EvP.mono (by decide) (c_M_at hT51 p57 p58 p59 p60 )) (fun r61 P62 g63 => mpp 67 rfl ?_)
    obtain ⟨⟨x64, rfl, g65⟩, e66⟩ := g63
    have e66 := e66.symm
    subst e66
    have wx64 := ti_full x64
    replace g65 : x64.toInt = 3 + 19 * (fv Po 302 0).toInt + (2 : Int) := g65
    show MEvP _ none q_133 67 [(3, .int (fv Po 302 0)), (0, .ref 301), (1, .int t1), (2, .int t2)] [.int x64, .ref 302] _ _ _ _
    refine mp_a (a_iconst (v := 0) dX7_adds_67 rfl) (mpp 68 rfl ?_)
    refine mt_iasX (n := 155) hT51 dX7_adds_68 rl_302 (by decide) rfl rfl (by omega) (by omega) ssp_0 (okS_mk (by omega) (fun _ => ⟨by omega, by omega⟩) (fun _ => ⟨by omega, by omega⟩)) (fun P67 hT68 f69 f70 f71 => mpp 69 rfl ?_)
    have k72 : KW [1093, 1094, 1152] Po P67 := KW.step k55 rl_302 rfl f70 f71
    have R73 := Rel.oth R56 f70 (by omega)
    refine mp_a (a_iconst (v := 0) dX7_adds_69 rfl) (mpp 70 rfl ?_)
    refine mp_a (a_istore (L' := [(4, .int 0), (3, .int (fv Po 302 0)), (0, .ref 301), (1, .int t1), (2, .int t2)]) dX7_adds_70 (by decide) rfl) (mpp 72 rfl ?_)
    refine MEvP.less (L := [(0, .ref 301), (1, .int t1), (2, .int t2), (3, .int (fv Po 302 0)), (4, .int 0)]) rfl rfl ⟨rfl, rfl, rfl, rfl, rfl, trivial⟩ ?_
    have i74 : 0 ≤ (fv Po 302 0).toInt := by omega
    have i75 : (fv Po 302 0).toInt ≤ 7 := by omega
    have i76 : W2 Po P67 (fun j : Nat => j = 0 ∨ (3 + 19 * (fv Po 302 0).toInt.toNat ≤ j ∧ j < 6 + 19 * (fv Po 302 0).toInt.toNat)) (6 + 19 * (fv Po 302 0).toInt.toNat) (14 + 19 * (fv Po 302 0).toInt.toNat) (fun j : Nat => if (j : Int) < t2.toInt then fv Po 306 j else 0) (fun j : Nat => if (j : Int) < (nC t1.toInt t2.toInt : Nat) then fv Po 307 j else 0) (0 : Int).toNat (0 : Int).toNat := W2.start rfl rfl (fun j hj => by rw [f70 302 j (by omega), f53 302 j (by omega), f36 302 j (by omega), f18 302 j (by omega)])
    try have g77 : (0 : Int) ≤ (fv P67 302 (3 + 19 * (fv Po 302 0).toInt.toNat)).toInt ∧ (fv P67 302 (3 + 19 * (fv Po 302 0).toInt.toNat)).toInt ≤ 1 := s3_rng hT68 (by omega)
    try have g78 : (0 : Int) ≤ (fv P67 302 (4 + 19 * (fv Po 302 0).toInt.toNat)).toInt ∧ (fv P67 302 (4 + 19 * (fv Po 302 0).toInt.toNat)).toInt ≤ 8 := s4_rng hT68 (by omega)
    have g79 := ti_full (fv P67 302 (5 + 19 * (fv Po 302 0).toInt.toNat))
    have i80 : (fv P67 302 (3 + 19 * (fv Po 302 0).toInt.toNat)).toInt = t1.toInt ∧ (fv P67 302 (4 + 19 * (fv Po 302 0).toInt.toNat)).toInt = t2.toInt ∧ (fv P67 302 (5 + 19 * (fv Po 302 0).toInt.toNat)).toInt = 0 := ⟨by rw [f70 302 (3 + 19 * (fv Po 302 0).toInt.toNat) (by omega), f53 302 (3 + 19 * (fv Po 302 0).toInt.toNat) (by omega)]; exact (congrArg (fun k => (fv P33 302 k).toInt) (show 3 + 19 * (fv Po 302 0).toInt.toNat = x30.toInt.toNat from by omega)).trans (congrArg Int32.toInt f35), by rw [f70 302 (4 + 19 * (fv Po 302 0).toInt.toNat) (by omega)]; exact (congrArg (fun k => (fv P50 302 k).toInt) (show 4 + 19 * (fv Po 302 0).toInt.toNat = x47.toInt.toNat from by omega)).trans (congrArg Int32.toInt f52), (congrArg (fun k => (fv P67 302 k).toInt) (show 5 + 19 * (fv Po 302 0).toInt.toNat = x64.toInt.toNat from by omega)).trans (congrArg Int32.toInt f69)⟩
    have e81 : (fv P67 302 0).toInt = (fv P15 302 0).toInt := congrArg Int32.toInt ((f70 302 0 (ne_i (by omega))).trans ((f53 302 0 (ne_i (by omega))).trans (f36 302 0 (ne_i (by omega)))))
    have i82 : (fv Po 302 0).toInt = (fv Po 302 0).toInt ∧ (fv P67 302 0).toInt = (fv Po 302 0).toInt + 1 := by omega
    have i83 : (0 : Int) ≤ 8 := by omega
    have i84 : ∀ j : Nat, fv P67 306 j = fv Po 306 j ∧ fv P67 307 j = fv Po 307 j := fun j => ⟨by rw [f70 306 j (by omega), f53 306 j (by omega), f36 306 j (by omega), f18 306 j (by omega)], by rw [f70 307 j (by omega), f53 307 j (by omega), f36 307 j (by omega), f18 307 j (by omega)]⟩
    have i85 : 0 ≤ (0 : Int) := by omega
    exact c_M_adds_l72   hp0 hp1 hp2 hp3 hp4 _ _ _ P67 hT68 k72 R73 i74 i75 i76 i80 i82 i83 i84 i85 rfl
  · have c5 : (fv Po 302 0).toInt = 8 := ti_ne_n c5
    refine mp_a (a_aload_n dX7_adds_11 rfl) (mpp 12 rfl ?_)
    refine mp_a (a_iconst (v := 1) dX7_adds_12 rfl) (mpp 13 rfl ?_)
    refine mp_a (a_bipush (v := 8) dX7_adds_13 rfl) (mpp 15 rfl ?_)
    refine mt_callv (i := 101) (q' := q_134) (As := [.int 1, .int 8]) (rest := []) hT dX7_adds_15 rfl qm_134 (by decide) rfl rl_301 (by decide) rfl (Nat.le_of_ble_eq_true rfl) rfl ⟨rfl, rfl⟩ ⟨Nat.le_of_ble_eq_true rfl, Nat.le_of_ble_eq_true rfl⟩ (EvP.mono (by decide) (c_M_refuses hT )) (fun r86 P87 g88 => mpp 18 rfl ?_)
    obtain ⟨⟨x89, rfl, g90⟩, hT91, k92, R93⟩ := g88
    have k94 : KW [1093, 1094, 1152] Po P87 := KW.trans KW.refl k92 rfl
    have R96 := Rel.kw hR k92 rfl
    have wx89 := ti_full x89
    replace g90 : x89.toInt = -1003 := g90
    show MEvP _ none q_133 18 [(0, .ref 301), (1, .int t1), (2, .int t2)] [.int x89] _ _ _ _
    have e98 : (fv P87 302 0).toInt = (fv Po 302 0).toInt := congrArg Int32.toInt (R93 302 0 (by omega))
    have e99 : (fv P87 302 1).toInt = (fv Po 302 1).toInt := congrArg Int32.toInt (R93 302 1 (by omega))
    have e100 : (fv P87 302 2).toInt = (fv Po 302 2).toInt := congrArg Int32.toInt (R93 302 2 (by omega))
    have u97 : addsM (sr Po) (sr P87) (fun j : Nat => fv Po 306 j) (fun j : Nat => fv Po 307 j) x89.toInt t1.toInt t2.toInt := (show (x89.toInt = -1003 ∧ 8 ≤ (fv Po 302 (0)).toInt ∧ (∀ j : Nat, fv P87 302 j = fv Po 302 j)) ∨ ((fv Po 302 (0)).toInt ≤ 7 ∧ x89.toInt = (fv Po 302 (0)).toInt ∧ (fv P87 302 (0)).toInt = (fv Po 302 (0)).toInt + 1 ∧ (fv P87 302 (3 + 19 * ((fv Po 302 (0)).toInt).toNat)).toInt = t1.toInt ∧ (fv P87 302 (4 + 19 * ((fv Po 302 (0)).toInt).toNat)).toInt = t2.toInt ∧ (fv P87 302 (5 + 19 * ((fv Po 302 (0)).toInt).toNat)).toInt = 0 ∧ (∀ k : Nat, k < 8 → (k : Int) < t2.toInt → fv P87 302 (6 + 19 * ((fv Po 302 (0)).toInt).toNat + k) = (fun j : Nat => fv Po 306 j) k) ∧ (∀ k : Nat, k < 8 → k < nC t1.toInt t2.toInt → fv P87 302 (14 + 19 * ((fv Po 302 (0)).toInt).toNat + k) = (fun j : Nat => fv Po 307 j) k) ∧ (∀ j : Nat, ¬ j = 0 → (j < 3 + 19 * ((fv Po 302 (0)).toInt).toNat ∨ 22 + 19 * ((fv Po 302 (0)).toInt).toNat ≤ j) → fv P87 302 j = fv Po 302 j)) from Or.inl (⟨by omega, by omega, fun j => by rw [R93 302 j (by omega)]⟩))
    exact mp_iret ⟨⟨_, rfl, u97⟩, hT91, k94, R96⟩ dX7_adds_18 (Or.inl rfl)

set_option maxHeartbeats 4000000 in
theorem c_M_addsTold {Po : mP} {t1 : Int32} {t2 : Int32} {t3 : Int32} (hT : Typ Po) (hR : Rel Po)  : EvP 6 126 [.ref 301, .int t1, .int t2, .int t3] Po (fun r P' => (∃ x : Int32, r = some (.int x) ∧ (addsToldM (sr Po) (sr P') x.toInt t1.toInt t2.toInt t3.toInt)) ∧ Typ P' ∧ KW [1093, 1094, 1152, 1408, 1472] Po P' ∧ Rel P') := by
  refine EvP.of qm_126 (Nat.le_of_ble_eq_true rfl) rfl ?_
  show MEvP _ none q_126 0 [(0, .ref 301), (1, .int t1), (2, .int t2), (3, .int t3)] [] _ 0 0 _
  have w_t1 := ti_full t1
  have w_t2 := ti_full t2
  have w_t3 := ti_full t3
  refine mp_a (a_iload_n dX7_addsTold_0 rfl) (mpp 1 rfl ?_)
  refine mp_a (a_iconst (v := 0) dX7_addsTold_1 rfl) (mpp 2 rfl ?_)
  refine mp_a (a_iconst (v := 1) dX7_addsTold_2 rfl) (mpp 3 rfl ?_)
  refine mp_calls (i := 61) (q' := q_127) (As := [.int t1, .int 0, .int 1]) (rest := []) dX7_addsTold_3 rfl qm_127 (by decide) rfl (Nat.le_of_ble_eq_true rfl) rfl ⟨rfl, rfl⟩ ⟨Nat.le_of_ble_eq_true rfl, Nat.le_of_ble_eq_true rfl⟩ (EvP.mono (by decide) (c_M_isIn hT )) (fun r1 P2 g3 => mpp 6 rfl ?_)
  obtain ⟨⟨x4, rfl, g5⟩, e6⟩ := g3
  have e6 := e6.symm
  subst e6
  have wx4 := ti_full x4
  replace g5 : 0 ≤ x4.toInt ∧ x4.toInt ≤ 1 ∧ ((x4.toInt = 1 ∧ (0 : Int) ≤ t1.toInt ∧ t1.toInt ≤ (1 : Int)) ∨ (x4.toInt = 0 ∧ (t1.toInt < (0 : Int) ∨ (1 : Int) < t1.toInt))) := g5
  show MEvP _ none q_126 6 [(0, .ref 301), (1, .int t1), (2, .int t2), (3, .int t3)] [.int x4] _ _ _ _
  refine mp_Tb (t := 17) (j_if_eq dX7_addsTold_6) (by decide) (fun c7 => ?_) (fun c7 => mpp 9 rfl ?_)
  · have c7 : x4.toInt = 0 := ti_eq c7
    refine mp_a (a_iconst (v := 0) dX7_addsTold_17 rfl) (mpp 18 rfl ?_)
    refine mp_a (a_istore (L' := [(4, .int 0), (0, .ref 301), (1, .int t1), (2, .int t2), (3, .int t3)]) dX7_addsTold_18 (by decide) rfl) (mpp 20 rfl ?_)
    refine mp_a (a_iload dX7_addsTold_20 rfl) (mpp 22 rfl ?_)
    refine mp_Tt (t := 56) (j_if_eq dX7_addsTold_22) (by decide) (by decide) ?_
    refine mp_a (a_sipush (v := -1002) dX7_addsTold_56 rfl) (mpp 59 rfl ?_)
    have u8 : addsToldM (sr Po) (sr Po) (-1002 : Int) t1.toInt t2.toInt t3.toInt := Or.inl ⟨rfl, fun c h => by rcases h.1.2 with o0 | o0 <;> omega, fun j => (show fv Po 302 j = fv Po 302 j from rfl)⟩
    exact mp_iret ⟨⟨_, rfl, u8⟩, hT, KW.refl, hR⟩ dX7_addsTold_59 (Or.inl rfl)
  · have c7 : x4.toInt ≠ 0 := ti_eq_n c7
    refine mp_a (a_aload_n dX7_addsTold_9 rfl) (mpp 10 rfl ?_)
    refine mp_a (a_iload_n dX7_addsTold_10 rfl) (mpp 11 rfl ?_)
    refine mt_callv (i := 104) (q' := q_128) (As := [.int t2]) (rest := []) hT dX7_addsTold_11 rfl qm_128 (by decide) rfl rl_301 (by decide) rfl (Nat.le_of_ble_eq_true rfl) rfl ⟨rfl, rfl⟩ ⟨Nat.le_of_ble_eq_true rfl, Nat.le_of_ble_eq_true rfl⟩ (EvP.mono (by decide) (c_M_laysSizes hT )) (fun r10 P11 g12 => mpp 14 rfl ?_)
    obtain ⟨⟨x13, rfl, g14⟩, hT15, k16, R17⟩ := g12
    have k18 : KW [1093, 1094, 1152, 1408, 1472] Po P11 := KW.trans KW.refl k16 rfl
    have R20 := Rel.kw hR k16 rfl
    have wx13 := ti_full x13
    replace g14 : (x13.toInt = 0 ∧ ∀ c : Nat, ¬ okD t2.toInt c) ∨ (okD t2.toInt x13.toInt.toNat ∧ 1 ≤ x13.toInt ∧ x13.toInt ≤ 8 ∧ ∀ j : Nat, j < x13.toInt.toNat → fv P11 306 j = dgI t2.toInt x13.toInt.toNat j) := g14
    show MEvP _ none q_126 14 [(0, .ref 301), (1, .int t1), (2, .int t2), (3, .int t3)] [.int x13] _ _ _ _
    refine mp_a (a_goto (t := 18) dX7_addsTold_14 (by decide)) ?_
    refine mp_a (a_istore (L' := [(4, .int x13), (0, .ref 301), (1, .int t1), (2, .int t2), (3, .int t3)]) dX7_addsTold_18 (by decide) rfl) (mpp 20 rfl ?_)
    refine mp_a (a_iload dX7_addsTold_20 rfl) (mpp 22 rfl ?_)
    refine mp_Tb (t := 56) (j_if_eq dX7_addsTold_22) (by decide) (fun c21 => ?_) (fun c21 => mpp 25 rfl ?_)
    · have c21 : x13.toInt = 0 := ti_eq c21
      refine mp_a (a_sipush (v := -1002) dX7_addsTold_56 rfl) (mpp 59 rfl ?_)
      have u22 : addsToldM (sr Po) (sr P11) (-1002 : Int) t1.toInt t2.toInt t3.toInt := Or.inl ⟨rfl, fun c h => ((g14).resolve_right (by omega)).2 c h.1.1, fun j => (show fv P11 302 j = fv Po 302 j from by rw [KW.at k16 j rl_302 rfl])⟩
      exact mp_iret ⟨⟨_, rfl, u22⟩, hT15, k18, R20⟩ dX7_addsTold_59 (Or.inl rfl)
    · have c21 : x13.toInt ≠ 0 := ti_eq_n c21
      refine mp_a (a_aload_n dX7_addsTold_25 rfl) (mpp 26 rfl ?_)
      refine mp_a (a_iload_n dX7_addsTold_26 rfl) (mpp 27 rfl ?_)
      refine mp_a (a_iload dX7_addsTold_27 rfl) (mpp 29 rfl ?_)
      have p24 : x13.toInt ≤ 8 := by omega
      refine mt_callv (i := 107) (q' := q_130) (As := [.int t1, .int x13]) (rest := []) hT15 dX7_addsTold_29 rfl qm_130 (by decide) rfl rl_301 (by decide) rfl (Nat.le_of_ble_eq_true rfl) rfl ⟨rfl, rfl⟩ ⟨Nat.le_of_ble_eq_true rfl, Nat.le_of_ble_eq_true rfl⟩ (EvP.mono (by decide) (c_M_areSizes hT15 p24 )) (fun r25 P26 g27 => mpp 32 rfl ?_)
      obtain ⟨⟨x28, rfl, g29⟩, e30⟩ := g27
      have e30 := e30.symm
      subst e30
      have wx28 := ti_full x28
      replace g29 : 0 ≤ x28.toInt ∧ x28.toInt ≤ 1 ∧ ((x28.toInt = 1 ∧ ((t1.toInt = 0 ∧ 2 ≤ x13.toInt ∧ x13.toInt ≤ 7) ∨ (¬ t1.toInt = 0 ∧ (x13.toInt = 4 ∨ x13.toInt = 6 ∨ x13.toInt = 8) ∧ (smF (fun j : Nat => fv P11 306 j) x13.toInt.toNat).toInt = 24))) ∨ (x28.toInt = 0 ∧ ¬ ((t1.toInt = 0 ∧ 2 ≤ x13.toInt ∧ x13.toInt ≤ 7) ∨ (¬ t1.toInt = 0 ∧ (x13.toInt = 4 ∨ x13.toInt = 6 ∨ x13.toInt = 8) ∧ (smF (fun j : Nat => fv P11 306 j) x13.toInt.toNat).toInt = 24)))) := g29
      show MEvP _ none q_126 32 [(4, .int x13), (0, .ref 301), (1, .int t1), (2, .int t2), (3, .int t3)] [.int x28] _ _ _ _
      refine mp_Tb (t := 56) (j_if_eq dX7_addsTold_32) (by decide) (fun c31 => ?_) (fun c31 => mpp 35 rfl ?_)
      · have c31 : x28.toInt = 0 := ti_eq c31
        refine mp_a (a_sipush (v := -1002) dX7_addsTold_56 rfl) (mpp 59 rfl ?_)
        have w33_ : ∀ c : Nat, ¬ (okSz t1.toInt t2.toInt c ∧ okCr t3.toInt (nC t1.toInt c)) := by
          intro c h
          have o3 := ((g14).resolve_left (by omega))
          have o4 := h.1.1.1.uniq o3.1.1
          subst o4
          have q : smF (fun j : Nat => fv P11 306 j) x13.toInt.toNat = smF (dgI t2.toInt x13.toInt.toNat) x13.toInt.toNat := smF_congr o3.2.2.2
          have q2 := congrArg Int32.toInt q
          have o5 := h.1.2
          omega
        have u32 : addsToldM (sr Po) (sr P11) (-1002 : Int) t1.toInt t2.toInt t3.toInt := Or.inl ⟨rfl, w33_, fun j => (show fv P11 302 j = fv Po 302 j from by rw [KW.at k16 j rl_302 rfl])⟩
        exact mp_iret ⟨⟨_, rfl, u32⟩, hT15, k18, R20⟩ dX7_addsTold_59 (Or.inl rfl)
      · have c31 : x28.toInt ≠ 0 := ti_eq_n c31
        refine mp_a (a_aload_n dX7_addsTold_35 rfl) (mpp 36 rfl ?_)
        refine mp_a (a_iload_n dX7_addsTold_36 rfl) (mpp 37 rfl ?_)
        refine mp_a (a_iload_n dX7_addsTold_37 rfl) (mpp 38 rfl ?_)
        refine mp_Tb (t := 48) (j_if_ne dX7_addsTold_38) (by decide) (fun c34 => ?_) (fun c34 => mpp 41 rfl ?_)
        · have c34 : t1.toInt ≠ 0 := ti_ne c34
          refine mp_a (a_iload dX7_addsTold_48 rfl) (mpp 50 rfl ?_)
          have p35 : 0 ≤ x13.toInt := by omega
          have p36 : x13.toInt ≤ 8 := by omega
          refine mt_callv (i := 111) (q' := q_132) (As := [.int t3, .int x13]) (rest := []) hT15 dX7_addsTold_50 rfl qm_132 (by decide) rfl rl_301 (by decide) rfl (Nat.le_of_ble_eq_true rfl) rfl ⟨rfl, rfl⟩ ⟨Nat.le_of_ble_eq_true rfl, Nat.le_of_ble_eq_true rfl⟩ (EvP.mono (by decide) (c_M_laysCreases hT15 p35 p36 )) (fun r37 P38 g39 => mpp 53 rfl ?_)
          obtain ⟨⟨x40, rfl, g41⟩, hT42, k43, R44⟩ := g39
          have k45 : KW [1093, 1094, 1152, 1408, 1472] Po P38 := KW.trans k18 k43 rfl
          have R47 := Rel.kw R20 k43 rfl
          have wx40 := ti_full x40
          replace g41 : 0 ≤ x40.toInt ∧ x40.toInt ≤ 1 ∧ ((x40.toInt = 1 ∧ okCr t3.toInt x13.toInt.toNat ∧ ∀ j : Nat, j < x13.toInt.toNat → fv P38 307 j = dgI t3.toInt x13.toInt.toNat j) ∨ (x40.toInt = 0 ∧ ¬ okCr t3.toInt x13.toInt.toNat)) := g41
          show MEvP _ none q_126 53 [(4, .int x13), (0, .ref 301), (1, .int t1), (2, .int t2), (3, .int t3)] [.int x40] _ _ _ _
          refine mp_Tb (t := 60) (j_if_ne dX7_addsTold_53) (by decide) (fun c48 => ?_) (fun c48 => mpp 56 rfl ?_)
          · have c48 : x40.toInt ≠ 0 := ti_ne c48
            refine mp_a (a_aload_n dX7_addsTold_60 rfl) (mpp 61 rfl ?_)
            refine mp_a (a_iload_n dX7_addsTold_61 rfl) (mpp 62 rfl ?_)
            refine mp_a (a_iload dX7_addsTold_62 rfl) (mpp 64 rfl ?_)
            have p49 : 0 ≤ t1.toInt := by omega
            have p50 : t1.toInt ≤ 1 := by omega
            have p51 : 2 ≤ x13.toInt := by omega
            have p52 : x13.toInt ≤ 8 := by omega
            have p53 : t1.toInt ≠ 0 ∨ x13.toInt ≤ 7 := by omega
            refine mt_callv (i := 114) (q' := q_133) (As := [.int t1, .int x13]) (rest := []) hT42 dX7_addsTold_64 rfl qm_133 (by decide) rfl rl_301 (by decide) rfl (Nat.le_of_ble_eq_true rfl) rfl ⟨rfl, rfl⟩ ⟨Nat.le_of_ble_eq_true rfl, Nat.le_of_ble_eq_true rfl⟩ (EvP.mono (by decide) (c_M_adds hT42 R47 p49 p50 p51 p52 p53 )) (fun r54 P55 g56 => mpp 67 rfl ?_)
            obtain ⟨⟨x57, rfl, g58⟩, hT59, k60, R61⟩ := g56
            have k62 : KW [1093, 1094, 1152, 1408, 1472] Po P55 := KW.trans k45 k60 rfl
            have wx57 := ti_full x57
            replace g58 : addsM (sr P38) (sr P55) (fun j : Nat => fv P38 306 j) (fun j : Nat => fv P38 307 j) x57.toInt t1.toInt x13.toInt := g58
            show MEvP _ none q_126 67 [(4, .int x13), (0, .ref 301), (1, .int t1), (2, .int t2), (3, .int t3)] [.int x57] _ _ _ _
            have w65_e : sr P38 = sr Po := funext (fun j => by show fv P38 302 j = fv Po 302 j; rw [KW.at k43 j rl_302 rfl, KW.at k16 j rl_302 rfl])
            have w65_s := g14.resolve_left (by omega)
            have w65_c := (g41.2.2.resolve_right (by omega)).2
            have w65_n : nC t1.toInt (x13.toInt.toNat : Nat) = x13.toInt.toNat := by unfold nC; split <;> omega
            rw [← w65_n] at w65_c
            have w65_q : smF (fun j : Nat => fv P11 306 j) x13.toInt.toNat = smF (dgI t2.toInt x13.toInt.toNat) x13.toInt.toNat := smF_congr w65_s.2.2.2
            have w65_r := congrArg Int32.toInt w65_q
            have w65_k : okSz t1.toInt t2.toInt x13.toInt.toNat := ⟨w65_s.1, by omega⟩
            have w65_6 : ∀ j : Nat, j < x13.toInt.toNat → fv P38 306 j = dgI t2.toInt x13.toInt.toNat j := fun j hj => (KW.at k43 j rl_306 rfl).trans (w65_s.2.2.2 j hj)
            rw [w65_e] at g58
            have w65_ : addsToldM (sr Po) (sr P55) x57.toInt t1.toInt t2.toInt t3.toInt := by
              rcases g58 with ⟨o1, o2, o3⟩ | ⟨o1, o2, o3, o4, o5, o6, o7, o8, o9⟩
              · exact Or.inr (Or.inl ⟨o1, ⟨_, w65_k, w65_c.1⟩, o2, o3⟩)
              · exact Or.inr (Or.inr ⟨o1, o2, o3, ⟨_, w65_k, w65_c.1, o4, by omega, o6, fun k hk => (o7 k (by have := w65_s.2.2.1; omega) (by omega)).trans (w65_6 k hk), fun k hk => (o8 k (by have := w65_s.2.2.1; have := nC_le (kd := t1.toInt) (c := x13.toInt.toNat); omega) (by have e : nC t1.toInt x13.toInt = nC t1.toInt (x13.toInt.toNat : Nat) := congrArg (nC t1.toInt) (by omega); rw [e]; exact hk)).trans (w65_c.2 k hk)⟩, o9⟩)
            have u64 : addsToldM (sr Po) (sr P55) x57.toInt t1.toInt t2.toInt t3.toInt := w65_
            exact mp_iret ⟨⟨_, rfl, u64⟩, hT59, k62, R61⟩ dX7_addsTold_67 (Or.inl rfl)
          · have c48 : x40.toInt = 0 := ti_ne_n c48
            refine mp_a (a_sipush (v := -1002) dX7_addsTold_56 rfl) (mpp 59 rfl ?_)
            have w67_ : ∀ c : Nat, ¬ (okSz t1.toInt t2.toInt c ∧ okCr t3.toInt (nC t1.toInt c)) := by
              intro c h
              have o3 := ((g14).resolve_left (by omega))
              have o4 := h.1.1.1.uniq o3.1.1
              subst o4
              have o5 : nC t1.toInt (x13.toInt.toNat : Nat) = x13.toInt.toNat := by unfold nC; split <;> omega
              have o6 := h.2
              rw [o5] at o6
              exact (g41.2.2.resolve_left (by omega)).2 o6
            have u66 : addsToldM (sr Po) (sr P38) (-1002 : Int) t1.toInt t2.toInt t3.toInt := Or.inl ⟨rfl, w67_, fun j => (show fv P38 302 j = fv Po 302 j from by rw [KW.at k43 j rl_302 rfl, KW.at k16 j rl_302 rfl])⟩
            exact mp_iret ⟨⟨_, rfl, u66⟩, hT42, k45, R47⟩ dX7_addsTold_59 (Or.inl rfl)
        · have c34 : t1.toInt = 0 := ti_ne_n c34
          refine mp_a (a_iload dX7_addsTold_41 rfl) (mpp 43 rfl ?_)
          refine mp_a (a_iconst (v := 1) dX7_addsTold_43 rfl) (mpp 44 rfl ?_)
          obtain ⟨z68, h69⟩ := ti_ex (x13 - 1 : Int32)
          have wz68 := ti_full z68
          refine mp_t (s_isub (v := z68) dX7_addsTold_44 h69) (mpp 45 rfl ?_)
          try have e70 : z68.toInt = x13.toInt - 1 := ti_subz h69 rfl rfl (by omega) (by omega)
          refine mp_a (a_goto (t := 50) dX7_addsTold_45 (by decide)) ?_
          have p71 : 0 ≤ z68.toInt := by omega
          have p72 : z68.toInt ≤ 8 := by omega
          refine mt_callv (i := 111) (q' := q_132) (As := [.int t3, .int z68]) (rest := []) hT15 dX7_addsTold_50 rfl qm_132 (by decide) rfl rl_301 (by decide) rfl (Nat.le_of_ble_eq_true rfl) rfl ⟨rfl, rfl⟩ ⟨Nat.le_of_ble_eq_true rfl, Nat.le_of_ble_eq_true rfl⟩ (EvP.mono (by decide) (c_M_laysCreases hT15 p71 p72 )) (fun r73 P74 g75 => mpp 53 rfl ?_)
          obtain ⟨⟨x76, rfl, g77⟩, hT78, k79, R80⟩ := g75
          have k81 : KW [1093, 1094, 1152, 1408, 1472] Po P74 := KW.trans k18 k79 rfl
          have R83 := Rel.kw R20 k79 rfl
          have wx76 := ti_full x76
          replace g77 : 0 ≤ x76.toInt ∧ x76.toInt ≤ 1 ∧ ((x76.toInt = 1 ∧ okCr t3.toInt z68.toInt.toNat ∧ ∀ j : Nat, j < z68.toInt.toNat → fv P74 307 j = dgI t3.toInt z68.toInt.toNat j) ∨ (x76.toInt = 0 ∧ ¬ okCr t3.toInt z68.toInt.toNat)) := g77
          show MEvP _ none q_126 53 [(4, .int x13), (0, .ref 301), (1, .int t1), (2, .int t2), (3, .int t3)] [.int x76] _ _ _ _
          refine mp_Tb (t := 60) (j_if_ne dX7_addsTold_53) (by decide) (fun c84 => ?_) (fun c84 => mpp 56 rfl ?_)
          · have c84 : x76.toInt ≠ 0 := ti_ne c84
            refine mp_a (a_aload_n dX7_addsTold_60 rfl) (mpp 61 rfl ?_)
            refine mp_a (a_iload_n dX7_addsTold_61 rfl) (mpp 62 rfl ?_)
            refine mp_a (a_iload dX7_addsTold_62 rfl) (mpp 64 rfl ?_)
            have p85 : 0 ≤ t1.toInt := by omega
            have p86 : t1.toInt ≤ 1 := by omega
            have p87 : 2 ≤ x13.toInt := by omega
            have p88 : x13.toInt ≤ 8 := by omega
            have p89 : t1.toInt ≠ 0 ∨ x13.toInt ≤ 7 := by omega
            refine mt_callv (i := 114) (q' := q_133) (As := [.int t1, .int x13]) (rest := []) hT78 dX7_addsTold_64 rfl qm_133 (by decide) rfl rl_301 (by decide) rfl (Nat.le_of_ble_eq_true rfl) rfl ⟨rfl, rfl⟩ ⟨Nat.le_of_ble_eq_true rfl, Nat.le_of_ble_eq_true rfl⟩ (EvP.mono (by decide) (c_M_adds hT78 R83 p85 p86 p87 p88 p89 )) (fun r90 P91 g92 => mpp 67 rfl ?_)
            obtain ⟨⟨x93, rfl, g94⟩, hT95, k96, R97⟩ := g92
            have k98 : KW [1093, 1094, 1152, 1408, 1472] Po P91 := KW.trans k81 k96 rfl
            have wx93 := ti_full x93
            replace g94 : addsM (sr P74) (sr P91) (fun j : Nat => fv P74 306 j) (fun j : Nat => fv P74 307 j) x93.toInt t1.toInt x13.toInt := g94
            show MEvP _ none q_126 67 [(4, .int x13), (0, .ref 301), (1, .int t1), (2, .int t2), (3, .int t3)] [.int x93] _ _ _ _
            have w101_e : sr P74 = sr Po := funext (fun j => by show fv P74 302 j = fv Po 302 j; rw [KW.at k79 j rl_302 rfl, KW.at k16 j rl_302 rfl])
            have w101_s := g14.resolve_left (by omega)
            have w101_c := (g77.2.2.resolve_right (by omega)).2
            have w101_n : nC t1.toInt (x13.toInt.toNat : Nat) = z68.toInt.toNat := by unfold nC; split <;> omega
            rw [← w101_n] at w101_c
            have w101_q : smF (fun j : Nat => fv P11 306 j) x13.toInt.toNat = smF (dgI t2.toInt x13.toInt.toNat) x13.toInt.toNat := smF_congr w101_s.2.2.2
            have w101_r := congrArg Int32.toInt w101_q
            have w101_k : okSz t1.toInt t2.toInt x13.toInt.toNat := ⟨w101_s.1, by omega⟩
            have w101_6 : ∀ j : Nat, j < x13.toInt.toNat → fv P74 306 j = dgI t2.toInt x13.toInt.toNat j := fun j hj => (KW.at k79 j rl_306 rfl).trans (w101_s.2.2.2 j hj)
            rw [w101_e] at g94
            have w101_ : addsToldM (sr Po) (sr P91) x93.toInt t1.toInt t2.toInt t3.toInt := by
              rcases g94 with ⟨o1, o2, o3⟩ | ⟨o1, o2, o3, o4, o5, o6, o7, o8, o9⟩
              · exact Or.inr (Or.inl ⟨o1, ⟨_, w101_k, w101_c.1⟩, o2, o3⟩)
              · exact Or.inr (Or.inr ⟨o1, o2, o3, ⟨_, w101_k, w101_c.1, o4, by omega, o6, fun k hk => (o7 k (by have := w101_s.2.2.1; omega) (by omega)).trans (w101_6 k hk), fun k hk => (o8 k (by have := w101_s.2.2.1; have := nC_le (kd := t1.toInt) (c := x13.toInt.toNat); omega) (by have e : nC t1.toInt x13.toInt = nC t1.toInt (x13.toInt.toNat : Nat) := congrArg (nC t1.toInt) (by omega); rw [e]; exact hk)).trans (w101_c.2 k hk)⟩, o9⟩)
            have u100 : addsToldM (sr Po) (sr P91) x93.toInt t1.toInt t2.toInt t3.toInt := w101_
            exact mp_iret ⟨⟨_, rfl, u100⟩, hT95, k98, R97⟩ dX7_addsTold_67 (Or.inl rfl)
          · have c84 : x76.toInt = 0 := ti_ne_n c84
            refine mp_a (a_sipush (v := -1002) dX7_addsTold_56 rfl) (mpp 59 rfl ?_)
            have w103_ : ∀ c : Nat, ¬ (okSz t1.toInt t2.toInt c ∧ okCr t3.toInt (nC t1.toInt c)) := by
              intro c h
              have o3 := ((g14).resolve_left (by omega))
              have o4 := h.1.1.1.uniq o3.1.1
              subst o4
              have o5 : nC t1.toInt (x13.toInt.toNat : Nat) = z68.toInt.toNat := by unfold nC; split <;> omega
              have o6 := h.2
              rw [o5] at o6
              exact (g77.2.2.resolve_left (by omega)).2 o6
            have u102 : addsToldM (sr Po) (sr P74) (-1002 : Int) t1.toInt t2.toInt t3.toInt := Or.inl ⟨rfl, w103_, fun j => (show fv P74 302 j = fv Po 302 j from by rw [KW.at k79 j rl_302 rfl, KW.at k16 j rl_302 rfl])⟩
            exact mp_iret ⟨⟨_, rfl, u102⟩, hT78, k81, R83⟩ dX7_addsTold_59 (Or.inl rfl)

