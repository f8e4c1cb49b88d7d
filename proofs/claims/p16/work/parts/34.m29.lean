/-! methods on typed pools, 29 (written by a program) -/
set_option maxHeartbeats 4000000 in
theorem c_M_rotates_l107 {Po : mP} {t1 : Int32} {t2 : Int32}  : ∀ (n : Nat) (v3 : Int32) (v4 : Int32) (v5 : Int32), ∀ (P : mP), Typ P → KW [1093, 1094, 1152, 1408, 1472] Po P → Rel P → (0 ≤ t1.toInt ∧ t1.toInt ≤ 7 ∧ 0 ≤ t2.toInt ∧ t2.toInt ≤ 7) → (v3.toInt = (fv Po 302 (4 + 19 * t1.toInt.toNat)).toInt ∧ v3.toInt ≤ 8) → (∀ j : Nat, j < v3.toInt.toNat → fv P 306 j = (fun j : Nat => fv Po 302 (6 + 19 * t1.toInt.toNat + RTX t2.toInt (fv Po 302 (4 + 19 * t1.toInt.toNat)).toInt j)) j ∧ fv P 307 j = (fun j : Nat => fv Po 302 (14 + 19 * t1.toInt.toNat + RTX t2.toInt (fv Po 302 (4 + 19 * t1.toInt.toNat)).toInt j)) j) → (W2 Po P (fun _ => False) (6 + 19 * t1.toInt.toNat) (14 + 19 * t1.toInt.toNat) (fun j : Nat => fv Po 302 (6 + 19 * t1.toInt.toNat + RTX t2.toInt (fv Po 302 (4 + 19 * t1.toInt.toNat)).toInt j)) (fun j : Nat => fv Po 302 (14 + 19 * t1.toInt.toNat + RTX t2.toInt (fv Po 302 (4 + 19 * t1.toInt.toNat)).toInt j)) v5.toInt.toNat v5.toInt.toNat) → (v4 = nmF (fun j : Nat => fv Po 302 (6 + 19 * t1.toInt.toNat + RTX t2.toInt (fv Po 302 (4 + 19 * t1.toInt.toNat)).toInt j)) v5.toInt.toNat) → (v5.toInt ≤ v3.toInt ∨ v5.toInt = 0) → (t1.toInt + 1 ≤ (fv Po 302 0).toInt ∧ (fv Po 302 (5 + 19 * t1.toInt.toNat)).toInt ≠ 1 ∧ (fv Po 302 (3 + 19 * t1.toInt.toNat)).toInt = 1 ∧ t2.toInt < (fv Po 302 (4 + 19 * t1.toInt.toNat)).toInt ∧ (fv Po 302 (4 + 19 * t1.toInt.toNat)).toInt ≤ 8) → (0 ≤ v5.toInt) → (2147483647 - v5.toInt).toNat = n → MEvP 5 none q_151 107 [(0, .ref 301), (1, .int t1), (2, .int t2), (3, .int v3), (4, .int v4), (5, .int v5)] [] P 0 0 (fun r P' => (∃ x : Int32, r = some (.int x) ∧ (rotatesM (sr Po) (sr P') x.toInt t1.toInt t2.toInt)) ∧ Typ P' ∧ KW [1093, 1094, 1152, 1408, 1472] Po P' ∧ Rel P') := by
  intro n
  induction n using Nat.strongRecOn with | _ n ih => ?_
  intro v3 v4 v5 P hT hK hR i_0 i_1 i_2 i_3 i_4 i_5 i_6 i_7 hm
  have w_t1 := ti_full t1
  have w_t2 := ti_full t2
  have w_v3 := ti_full v3
  have w_v4 := ti_full v4
  have w_v5 := ti_full v5
  refine mp_a (a_iload dX7_rotates_107 rfl) (mpp 109 rfl ?_)
  refine mp_a (a_iload_n dX7_rotates_109 rfl) (mpp 110 rfl ?_)
  refine mp_Tb (t := 175) (j_icmp_ge dX7_rotates_110) (by decide) (fun c1 => ?_) (fun c1 => mpp 113 rfl ?_)
  · have c1 : v5.toInt ≥ v3.toInt := ti_ge c1
    refine mp_a (a_iload dX7_rotates_175 rfl) (mpp 177 rfl ?_)
    have u2 : rotatesM (sr Po) (sr P) v4.toInt t1.toInt t2.toInt := (show (v4.toInt = -1001 ∧ ((t1.toInt < 0 ∨ (fv Po 302 (0)).toInt ≤ t1.toInt) ∨ ((0 ≤ t1.toInt ∧ t1.toInt + 1 ≤ (fv Po 302 (0)).toInt ∧ t1.toInt ≤ 7) ∧ (t2.toInt < 0 ∨ ((fv Po 302 (3 + 19 * t1.toInt.toNat)).toInt = 1 ∧ (fv Po 302 (4 + 19 * t1.toInt.toNat)).toInt ≤ t2.toInt) ∨ ((fv Po 302 (3 + 19 * t1.toInt.toNat)).toInt = 0 ∧ (fv Po 302 (4 + 19 * t1.toInt.toNat)).toInt - 1 ≤ t2.toInt)))) ∧ (∀ j : Nat, fv P 302 j = fv Po 302 j)) ∨ (v4.toInt = -1003 ∧ (0 ≤ t1.toInt ∧ t1.toInt + 1 ≤ (fv Po 302 (0)).toInt ∧ t1.toInt ≤ 7) ∧ (0 ≤ t2.toInt ∧ t2.toInt ≤ 7 ∧ (((fv Po 302 (3 + 19 * t1.toInt.toNat)).toInt = 1 ∧ t2.toInt < (fv Po 302 (4 + 19 * t1.toInt.toNat)).toInt) ∨ ((fv Po 302 (3 + 19 * t1.toInt.toNat)).toInt = 0 ∧ t2.toInt < (fv Po 302 (4 + 19 * t1.toInt.toNat)).toInt - 1))) ∧ ((fv Po 302 (5 + 19 * t1.toInt.toNat)).toInt = 1 ∨ ¬ (fv Po 302 (3 + 19 * t1.toInt.toNat)).toInt = 1) ∧ (∀ j : Nat, fv P 302 j = fv Po 302 j)) ∨ ((0 ≤ t1.toInt ∧ t1.toInt + 1 ≤ (fv Po 302 (0)).toInt ∧ t1.toInt ≤ 7) ∧ (0 ≤ t2.toInt ∧ t2.toInt ≤ 7 ∧ (((fv Po 302 (3 + 19 * t1.toInt.toNat)).toInt = 1 ∧ t2.toInt < (fv Po 302 (4 + 19 * t1.toInt.toNat)).toInt) ∨ ((fv Po 302 (3 + 19 * t1.toInt.toNat)).toInt = 0 ∧ t2.toInt < (fv Po 302 (4 + 19 * t1.toInt.toNat)).toInt - 1))) ∧ ¬ (fv Po 302 (5 + 19 * t1.toInt.toNat)).toInt = 1 ∧ (fv Po 302 (3 + 19 * t1.toInt.toNat)).toInt = 1 ∧ v4.toInt = (nmF (fun j : Nat => fv Po 302 (6 + 19 * t1.toInt.toNat + RTX t2.toInt ((fv Po 302 (4 + 19 * t1.toInt.toNat)).toInt) j)) ((fv Po 302 (4 + 19 * t1.toInt.toNat)).toInt).toNat).toInt ∧ (∀ j : Nat, j < ((fv Po 302 (4 + 19 * t1.toInt.toNat)).toInt).toNat → fv P 302 (6 + 19 * t1.toInt.toNat + j) = fv Po 302 (6 + 19 * t1.toInt.toNat + RTX t2.toInt ((fv Po 302 (4 + 19 * t1.toInt.toNat)).toInt) j)) ∧ (∀ j : Nat, j < ((fv Po 302 (4 + 19 * t1.toInt.toNat)).toInt).toNat → fv P 302 (14 + 19 * t1.toInt.toNat + j) = fv Po 302 (14 + 19 * t1.toInt.toNat + RTX t2.toInt ((fv Po 302 (4 + 19 * t1.toInt.toNat)).toInt) j)) ∧ (∀ j : Nat, ¬ (6 + 19 * t1.toInt.toNat ≤ j ∧ j < 14 + 19 * t1.toInt.toNat) → ¬ (14 + 19 * t1.toInt.toNat ≤ j ∧ j < 22 + 19 * t1.toInt.toNat) → fv P 302 j = fv Po 302 j)) from Or.inr (Or.inr (⟨by omega, by omega, by omega, by omega, congrArg Int32.toInt (i_4.trans (congrArg (nmF _) (by omega))), fun j hj => i_3.1 j (by omega), fun j hj => i_3.2.1 j (by omega), fun j h1 h2 => i_3.2.2 j (fun h => h) (by omega) (by omega)⟩)))
    exact mp_iret ⟨⟨_, rfl, u2⟩, hT, hK, hR⟩ dX7_rotates_177 (Or.inl rfl)
  · have c1 : v5.toInt < v3.toInt := ti_ge_n c1
    refine mp_a (a_aload_n dX7_rotates_113 rfl) (mpp 114 rfl ?_)
    refine mt_getU (i := 9) (k := 0) (A := 302) hT dX7_rotates_114 rfl rl_301 (by decide) rfl (by decide) rfl un_18 (mpp 117 rfl ?_)
    refine mp_a (a_iload_n dX7_rotates_117 rfl) (mpp 118 rfl ?_)
    refine mp_a (a_iconst (v := 3) dX7_rotates_118 rfl) (mpp 119 rfl ?_)
    refine mp_a (a_iload dX7_rotates_119 rfl) (mpp 121 rfl ?_)
    obtain ⟨z3, h4⟩ := ti_ex (3 + v5 : Int32)
    have wz3 := ti_full z3
    refine mp_t (s_iadd (v := z3) dX7_rotates_121 h4) (mpp 122 rfl ?_)
    try have e5 : z3.toInt = 3 + v5.toInt := ti_addz h4 rfl rfl (by omega) (by omega)
    have p6 : 0 ≤ t1.toInt := by omega
    have p7 : t1.toInt ≤ 8 := by omega
    have p8 : 0 ≤ z3.toInt := by omega
    have p9 : z3.toInt ≤ 20 := by omega
    refine mp_calls (i := 74) (q' := q_135) (As := [.int t1, .int z3]) (rest := [.ref 302]) dX7_rotates_122 rfl qm_135 (by decide) rfl (Nat.le_of_ble_eq_true rfl) rfl ⟨rfl, rfl⟩ ⟨Nat.le_of_ble_eq_true rfl, Nat.le_of_ble_eq_true rfl⟩ (EvP.mono (by decide) (c_M_at hT p6 p7 p8 p9 )) (fun r10 P11 g12 => mpp 125 rfl ?_)
    obtain ⟨⟨x13, rfl, g14⟩, e15⟩ := g12
    have e15 := e15.symm
    subst e15
    have wx13 := ti_full x13
    replace g14 : x13.toInt = 3 + 19 * t1.toInt + z3.toInt := g14
    show MEvP _ none q_151 125 [(0, .ref 301), (1, .int t1), (2, .int t2), (3, .int v3), (4, .int v4), (5, .int v5)] [.int x13, .ref 302] _ _ _ _
    refine mp_a (a_aload_n dX7_rotates_125 rfl) (mpp 126 rfl ?_)
    refine mt_getU (i := 22) (k := 9) (A := 306) hT dX7_rotates_126 rfl rl_301 (by decide) rfl (by decide) rfl un_22 (mpp 129 rfl ?_)
    refine mp_a (a_iload dX7_rotates_129 rfl) (mpp 131 rfl ?_)
    refine mt_ial (n := 8) hT dX7_rotates_131 rl_306 (by decide) rfl rfl (by omega) (by omega) rfl (fun g16 g17 => mpp 132 rfl ?_)
    refine mt_iasX (n := 155) hT dX7_rotates_132 rl_302 (by decide) rfl rfl (by omega) (by omega) ssp_0 (okS_mk (by omega) (fun _ => ⟨by omega, by omega⟩) (fun _ => ⟨by omega, by omega⟩)) (fun P18 hT19 f20 f21 f22 => mpp 133 rfl ?_)
    have k23 : KW [1093, 1094, 1152, 1408, 1472] Po P18 := KW.step hK rl_302 rfl f21 f22
    have R24 := Rel.oth hR f21 (by omega)
    refine mp_a (a_aload_n dX7_rotates_133 rfl) (mpp 134 rfl ?_)
    refine mt_getU (i := 9) (k := 0) (A := 302) hT19 dX7_rotates_134 rfl rl_301 (by decide) rfl (by decide) rfl un_18 (mpp 137 rfl ?_)
    refine mp_a (a_iload_n dX7_rotates_137 rfl) (mpp 138 rfl ?_)
    refine mp_a (a_bipush (v := 11) dX7_rotates_138 rfl) (mpp 140 rfl ?_)
    refine mp_a (a_iload dX7_rotates_140 rfl) (mpp 142 rfl ?_)
    obtain ⟨z25, h26⟩ := ti_ex (11 + v5 : Int32)
    have wz25 := ti_full z25
    refine mp_t (s_iadd (v := z25) dX7_rotates_142 h26) (mpp 143 rfl ?_)
    try have e27 : z25.toInt = 11 + v5.toInt := ti_addz h26 rfl rfl (by omega) (by omega)
    have p28 : 0 ≤ t1.toInt := by omega
    have p29 : t1.toInt ≤ 8 := by omega
    have p30 : 0 ≤ z25.toInt := by omega
    have p31 : z25.toInt ≤ 20 := by omega
    refine mp_calls (i := 74) (q' := q_135) (As := [.int t1, .int z25]) (rest := [.ref 302]) dX7_rotates_143 rfl qm_135 (by decide) rfl (Nat.le_of_ble_eq_true rfl) rfl ⟨rfl, rfl⟩ ⟨Nat.le_of_ble_eq_true rfl, Nat.le_of_ble_eq_true rfl⟩ (EvP.mono (by decide) (c_M_at hT19 p28 p29 p30 p31 )) (fun r32 P33 g34 => mpp 146 rfl ?_)
    obtain ⟨⟨x35, rfl, g36⟩, e37⟩ := g34
    have e37 := e37.symm
    subst e37
    have wx35 := ti_full x35
    replace g36 : x35.toInt = 3 + 19 * t1.toInt + z25.toInt := g36
    show MEvP _ none q_151 146 [(0, .ref 301), (1, .int t1), (2, .int t2), (3, .int v3), (4, .int v4), (5, .int v5)] [.int x35, .ref 302] _ _ _ _
    refine mp_a (a_aload_n dX7_rotates_146 rfl) (mpp 147 rfl ?_)
    refine mt_getU (i := 25) (k := 10) (A := 307) hT19 dX7_rotates_147 rfl rl_301 (by decide) rfl (by decide) rfl un_23 (mpp 150 rfl ?_)
    refine mp_a (a_iload dX7_rotates_150 rfl) (mpp 152 rfl ?_)
    refine mt_ial (n := 8) hT19 dX7_rotates_152 rl_307 (by decide) rfl rfl (by omega) (by omega) rfl (fun g38 g39 => mpp 153 rfl ?_)
    refine mt_iasX (n := 155) hT19 dX7_rotates_153 rl_302 (by decide) rfl rfl (by omega) (by omega) ssp_0 (okS_mk (by omega) (fun _ => ⟨by omega, by omega⟩) (fun _ => ⟨by omega, by omega⟩)) (fun P40 hT41 f42 f43 f44 => mpp 154 rfl ?_)
    have k45 : KW [1093, 1094, 1152, 1408, 1472] Po P40 := KW.step k23 rl_302 rfl f43 f44
    have R46 := Rel.oth R24 f43 (by omega)
    refine mp_a (a_bipush (v := 10) dX7_rotates_154 rfl) (mpp 156 rfl ?_)
    refine mp_a (a_iload dX7_rotates_156 rfl) (mpp 158 rfl ?_)
    obtain ⟨z47, h48⟩ := ti_ex (10 * v4 : Int32)
    have wz47 := ti_full z47
    refine mp_t (s_imul (v := z47) dX7_rotates_158 h48) (mpp 159 rfl ?_)
    try have e49 : z47.toInt = 10 * v4.toInt := ti_mulz h48 rfl rfl (by omega) (by omega)
    refine mp_a (a_aload_n dX7_rotates_159 rfl) (mpp 160 rfl ?_)
    refine mt_getU (i := 22) (k := 9) (A := 306) hT41 dX7_rotates_160 rfl rl_301 (by decide) rfl (by decide) rfl un_22 (mpp 163 rfl ?_)
    refine mp_a (a_iload dX7_rotates_163 rfl) (mpp 165 rfl ?_)
    refine mt_ial (n := 8) hT41 dX7_rotates_165 rl_306 (by decide) rfl rfl (by omega) (by omega) rfl (fun g50 g51 => mpp 166 rfl ?_)
    obtain ⟨z52, h53⟩ := ti_ex (z47 + (fv P40 306 v5.toInt.toNat) : Int32)
    have wz52 := ti_full z52
    refine mp_t (s_iadd (v := z52) dX7_rotates_166 h53) (mpp 167 rfl ?_)
    try have e54 : z52.toInt = z47.toInt + (fv P40 306 v5.toInt.toNat).toInt := ti_addz h53 rfl rfl (by omega) (by omega)
    refine mp_a (a_istore (L' := [(4, .int z52), (0, .ref 301), (1, .int t1), (2, .int t2), (3, .int v3), (5, .int v5)]) dX7_rotates_167 (by decide) rfl) (mpp 169 rfl ?_)
    obtain ⟨z55, h56⟩ := ti_ex (v5 + 1 : Int32)
    have wz55 := ti_full z55
    refine mp_a (a_iinc (v := z55) (L' := [(5, .int z55), (4, .int z52), (0, .ref 301), (1, .int t1), (2, .int t2), (3, .int v3)]) dX7_rotates_169 (by decide) rfl h56 rfl) (mpp 172 rfl ?_)
    try have e57 : z55.toInt = v5.toInt + 1 := ti_addz h56 rfl rfl (by omega) (by omega)
    refine mp_a (a_goto (t := 107) dX7_rotates_172 (by decide)) ?_
    refine MEvP.less (L := [(0, .ref 301), (1, .int t1), (2, .int t2), (3, .int v3), (4, .int z52), (5, .int z55)]) rfl rfl ⟨rfl, rfl, rfl, rfl, rfl, rfl, trivial⟩ ?_
    have i58 : 0 ≤ t1.toInt ∧ t1.toInt ≤ 7 ∧ 0 ≤ t2.toInt ∧ t2.toInt ≤ 7 := by omega
    have i59 : v3.toInt = (fv Po 302 (4 + 19 * t1.toInt.toNat)).toInt ∧ v3.toInt ≤ 8 := by omega
    have i60 : ∀ j : Nat, j < v3.toInt.toNat → fv P40 306 j = (fun j : Nat => fv Po 302 (6 + 19 * t1.toInt.toNat + RTX t2.toInt (fv Po 302 (4 + 19 * t1.toInt.toNat)).toInt j)) j ∧ fv P40 307 j = (fun j : Nat => fv Po 302 (14 + 19 * t1.toInt.toNat + RTX t2.toInt (fv Po 302 (4 + 19 * t1.toInt.toNat)).toInt j)) j := fun j hj => ⟨by rw [f43 306 j (by omega), f21 306 j (by omega)]; exact (i_2 j hj).1, by rw [f43 307 j (by omega), f21 307 j (by omega)]; exact (i_2 j hj).2⟩
    have w62_ := W2.one i_3 (i' := v5.toInt.toNat + 1) rfl (n := x13.toInt.toNat) (by omega) (congrArg Int32.toInt f20) (congrArg Int32.toInt (i_2 v5.toInt.toNat (by omega)).1) (fun j hj => f21 302 j (fun e => hj e.2)) (Or.inl (by omega))
    have i61 : W2 Po P40 (fun _ => False) (6 + 19 * t1.toInt.toNat) (14 + 19 * t1.toInt.toNat) (fun j : Nat => fv Po 302 (6 + 19 * t1.toInt.toNat + RTX t2.toInt (fv Po 302 (4 + 19 * t1.toInt.toNat)).toInt j)) (fun j : Nat => fv Po 302 (14 + 19 * t1.toInt.toNat + RTX t2.toInt (fv Po 302 (4 + 19 * t1.toInt.toNat)).toInt j)) z55.toInt.toNat z55.toInt.toNat := (W2.two w62_ (k' := v5.toInt.toNat + 1) rfl (n := x35.toInt.toNat) (by omega) (congrArg Int32.toInt f42) (congrArg Int32.toInt ((f21 307 v5.toInt.toNat (by omega)).trans (i_2 v5.toInt.toNat (by omega)).2)) (fun j hj => f43 302 j (fun e => hj e.2)) (Or.inr (by omega))).fin (by omega) (by omega)
    have i63 : z52 = nmF (fun j : Nat => fv Po 302 (6 + 19 * t1.toInt.toNat + RTX t2.toInt (fv Po 302 (4 + 19 * t1.toInt.toNat)).toInt j)) z55.toInt.toNat := nmF.step2 i_4 (by omega) (congrArg Int32.toInt ((f43 306 v5.toInt.toNat (by omega)).trans ((f21 306 v5.toInt.toNat (by omega)).trans (i_2 v5.toInt.toNat (by omega)).1))) h48 h53
    have i64 : z55.toInt ≤ v3.toInt ∨ z55.toInt = 0 := by omega
    have i65 : t1.toInt + 1 ≤ (fv Po 302 0).toInt ∧ (fv Po 302 (5 + 19 * t1.toInt.toNat)).toInt ≠ 1 ∧ (fv Po 302 (3 + 19 * t1.toInt.toNat)).toInt = 1 ∧ t2.toInt < (fv Po 302 (4 + 19 * t1.toInt.toNat)).toInt ∧ (fv Po 302 (4 + 19 * t1.toInt.toNat)).toInt ≤ 8 := by omega
    have i66 : 0 ≤ z55.toInt := by omega
    exact ih _ (by omega) _ _ _ P40 hT41 k45 R46 i58 i59 i60 i61 i63 i64 i65 i66 rfl

set_option maxHeartbeats 4000000 in
theorem c_M_rotates_l53 {Po : mP} {t1 : Int32} {t2 : Int32}  : ∀ (n : Nat) (v3 : Int32) (v4 : Int32), ∀ (P : mP), Typ P → KW [1093, 1094, 1152, 1408, 1472] Po P → Rel P → (0 ≤ t1.toInt ∧ t1.toInt ≤ 7 ∧ 0 ≤ t2.toInt ∧ t2.toInt ≤ 7) → (v3.toInt = (fv Po 302 (4 + 19 * t1.toInt.toNat)).toInt ∧ v3.toInt ≤ 8) → (ROW Po P 306 (fun j : Nat => fv Po 302 (6 + 19 * t1.toInt.toNat + RTX t2.toInt (fv Po 302 (4 + 19 * t1.toInt.toNat)).toInt j)) v4.toInt.toNat) → (ROW Po P 307 (fun j : Nat => fv Po 302 (14 + 19 * t1.toInt.toNat + RTX t2.toInt (fv Po 302 (4 + 19 * t1.toInt.toNat)).toInt j)) v4.toInt.toNat) → (∀ j : Nat, fv P 302 j = fv Po 302 j) → (v4.toInt ≤ v3.toInt ∨ v4.toInt = 0) → (t1.toInt + 1 ≤ (fv Po 302 0).toInt ∧ (fv Po 302 (5 + 19 * t1.toInt.toNat)).toInt ≠ 1 ∧ (fv Po 302 (3 + 19 * t1.toInt.toNat)).toInt = 1 ∧ t2.toInt < (fv Po 302 (4 + 19 * t1.toInt.toNat)).toInt ∧ (fv Po 302 (4 + 19 * t1.toInt.toNat)).toInt ≤ 8) → (0 ≤ v4.toInt) → (2147483647 - v4.toInt).toNat = n → MEvP 5 none q_151 53 [(0, .ref 301), (1, .int t1), (2, .int t2), (3, .int v3), (4, .int v4)] [] P 0 0 (fun r P' => (∃ x : Int32, r = some (.int x) ∧ (rotatesM (sr Po) (sr P') x.toInt t1.toInt t2.toInt)) ∧ Typ P' ∧ KW [1093, 1094, 1152, 1408, 1472] Po P' ∧ Rel P') := by
  intro n
  induction n using Nat.strongRecOn with | _ n ih => ?_
  intro v3 v4 P hT hK hR i_0 i_1 i_2 i_3 i_4 i_5 i_6 i_7 hm
  have w_t1 := ti_full t1
  have w_t2 := ti_full t2
  have w_v3 := ti_full v3
  have w_v4 := ti_full v4
  refine mp_a (a_iload dX7_rotates_53 rfl) (mpp 55 rfl ?_)
  refine mp_a (a_iload_n dX7_rotates_55 rfl) (mpp 56 rfl ?_)
  refine mp_Tb (t := 101) (j_icmp_ge dX7_rotates_56) (by decide) (fun c1 => ?_) (fun c1 => mpp 59 rfl ?_)
  · have c1 : v4.toInt ≥ v3.toInt := ti_ge c1
    refine mp_a (a_iconst (v := 0) dX7_rotates_101 rfl) (mpp 102 rfl ?_)
    refine mp_a (a_istore (L' := [(4, .int 0), (0, .ref 301), (1, .int t1), (2, .int t2), (3, .int v3)]) dX7_rotates_102 (by decide) rfl) (mpp 104 rfl ?_)
    refine mp_a (a_iconst (v := 0) dX7_rotates_104 rfl) (mpp 105 rfl ?_)
    refine mp_a (a_istore (L' := [(5, .int 0), (4, .int 0), (0, .ref 301), (1, .int t1), (2, .int t2), (3, .int v3)]) dX7_rotates_105 (by decide) rfl) (mpp 107 rfl ?_)
    refine MEvP.less (L := [(0, .ref 301), (1, .int t1), (2, .int t2), (3, .int v3), (4, .int 0), (5, .int 0)]) rfl rfl ⟨rfl, rfl, rfl, rfl, rfl, rfl, trivial⟩ ?_
    have i2 : 0 ≤ t1.toInt ∧ t1.toInt ≤ 7 ∧ 0 ≤ t2.toInt ∧ t2.toInt ≤ 7 := by omega
    have i3 : v3.toInt = (fv Po 302 (4 + 19 * t1.toInt.toNat)).toInt ∧ v3.toInt ≤ 8 := by omega
    have i4 : ∀ j : Nat, j < v3.toInt.toNat → fv P 306 j = (fun j : Nat => fv Po 302 (6 + 19 * t1.toInt.toNat + RTX t2.toInt (fv Po 302 (4 + 19 * t1.toInt.toNat)).toInt j)) j ∧ fv P 307 j = (fun j : Nat => fv Po 302 (14 + 19 * t1.toInt.toNat + RTX t2.toInt (fv Po 302 (4 + 19 * t1.toInt.toNat)).toInt j)) j := fun j hj => ⟨i_2.1 j (by omega), i_3.1 j (by omega)⟩
    have i5 : W2 Po P (fun _ => False) (6 + 19 * t1.toInt.toNat) (14 + 19 * t1.toInt.toNat) (fun j : Nat => fv Po 302 (6 + 19 * t1.toInt.toNat + RTX t2.toInt (fv Po 302 (4 + 19 * t1.toInt.toNat)).toInt j)) (fun j : Nat => fv Po 302 (14 + 19 * t1.toInt.toNat + RTX t2.toInt (fv Po 302 (4 + 19 * t1.toInt.toNat)).toInt j)) (0 : Int).toNat (0 : Int).toNat := W2.start rfl rfl (fun j _ => i_4 j)
    have i6 : 0 = nmF (fun j : Nat => fv Po 302 (6 + 19 * t1.toInt.toNat + RTX t2.toInt (fv Po 302 (4 + 19 * t1.toInt.toNat)).toInt j)) (0 : Int).toNat := rfl
    have i7 : (0 : Int) ≤ v3.toInt ∨ (0 : Int) = 0 := by omega
    have i8 : t1.toInt + 1 ≤ (fv Po 302 0).toInt ∧ (fv Po 302 (5 + 19 * t1.toInt.toNat)).toInt ≠ 1 ∧ (fv Po 302 (3 + 19 * t1.toInt.toNat)).toInt = 1 ∧ t2.toInt < (fv Po 302 (4 + 19 * t1.toInt.toNat)).toInt ∧ (fv Po 302 (4 + 19 * t1.toInt.toNat)).toInt ≤ 8 := by omega
    have i9 : 0 ≤ (0 : Int) := by omega
    exact c_M_rotates_l107    _ _ _ _ P hT hK hR i2 i3 i4 i5 i6 i7 i8 i9 rfl
  · have c1 : v4.toInt < v3.toInt := ti_ge_n c1
    refine mp_a (a_aload_n dX7_rotates_59 rfl) (mpp 60 rfl ?_)
    refine mt_getU (i := 22) (k := 9) (A := 306) hT dX7_rotates_60 rfl rl_301 (by decide) rfl (by decide) rfl un_22 (mpp 63 rfl ?_)
    refine mp_a (a_iload dX7_rotates_63 rfl) (mpp 65 rfl ?_)
    refine mp_a (a_aload_n dX7_rotates_65 rfl) (mpp 66 rfl ?_)
    refine mp_a (a_iload_n dX7_rotates_66 rfl) (mpp 67 rfl ?_)
    refine mp_a (a_iload_n dX7_rotates_67 rfl) (mpp 68 rfl ?_)
    refine mp_a (a_iload dX7_rotates_68 rfl) (mpp 70 rfl ?_)
    obtain ⟨z10, h11⟩ := ti_ex (t2 + v4 : Int32)
    have wz10 := ti_full z10
    refine mp_t (s_iadd (v := z10) dX7_rotates_70 h11) (mpp 71 rfl ?_)
    try have e12 : z10.toInt = t2.toInt + v4.toInt := ti_addz h11 rfl rfl (by omega) (by omega)
    refine mp_a (a_iload_n dX7_rotates_71 rfl) (mpp 72 rfl ?_)
    obtain ⟨z13, h14⟩ := ti_ex (z10 - z10 / v3 * v3 : Int32)
    have wz13 := ti_full z13
    have n15 : ¬ v3 = 0 := ti_n0 (by omega)
    try have e17 : z13.toInt = z10.toInt % v3.toInt := ti_remx h14 (show (0 : Int) ≤ z10.toInt by omega) (show (0 : Int) < v3.toInt by omega)
    try have e16 : 0 ≤ z13.toInt ∧ z13.toInt < v3.toInt := ti_rem h14 (show (0 : Int) ≤ z10.toInt by omega) (show (0 : Int) < v3.toInt by omega)
    refine mp_t (s_irem (v := z13) dX7_rotates_72 n15 h14) (mpp 73 rfl ?_)
    have p18 : 0 ≤ t1.toInt := by omega
    have p19 : t1.toInt ≤ 7 := by omega
    have p20 : 0 ≤ z13.toInt := by omega
    have p21 : z13.toInt ≤ 7 := by omega
    refine mt_callv (i := 142) (q' := q_152) (As := [.int t1, .int z13]) (rest := [.int v4, .ref 306]) hT dX7_rotates_73 rfl qm_152 (by decide) rfl rl_301 (by decide) rfl (Nat.le_of_ble_eq_true rfl) rfl ⟨rfl, rfl⟩ ⟨Nat.le_of_ble_eq_true rfl, Nat.le_of_ble_eq_true rfl⟩ (EvP.mono (by decide) (c_M_sizeOf hT p18 p19 p20 p21 )) (fun r22 P23 g24 => mpp 76 rfl ?_)
    obtain ⟨⟨x25, rfl, g26⟩, e27⟩ := g24
    have e27 := e27.symm
    subst e27
    have wx25 := ti_full x25
    replace g26 : x25.toInt = (fv P 302 (6 + 19 * t1.toInt.toNat + z13.toInt.toNat)).toInt := g26
    show MEvP _ none q_151 76 [(0, .ref 301), (1, .int t1), (2, .int t2), (3, .int v3), (4, .int v4)] [.int x25, .int v4, .ref 306] _ _ _ _
    refine mt_ias (n := 8) hT dX7_rotates_76 rl_306 (by decide) rfl rfl (by omega) (by omega) rfl (ti_full x25) (fun P28 hT29 f30 f31 f32 => mpp 77 rfl ?_)
    have k33 : KW [1093, 1094, 1152, 1408, 1472] Po P28 := KW.step hK rl_306 rfl f31 f32
    have R34 := Rel.ne hR rl_306 rfl f31
    refine mp_a (a_aload_n dX7_rotates_77 rfl) (mpp 78 rfl ?_)
    refine mt_getU (i := 25) (k := 10) (A := 307) hT29 dX7_rotates_78 rfl rl_301 (by decide) rfl (by decide) rfl un_23 (mpp 81 rfl ?_)
    refine mp_a (a_iload dX7_rotates_81 rfl) (mpp 83 rfl ?_)
    refine mp_a (a_aload_n dX7_rotates_83 rfl) (mpp 84 rfl ?_)
    refine mp_a (a_iload_n dX7_rotates_84 rfl) (mpp 85 rfl ?_)
    refine mp_a (a_iload_n dX7_rotates_85 rfl) (mpp 86 rfl ?_)
    refine mp_a (a_iload dX7_rotates_86 rfl) (mpp 88 rfl ?_)
    obtain ⟨z35, h36⟩ := ti_ex (t2 + v4 : Int32)
    have wz35 := ti_full z35
    refine mp_t (s_iadd (v := z35) dX7_rotates_88 h36) (mpp 89 rfl ?_)
    try have e37 : z35.toInt = t2.toInt + v4.toInt := ti_addz h36 rfl rfl (by omega) (by omega)
    refine mp_a (a_iload_n dX7_rotates_89 rfl) (mpp 90 rfl ?_)
    obtain ⟨z38, h39⟩ := ti_ex (z35 - z35 / v3 * v3 : Int32)
    have wz38 := ti_full z38
    have n40 : ¬ v3 = 0 := ti_n0 (by omega)
    try have e42 : z38.toInt = z35.toInt % v3.toInt := ti_remx h39 (show (0 : Int) ≤ z35.toInt by omega) (show (0 : Int) < v3.toInt by omega)
    try have e41 : 0 ≤ z38.toInt ∧ z38.toInt < v3.toInt := ti_rem h39 (show (0 : Int) ≤ z35.toInt by omega) (show (0 : Int) < v3.toInt by omega)
    refine mp_t (s_irem (v := z38) dX7_rotates_90 n40 h39) (mpp 91 rfl ?_)
    have p43 : 0 ≤ t1.toInt := by omega
    have p44 : t1.toInt ≤ 7 := by omega
    have p45 : 0 ≤ z38.toInt := by omega
    have p46 : z38.toInt ≤ 7 := by omega
    refine mt_callv (i := 92) (q' := q_146) (As := [.int t1, .int z38]) (rest := [.int v4, .ref 307]) hT29 dX7_rotates_91 rfl qm_146 (by decide) rfl rl_301 (by decide) rfl (Nat.le_of_ble_eq_true rfl) rfl ⟨rfl, rfl⟩ ⟨Nat.le_of_ble_eq_true rfl, Nat.le_of_ble_eq_true rfl⟩ (EvP.mono (by decide) (c_M_creaseOf hT29 p43 p44 p45 p46 )) (fun r47 P48 g49 => mpp 94 rfl ?_)
    obtain ⟨⟨x50, rfl, g51⟩, e52⟩ := g49
    have e52 := e52.symm
    subst e52
    have wx50 := ti_full x50
    replace g51 : x50.toInt = (fv P28 302 (14 + 19 * t1.toInt.toNat + z38.toInt.toNat)).toInt := g51
    show MEvP _ none q_151 94 [(0, .ref 301), (1, .int t1), (2, .int t2), (3, .int v3), (4, .int v4)] [.int x50, .int v4, .ref 307] _ _ _ _
    refine mt_ias (n := 8) hT29 dX7_rotates_94 rl_307 (by decide) rfl rfl (by omega) (by omega) rfl (ti_full x50) (fun P53 hT54 f55 f56 f57 => mpp 95 rfl ?_)
    have k58 : KW [1093, 1094, 1152, 1408, 1472] Po P53 := KW.step k33 rl_307 rfl f56 f57
    have R59 := Rel.ne R34 rl_307 rfl f56
    obtain ⟨z60, h61⟩ := ti_ex (v4 + 1 : Int32)
    have wz60 := ti_full z60
    refine mp_a (a_iinc (v := z60) (L' := [(4, .int z60), (0, .ref 301), (1, .int t1), (2, .int t2), (3, .int v3)]) dX7_rotates_95 (by decide) rfl h61 rfl) (mpp 98 rfl ?_)
    try have e62 : z60.toInt = v4.toInt + 1 := ti_addz h61 rfl rfl (by omega) (by omega)
    refine mp_a (a_goto (t := 53) dX7_rotates_98 (by decide)) ?_
    refine MEvP.less (L := [(0, .ref 301), (1, .int t1), (2, .int t2), (3, .int v3), (4, .int z60)]) rfl rfl ⟨rfl, rfl, rfl, rfl, rfl, trivial⟩ ?_
    have i63 : 0 ≤ t1.toInt ∧ t1.toInt ≤ 7 ∧ 0 ≤ t2.toInt ∧ t2.toInt ≤ 7 := by omega
    have i64 : v3.toInt = (fv Po 302 (4 + 19 * t1.toInt.toNat)).toInt ∧ v3.toInt ≤ 8 := by omega
    have w66_ := RTX.of (a := t2.toInt) (n := (fv Po 302 (4 + 19 * t1.toInt.toNat)).toInt) (j := v4.toInt.toNat) (ti_remx h14 (by omega) (by omega)) (by omega) (by omega)
    have i65 : ROW Po P53 306 (fun j : Nat => fv Po 302 (6 + 19 * t1.toInt.toNat + RTX t2.toInt (fv Po 302 (4 + 19 * t1.toInt.toNat)).toInt j)) z60.toInt.toNat := ROW.step (n := v4.toInt.toNat) (v := x25.toInt) i_2 (by omega) rfl (by rw [f56 306 v4.toInt.toNat (by omega)]; exact congrArg Int32.toInt f30) (by have q : fv P 302 (6 + 19 * t1.toInt.toNat + z13.toInt.toNat) = fv Po 302 (6 + 19 * t1.toInt.toNat + z13.toInt.toNat) := i_4 _; show x25.toInt = (fv Po 302 (6 + 19 * t1.toInt.toNat + RTX t2.toInt (fv Po 302 (4 + 19 * t1.toInt.toNat)).toInt v4.toInt.toNat)).toInt; rw [← w66_, ← q]; exact g26) (fun j hj => by rw [f56 306 j (by omega), f31 306 j (fun e => hj e.2)])
    have w68_ := RTX.of (a := t2.toInt) (n := (fv Po 302 (4 + 19 * t1.toInt.toNat)).toInt) (j := v4.toInt.toNat) (ti_remx h39 (by omega) (by omega)) (by omega) (by omega)
    have i67 : ROW Po P53 307 (fun j : Nat => fv Po 302 (14 + 19 * t1.toInt.toNat + RTX t2.toInt (fv Po 302 (4 + 19 * t1.toInt.toNat)).toInt j)) z60.toInt.toNat := ROW.step (n := v4.toInt.toNat) (v := x50.toInt) i_3 (by omega) rfl (congrArg Int32.toInt f55) (by have q : fv P28 302 (14 + 19 * t1.toInt.toNat + z38.toInt.toNat) = fv Po 302 (14 + 19 * t1.toInt.toNat + z38.toInt.toNat) := (by rw [f31 302 _ (by omega)]; exact i_4 _); show x50.toInt = (fv Po 302 (14 + 19 * t1.toInt.toNat + RTX t2.toInt (fv Po 302 (4 + 19 * t1.toInt.toNat)).toInt v4.toInt.toNat)).toInt; rw [← w68_, ← q]; exact g51) (fun j hj => by rw [f56 307 j (fun e => hj e.2), f31 307 j (by omega)])
    have i69 : ∀ j : Nat, fv P53 302 j = fv Po 302 j := fun j => by rw [f56 302 j (by omega), f31 302 j (by omega)]; exact i_4 j
    have i70 : z60.toInt ≤ v3.toInt ∨ z60.toInt = 0 := by omega
    have i71 : t1.toInt + 1 ≤ (fv Po 302 0).toInt ∧ (fv Po 302 (5 + 19 * t1.toInt.toNat)).toInt ≠ 1 ∧ (fv Po 302 (3 + 19 * t1.toInt.toNat)).toInt = 1 ∧ t2.toInt < (fv Po 302 (4 + 19 * t1.toInt.toNat)).toInt ∧ (fv Po 302 (4 + 19 * t1.toInt.toNat)).toInt ≤ 8 := by omega
    have i72 : 0 ≤ z60.toInt := by omega
    exact ih _ (by omega) _ _ P53 hT54 k58 R59 i63 i64 i65 i67 i69 i70 i71 i72 rfl

set_option maxHeartbeats 4000000 in
theorem c_M_rotates {Po : mP} {t1 : Int32} {t2 : Int32} (hT : Typ Po) (hR : Rel Po)  : EvP 6 151 [.ref 301, .int t1, .int t2] Po (fun r P' => (∃ x : Int32, r = some (.int x) ∧ (rotatesM (sr Po) (sr P') x.toInt t1.toInt t2.toInt)) ∧ Typ P' ∧ KW [1093, 1094, 1152, 1408, 1472] Po P' ∧ Rel P') := by
  refine EvP.of qm_151 (Nat.le_of_ble_eq_true rfl) rfl ?_
  show MEvP _ none q_151 0 [(0, .ref 301), (1, .int t1), (2, .int t2)] [] _ 0 0 _
  have w_t1 := ti_full t1
  have w_t2 := ti_full t2
  refine mp_a (a_aload_n dX7_rotates_0 rfl) (mpp 1 rfl ?_)
  refine mp_a (a_iload_n dX7_rotates_1 rfl) (mpp 2 rfl ?_)
  refine mp_a (a_iload_n dX7_rotates_2 rfl) (mpp 3 rfl ?_)
  refine mt_callv (i := 127) (q' := q_143) (As := [.int t1, .int t2]) (rest := []) hT dX7_rotates_3 rfl qm_143 (by decide) rfl rl_301 (by decide) rfl (Nat.le_of_ble_eq_true rfl) rfl ⟨rfl, rfl⟩ ⟨Nat.le_of_ble_eq_true rfl, Nat.le_of_ble_eq_true rfl⟩ (EvP.mono (by decide) (c_M_isCrease hT )) (fun r1 P2 g3 => mpp 6 rfl ?_)
  obtain ⟨⟨x4, rfl, g5⟩, e6⟩ := g3
  have e6 := e6.symm
  subst e6
  have wx4 := ti_full x4
  replace g5 : 0 ≤ x4.toInt ∧ x4.toInt ≤ 1 ∧ ((x4.toInt = 0 ∧ (t1.toInt < 0 ∨ (fv Po 302 0).toInt ≤ t1.toInt ∨ t2.toInt < 0 ∨ ((fv Po 302 (3 + 19 * t1.toInt.toNat)).toInt = 1 ∧ (fv Po 302 (4 + 19 * t1.toInt.toNat)).toInt ≤ t2.toInt) ∨ ((fv Po 302 (3 + 19 * t1.toInt.toNat)).toInt = 0 ∧ (fv Po 302 (4 + 19 * t1.toInt.toNat)).toInt - 1 ≤ t2.toInt))) ∨ (x4.toInt = 1 ∧ 0 ≤ t1.toInt ∧ t1.toInt + 1 ≤ (fv Po 302 0).toInt ∧ t1.toInt ≤ 7 ∧ 0 ≤ t2.toInt ∧ t2.toInt ≤ 7 ∧ t2.toInt + 1 ≤ (fv Po 302 (4 + 19 * t1.toInt.toNat)).toInt ∧ (((fv Po 302 (3 + 19 * t1.toInt.toNat)).toInt = 1 ∧ t2.toInt < (fv Po 302 (4 + 19 * t1.toInt.toNat)).toInt) ∨ ((fv Po 302 (3 + 19 * t1.toInt.toNat)).toInt = 0 ∧ t2.toInt < (fv Po 302 (4 + 19 * t1.toInt.toNat)).toInt - 1)))) := g5
  have g7 : (0 : Int) ≤ (fv Po 302 0).toInt ∧ (fv Po 302 0).toInt ≤ 8 := Typ.rng hT rl_302 (by decide) (by decide) rfl
  try have g8 : (0 : Int) ≤ (fv Po 302 (3 + 19 * t1.toInt.toNat)).toInt ∧ (fv Po 302 (3 + 19 * t1.toInt.toNat)).toInt ≤ 1 := s3_rng hT (by omega)
  try have g9 : (0 : Int) ≤ (fv Po 302 (4 + 19 * t1.toInt.toNat)).toInt ∧ (fv Po 302 (4 + 19 * t1.toInt.toNat)).toInt ≤ 8 := s4_rng hT (by omega)
  show MEvP _ none q_151 6 [(0, .ref 301), (1, .int t1), (2, .int t2)] [.int x4] _ _ _ _
  refine mp_Tb (t := 13) (j_if_ne dX7_rotates_6) (by decide) (fun c10 => ?_) (fun c10 => mpp 9 rfl ?_)
  · have c10 : x4.toInt ≠ 0 := ti_ne c10
    refine mp_a (a_aload_n dX7_rotates_13 rfl) (mpp 14 rfl ?_)
    refine mp_a (a_iload_n dX7_rotates_14 rfl) (mpp 15 rfl ?_)
    have p11 : 0 ≤ t1.toInt := by omega
    have p12 : t1.toInt ≤ 7 := by omega
    refine mt_callv (i := 130) (q' := q_145) (As := [.int t1]) (rest := []) hT dX7_rotates_15 rfl qm_145 (by decide) rfl rl_301 (by decide) rfl (Nat.le_of_ble_eq_true rfl) rfl ⟨rfl, rfl⟩ ⟨Nat.le_of_ble_eq_true rfl, Nat.le_of_ble_eq_true rfl⟩ (EvP.mono (by decide) (c_M_isFolded hT p11 p12 )) (fun r13 P14 g15 => mpp 18 rfl ?_)
    obtain ⟨⟨x16, rfl, g17⟩, e18⟩ := g15
    have e18 := e18.symm
    subst e18
    have wx16 := ti_full x16
    replace g17 : 0 ≤ x16.toInt ∧ x16.toInt ≤ 1 ∧ ((x16.toInt = 1 ∧ (fv Po 302 (5 + 19 * t1.toInt.toNat)).toInt = 1) ∨ (x16.toInt = 0 ∧ (fv Po 302 (5 + 19 * t1.toInt.toNat)).toInt ≠ 1)) := g17
    have g19 := ti_full (fv Po 302 (5 + 19 * t1.toInt.toNat))
    show MEvP _ none q_151 18 [(0, .ref 301), (1, .int t1), (2, .int t2)] [.int x16] _ _ _ _
    refine mp_Tb (t := 28) (j_if_eq dX7_rotates_18) (by decide) (fun c20 => ?_) (fun c20 => mpp 21 rfl ?_)
    · have c20 : x16.toInt = 0 := ti_eq c20
      refine mp_a (a_aload_n dX7_rotates_28 rfl) (mpp 29 rfl ?_)
      refine mp_a (a_iload_n dX7_rotates_29 rfl) (mpp 30 rfl ?_)
      have p21 : 0 ≤ t1.toInt := by omega
      have p22 : t1.toInt ≤ 7 := by omega
      refine mt_callv (i := 81) (q' := q_138) (As := [.int t1]) (rest := []) hT dX7_rotates_30 rfl qm_138 (by decide) rfl rl_301 (by decide) rfl (Nat.le_of_ble_eq_true rfl) rfl ⟨rfl, rfl⟩ ⟨Nat.le_of_ble_eq_true rfl, Nat.le_of_ble_eq_true rfl⟩ (EvP.mono (by decide) (c_M_isCorner hT p21 p22 )) (fun r23 P24 g25 => mpp 33 rfl ?_)
      obtain ⟨⟨x26, rfl, g27⟩, e28⟩ := g25
      have e28 := e28.symm
      subst e28
      have wx26 := ti_full x26
      replace g27 : 0 ≤ x26.toInt ∧ x26.toInt ≤ 1 ∧ ((x26.toInt = 1 ∧ (fv Po 302 (3 + 19 * t1.toInt.toNat)).toInt = 1) ∨ (x26.toInt = 0 ∧ (fv Po 302 (3 + 19 * t1.toInt.toNat)).toInt = 0)) := g27
      show MEvP _ none q_151 33 [(0, .ref 301), (1, .int t1), (2, .int t2)] [.int x26] _ _ _ _
      refine mp_Tb (t := 43) (j_if_ne dX7_rotates_33) (by decide) (fun c29 => ?_) (fun c29 => mpp 36 rfl ?_)
      · have c29 : x26.toInt ≠ 0 := ti_ne c29
        refine mp_a (a_aload_n dX7_rotates_43 rfl) (mpp 44 rfl ?_)
        refine mp_a (a_iload_n dX7_rotates_44 rfl) (mpp 45 rfl ?_)
        refine mp_a (a_iconst (v := 1) dX7_rotates_45 rfl) (mpp 46 rfl ?_)
        have p30 : 0 ≤ t1.toInt := by omega
        have p31 : t1.toInt ≤ 7 := by omega
        have p32 : 0 ≤ (1 : Int) := by omega
        have p33 : (1 : Int) ≤ 18 := by omega
        refine mt_callv (i := 78) (q' := q_137) (As := [.int t1, .int 1]) (rest := []) hT dX7_rotates_46 rfl qm_137 (by decide) rfl rl_301 (by decide) rfl (Nat.le_of_ble_eq_true rfl) rfl ⟨rfl, rfl⟩ ⟨Nat.le_of_ble_eq_true rfl, Nat.le_of_ble_eq_true rfl⟩ (EvP.mono (by decide) (c_M_of_c1 hT p30 p31 p32 p33 )) (fun r34 P35 g36 => mpp 49 rfl ?_)
        obtain ⟨⟨x37, rfl, g38⟩, e39⟩ := g36
        have e39 := e39.symm
        subst e39
        have wx37 := ti_full x37
        replace g38 : x37.toInt = (fv Po 302 (4 + 19 * t1.toInt.toNat)).toInt ∧ 0 ≤ x37.toInt ∧ x37.toInt ≤ 8 := g38
        show MEvP _ none q_151 49 [(0, .ref 301), (1, .int t1), (2, .int t2)] [.int x37] _ _ _ _
        refine mp_a (a_istore_n (L' := [(3, .int x37), (0, .ref 301), (1, .int t1), (2, .int t2)]) dX7_rotates_49 (by decide) rfl) (mpp 50 rfl ?_)
        refine mp_a (a_iconst (v := 0) dX7_rotates_50 rfl) (mpp 51 rfl ?_)
        refine mp_a (a_istore (L' := [(4, .int 0), (3, .int x37), (0, .ref 301), (1, .int t1), (2, .int t2)]) dX7_rotates_51 (by decide) rfl) (mpp 53 rfl ?_)
        refine MEvP.less (L := [(0, .ref 301), (1, .int t1), (2, .int t2), (3, .int x37), (4, .int 0)]) rfl rfl ⟨rfl, rfl, rfl, rfl, rfl, trivial⟩ ?_
        have i40 : 0 ≤ t1.toInt ∧ t1.toInt ≤ 7 ∧ 0 ≤ t2.toInt ∧ t2.toInt ≤ 7 := by omega
        have i41 : x37.toInt = (fv Po 302 (4 + 19 * t1.toInt.toNat)).toInt ∧ x37.toInt ≤ 8 := by omega
        have i42 : ROW Po Po 306 (fun j : Nat => fv Po 302 (6 + 19 * t1.toInt.toNat + RTX t2.toInt (fv Po 302 (4 + 19 * t1.toInt.toNat)).toInt j)) (0 : Int).toNat := ROW.start rfl (fun _ => rfl)
        have i43 : ROW Po Po 307 (fun j : Nat => fv Po 302 (14 + 19 * t1.toInt.toNat + RTX t2.toInt (fv Po 302 (4 + 19 * t1.toInt.toNat)).toInt j)) (0 : Int).toNat := ROW.start rfl (fun _ => rfl)
        have i44 : ∀ j : Nat, fv Po 302 j = fv Po 302 j := fun _ => rfl
        have i45 : (0 : Int) ≤ x37.toInt ∨ (0 : Int) = 0 := by omega
        have i46 : t1.toInt + 1 ≤ (fv Po 302 0).toInt ∧ (fv Po 302 (5 + 19 * t1.toInt.toNat)).toInt ≠ 1 ∧ (fv Po 302 (3 + 19 * t1.toInt.toNat)).toInt = 1 ∧ t2.toInt < (fv Po 302 (4 + 19 * t1.toInt.toNat)).toInt ∧ (fv Po 302 (4 + 19 * t1.toInt.toNat)).toInt ≤ 8 := by omega
        have i47 : 0 ≤ (0 : Int) := by omega
        exact c_M_rotates_l53    _ _ _ Po hT KW.refl hR i40 i41 i42 i43 i44 i45 i46 i47 rfl
      · have c29 : x26.toInt = 0 := ti_ne_n c29
        refine mp_a (a_aload_n dX7_rotates_36 rfl) (mpp 37 rfl ?_)
        refine mp_a (a_iconst (v := 3) dX7_rotates_37 rfl) (mpp 38 rfl ?_)
        refine mp_a (a_iload_n dX7_rotates_38 rfl) (mpp 39 rfl ?_)
        refine mt_callv (i := 101) (q' := q_134) (As := [.int 3, .int t1]) (rest := []) hT dX7_rotates_39 rfl qm_134 (by decide) rfl rl_301 (by decide) rfl (Nat.le_of_ble_eq_true rfl) rfl ⟨rfl, rfl⟩ ⟨Nat.le_of_ble_eq_true rfl, Nat.le_of_ble_eq_true rfl⟩ (EvP.mono (by decide) (c_M_refuses hT )) (fun r48 P49 g50 => mpp 42 rfl ?_)
        obtain ⟨⟨x51, rfl, g52⟩, hT53, k54, R55⟩ := g50
        have k56 : KW [1093, 1094, 1152, 1408, 1472] Po P49 := KW.trans KW.refl k54 rfl
        have R58 := Rel.kw hR k54 rfl
        have wx51 := ti_full x51
        replace g52 : x51.toInt = -1003 := g52
        show MEvP _ none q_151 42 [(0, .ref 301), (1, .int t1), (2, .int t2)] [.int x51] _ _ _ _
        have e60 : (fv P49 302 0).toInt = (fv Po 302 0).toInt := congrArg Int32.toInt (R55 302 0 (by omega))
        have e61 : (fv P49 302 1).toInt = (fv Po 302 1).toInt := congrArg Int32.toInt (R55 302 1 (by omega))
        have e62 : (fv P49 302 2).toInt = (fv Po 302 2).toInt := congrArg Int32.toInt (R55 302 2 (by omega))
        have u59 : rotatesM (sr Po) (sr P49) x51.toInt t1.toInt t2.toInt := (show (x51.toInt = -1001 ∧ ((t1.toInt < 0 ∨ (fv Po 302 (0)).toInt ≤ t1.toInt) ∨ ((0 ≤ t1.toInt ∧ t1.toInt + 1 ≤ (fv Po 302 (0)).toInt ∧ t1.toInt ≤ 7) ∧ (t2.toInt < 0 ∨ ((fv Po 302 (3 + 19 * t1.toInt.toNat)).toInt = 1 ∧ (fv Po 302 (4 + 19 * t1.toInt.toNat)).toInt ≤ t2.toInt) ∨ ((fv Po 302 (3 + 19 * t1.toInt.toNat)).toInt = 0 ∧ (fv Po 302 (4 + 19 * t1.toInt.toNat)).toInt - 1 ≤ t2.toInt)))) ∧ (∀ j : Nat, fv P49 302 j = fv Po 302 j)) ∨ (x51.toInt = -1003 ∧ (0 ≤ t1.toInt ∧ t1.toInt + 1 ≤ (fv Po 302 (0)).toInt ∧ t1.toInt ≤ 7) ∧ (0 ≤ t2.toInt ∧ t2.toInt ≤ 7 ∧ (((fv Po 302 (3 + 19 * t1.toInt.toNat)).toInt = 1 ∧ t2.toInt < (fv Po 302 (4 + 19 * t1.toInt.toNat)).toInt) ∨ ((fv Po 302 (3 + 19 * t1.toInt.toNat)).toInt = 0 ∧ t2.toInt < (fv Po 302 (4 + 19 * t1.toInt.toNat)).toInt - 1))) ∧ ((fv Po 302 (5 + 19 * t1.toInt.toNat)).toInt = 1 ∨ ¬ (fv Po 302 (3 + 19 * t1.toInt.toNat)).toInt = 1) ∧ (∀ j : Nat, fv P49 302 j = fv Po 302 j)) ∨ ((0 ≤ t1.toInt ∧ t1.toInt + 1 ≤ (fv Po 302 (0)).toInt ∧ t1.toInt ≤ 7) ∧ (0 ≤ t2.toInt ∧ t2.toInt ≤ 7 ∧ (((fv Po 302 (3 + 19 * t1.toInt.toNat)).toInt = 1 ∧ t2.toInt < (fv Po 302 (4 + 19 * t1.toInt.toNat)).toInt) ∨ ((fv Po 302 (3 + 19 * t1.toInt.toNat)).toInt = 0 ∧ t2.toInt < (fv Po 302 (4 + 19 * t1.toInt.toNat)).toInt - 1))) ∧ ¬ (fv Po 302 (5 + 19 * t1.toInt.toNat)).toInt = 1 ∧ (fv Po 302 (3 + 19 * t1.toInt.toNat)).toInt = 1 ∧ x51.toInt = (nmF (fun j : Nat => fv Po 302 (6 + 19 * t1.toInt.toNat + RTX t2.toInt ((fv Po 302 (4 + 19 * t1.toInt.toNat)).toInt) j)) ((fv Po 302 (4 + 19 * t1.toInt.toNat)).toInt).toNat).toInt ∧ (∀ j : Nat, j < ((fv Po 302 (4 + 19 * t1.toInt.toNat)).toInt).toNat → fv P49 302 (6 + 19 * t1.toInt.toNat + j) = fv Po 302 (6 + 19 * t1.toInt.toNat + RTX t2.toInt ((fv Po 302 (4 + 19 * t1.toInt.toNat)).toInt) j)) ∧ (∀ j : Nat, j < ((fv Po 302 (4 + 19 * t1.toInt.toNat)).toInt).toNat → fv P49 302 (14 + 19 * t1.toInt.toNat + j) = fv Po 302 (14 + 19 * t1.toInt.toNat + RTX t2.toInt ((fv Po 302 (4 + 19 * t1.toInt.toNat)).toInt) j)) ∧ (∀ j : Nat, ¬ (6 + 19 * t1.toInt.toNat ≤ j ∧ j < 14 + 19 * t1.toInt.toNat) → ¬ (14 + 19 * t1.toInt.toNat ≤ j ∧ j < 22 + 19 * t1.toInt.toNat) → fv P49 302 j = fv Po 302 j)) from Or.inr (Or.inl (⟨by omega, by omega, by omega, by omega, fun j => by rw [R55 302 j (by omega)]⟩)))
        exact mp_iret ⟨⟨_, rfl, u59⟩, hT53, k56, R58⟩ dX7_rotates_42 (Or.inl rfl)
    · have c20 : x16.toInt ≠ 0 := ti_eq_n c20
      refine mp_a (a_aload_n dX7_rotates_21 rfl) (mpp 22 rfl ?_)
      refine mp_a (a_iconst (v := 2) dX7_rotates_22 rfl) (mpp 23 rfl ?_)
      refine mp_a (a_iload_n dX7_rotates_23 rfl) (mpp 24 rfl ?_)
      refine mt_callv (i := 101) (q' := q_134) (As := [.int 2, .int t1]) (rest := []) hT dX7_rotates_24 rfl qm_134 (by decide) rfl rl_301 (by decide) rfl (Nat.le_of_ble_eq_true rfl) rfl ⟨rfl, rfl⟩ ⟨Nat.le_of_ble_eq_true rfl, Nat.le_of_ble_eq_true rfl⟩ (EvP.mono (by decide) (c_M_refuses hT )) (fun r63 P64 g65 => mpp 27 rfl ?_)
      obtain ⟨⟨x66, rfl, g67⟩, hT68, k69, R70⟩ := g65
      have k71 : KW [1093, 1094, 1152, 1408, 1472] Po P64 := KW.trans KW.refl k69 rfl
      have R73 := Rel.kw hR k69 rfl
      have wx66 := ti_full x66
      replace g67 : x66.toInt = -1003 := g67
      show MEvP _ none q_151 27 [(0, .ref 301), (1, .int t1), (2, .int t2)] [.int x66] _ _ _ _
      have e75 : (fv P64 302 0).toInt = (fv Po 302 0).toInt := congrArg Int32.toInt (R70 302 0 (by omega))
      have e76 : (fv P64 302 1).toInt = (fv Po 302 1).toInt := congrArg Int32.toInt (R70 302 1 (by omega))
      have e77 : (fv P64 302 2).toInt = (fv Po 302 2).toInt := congrArg Int32.toInt (R70 302 2 (by omega))
      have u74 : rotatesM (sr Po) (sr P64) x66.toInt t1.toInt t2.toInt := (show (x66.toInt = -1001 ∧ ((t1.toInt < 0 ∨ (fv Po 302 (0)).toInt ≤ t1.toInt) ∨ ((0 ≤ t1.toInt ∧ t1.toInt + 1 ≤ (fv Po 302 (0)).toInt ∧ t1.toInt ≤ 7) ∧ (t2.toInt < 0 ∨ ((fv Po 302 (3 + 19 * t1.toInt.toNat)).toInt = 1 ∧ (fv Po 302 (4 + 19 * t1.toInt.toNat)).toInt ≤ t2.toInt) ∨ ((fv Po 302 (3 + 19 * t1.toInt.toNat)).toInt = 0 ∧ (fv Po 302 (4 + 19 * t1.toInt.toNat)).toInt - 1 ≤ t2.toInt)))) ∧ (∀ j : Nat, fv P64 302 j = fv Po 302 j)) ∨ (x66.toInt = -1003 ∧ (0 ≤ t1.toInt ∧ t1.toInt + 1 ≤ (fv Po 302 (0)).toInt ∧ t1.toInt ≤ 7) ∧ (0 ≤ t2.toInt ∧ t2.toInt ≤ 7 ∧ (((fv Po 302 (3 + 19 * t1.toInt.toNat)).toInt = 1 ∧ t2.toInt < (fv Po 302 (4 + 19 * t1.toInt.toNat)).toInt) ∨ ((fv Po 302 (3 + 19 * t1.toInt.toNat)).toInt = 0 ∧ t2.toInt < (fv Po 302 (4 + 19 * t1.toInt.toNat)).toInt - 1))) ∧ ((fv Po 302 (5 + 19 * t1.toInt.toNat)).toInt = 1 ∨ ¬ (fv Po 302 (3 + 19 * t1.toInt.toNat)).toInt = 1) ∧ (∀ j : Nat, fv P64 302 j = fv Po 302 j)) ∨ ((0 ≤ t1.toInt ∧ t1.toInt + 1 ≤ (fv Po 302 (0)).toInt ∧ t1.toInt ≤ 7) ∧ (0 ≤ t2.toInt ∧ t2.toInt ≤ 7 ∧ (((fv Po 302 (3 + 19 * t1.toInt.toNat)).toInt = 1 ∧ t2.toInt < (fv Po 302 (4 + 19 * t1.toInt.toNat)).toInt) ∨ ((fv Po 302 (3 + 19 * t1.toInt.toNat)).toInt = 0 ∧ t2.toInt < (fv Po 302 (4 + 19 * t1.toInt.toNat)).toInt - 1))) ∧ ¬ (fv Po 302 (5 + 19 * t1.toInt.toNat)).toInt = 1 ∧ (fv Po 302 (3 + 19 * t1.toInt.toNat)).toInt = 1 ∧ x66.toInt = (nmF (fun j : Nat => fv Po 302 (6 + 19 * t1.toInt.toNat + RTX t2.toInt ((fv Po 302 (4 + 19 * t1.toInt.toNat)).toInt) j)) ((fv Po 302 (4 + 19 * t1.toInt.toNat)).toInt).toNat).toInt ∧ (∀ j : Nat, j < ((fv Po 302 (4 + 19 * t1.toInt.toNat)).toInt).toNat → fv P64 302 (6 + 19 * t1.toInt.toNat + j) = fv Po 302 (6 + 19 * t1.toInt.toNat + RTX t2.toInt ((fv Po 302 (4 + 19 * t1.toInt.toNat)).toInt) j)) ∧ (∀ j : Nat, j < ((fv Po 302 (4 + 19 * t1.toInt.toNat)).toInt).toNat → fv P64 302 (14 + 19 * t1.toInt.toNat + j) = fv Po 302 (14 + 19 * t1.toInt.toNat + RTX t2.toInt ((fv Po 302 (4 + 19 * t1.toInt.toNat)).toInt) j)) ∧ (∀ j : Nat, ¬ (6 + 19 * t1.toInt.toNat ≤ j ∧ j < 14 + 19 * t1.toInt.toNat) → ¬ (14 + 19 * t1.toInt.toNat ≤ j ∧ j < 22 + 19 * t1.toInt.toNat) → fv P64 302 j = fv Po 302 j)) from Or.inr (Or.inl (⟨by omega, by omega, by omega, by omega, fun j => by rw [R70 302 j (by omega)]⟩)))
      exact mp_iret ⟨⟨_, rfl, u74⟩, hT68, k71, R73⟩ dX7_rotates_27 (Or.inl rfl)
  · have c10 : x4.toInt = 0 := ti_ne_n c10
    refine mp_a (a_sipush (v := -1001) dX7_rotates_9 rfl) (mpp 12 rfl ?_)
    have u78 : rotatesM (sr Po) (sr Po) (-1001 : Int) t1.toInt t2.toInt := (show ((-1001 : Int) = -1001 ∧ ((t1.toInt < 0 ∨ (fv Po 302 (0)).toInt ≤ t1.toInt) ∨ ((0 ≤ t1.toInt ∧ t1.toInt + 1 ≤ (fv Po 302 (0)).toInt ∧ t1.toInt ≤ 7) ∧ (t2.toInt < 0 ∨ ((fv Po 302 (3 + 19 * t1.toInt.toNat)).toInt = 1 ∧ (fv Po 302 (4 + 19 * t1.toInt.toNat)).toInt ≤ t2.toInt) ∨ ((fv Po 302 (3 + 19 * t1.toInt.toNat)).toInt = 0 ∧ (fv Po 302 (4 + 19 * t1.toInt.toNat)).toInt - 1 ≤ t2.toInt)))) ∧ (∀ j : Nat, fv Po 302 j = fv Po 302 j)) ∨ ((-1001 : Int) = -1003 ∧ (0 ≤ t1.toInt ∧ t1.toInt + 1 ≤ (fv Po 302 (0)).toInt ∧ t1.toInt ≤ 7) ∧ (0 ≤ t2.toInt ∧ t2.toInt ≤ 7 ∧ (((fv Po 302 (3 + 19 * t1.toInt.toNat)).toInt = 1 ∧ t2.toInt < (fv Po 302 (4 + 19 * t1.toInt.toNat)).toInt) ∨ ((fv Po 302 (3 + 19 * t1.toInt.toNat)).toInt = 0 ∧ t2.toInt < (fv Po 302 (4 + 19 * t1.toInt.toNat)).toInt - 1))) ∧ ((fv Po 302 (5 + 19 * t1.toInt.toNat)).toInt = 1 ∨ ¬ (fv Po 302 (3 + 19 * t1.toInt.toNat)).toInt = 1) ∧ (∀ j : Nat, fv Po 302 j = fv Po 302 j)) ∨ ((0 ≤ t1.toInt ∧ t1.toInt + 1 ≤ (fv Po 302 (0)).toInt ∧ t1.toInt ≤ 7) ∧ (0 ≤ t2.toInt ∧ t2.toInt ≤ 7 ∧ (((fv Po 302 (3 + 19 * t1.toInt.toNat)).toInt = 1 ∧ t2.toInt < (fv Po 302 (4 + 19 * t1.toInt.toNat)).toInt) ∨ ((fv Po 302 (3 + 19 * t1.toInt.toNat)).toInt = 0 ∧ t2.toInt < (fv Po 302 (4 + 19 * t1.toInt.toNat)).toInt - 1))) ∧ ¬ (fv Po 302 (5 + 19 * t1.toInt.toNat)).toInt = 1 ∧ (fv Po 302 (3 + 19 * t1.toInt.toNat)).toInt = 1 ∧ (-1001 : Int) = (nmF (fun j : Nat => fv Po 302 (6 + 19 * t1.toInt.toNat + RTX t2.toInt ((fv Po 302 (4 + 19 * t1.toInt.toNat)).toInt) j)) ((fv Po 302 (4 + 19 * t1.toInt.toNat)).toInt).toNat).toInt ∧ (∀ j : Nat, j < ((fv Po 302 (4 + 19 * t1.toInt.toNat)).toInt).toNat → fv Po 302 (6 + 19 * t1.toInt.toNat + j) = fv Po 302 (6 + 19 * t1.toInt.toNat + RTX t2.toInt ((fv Po 302 (4 + 19 * t1.toInt.toNat)).toInt) j)) ∧ (∀ j : Nat, j < ((fv Po 302 (4 + 19 * t1.toInt.toNat)).toInt).toNat → fv Po 302 (14 + 19 * t1.toInt.toNat + j) = fv Po 302 (14 + 19 * t1.toInt.toNat + RTX t2.toInt ((fv Po 302 (4 + 19 * t1.toInt.toNat)).toInt) j)) ∧ (∀ j : Nat, ¬ (6 + 19 * t1.toInt.toNat ≤ j ∧ j < 14 + 19 * t1.toInt.toNat) → ¬ (14 + 19 * t1.toInt.toNat ≤ j ∧ j < 22 + 19 * t1.toInt.toNat) → fv Po 302 j = fv Po 302 j)) from Or.inl (⟨by omega, by omega, fun j => rfl⟩))
    exact mp_iret ⟨⟨_, rfl, u78⟩, hT, KW.refl, hR⟩ dX7_rotates_12 (Or.inl rfl)

set_option maxHeartbeats 4000000 in
theorem c_M_rotate {Po : mP} {t1 : Int32} {t2 : Int32} (hT : Typ Po) (hR : Rel Po)  : EvP 7 150 [.ref 301, .int t1, .int t2] Po (fun r P' => (∃ x : Int32, r = some (.int x) ∧ (TOPM Po P' x.toInt ∧ rotatesM (sr Po) (sr P') x.toInt t1.toInt t2.toInt)) ∧ Typ P' ∧ KW [1092, 1093, 1094, 1095, 1152, 1216, 1344, 1408, 1472] Po P' ∧ Rel P') := by
  refine EvP.of qm_150 (Nat.le_of_ble_eq_true rfl) rfl ?_
  show MEvP _ none q_150 0 [(0, .ref 301), (1, .int t1), (2, .int t2)] [] _ 0 0 _
  have w_t1 := ti_full t1
  have w_t2 := ti_full t2
  refine mp_a (a_aload_n dX7_rotate_0 rfl) (mpp 1 rfl ?_)
  refine mt_callv (i := 117) (q' := q_124) (As := []) (rest := []) hT dX7_rotate_1 rfl qm_124 (by decide) rfl rl_301 (by decide) rfl (Nat.le_of_ble_eq_true rfl) rfl ⟨rfl, rfl⟩ ⟨Nat.le_of_ble_eq_true rfl, Nat.le_of_ble_eq_true rfl⟩ (EvP.mono (by decide) (c_M_keeps hT hR )) (fun r1 P2 g3 => mpp 4 rfl ?_)
  obtain ⟨⟨rfl, g5⟩, hT6, k7, R8r, R8⟩ := g3
  have k9 : KW [1092, 1093, 1094, 1095, 1152, 1216, 1344, 1408, 1472] Po P2 := KW.trans KW.refl k7 rfl
  show MEvP _ none q_150 4 [(0, .ref 301), (1, .int t1), (2, .int t2)] [] _ _ _ _
  refine mp_a (a_aload_n dX7_rotate_4 rfl) (mpp 5 rfl ?_)
  refine mp_a (a_aload_n dX7_rotate_5 rfl) (mpp 6 rfl ?_)
  refine mp_a (a_iload_n dX7_rotate_6 rfl) (mpp 7 rfl ?_)
  refine mp_a (a_iload_n dX7_rotate_7 rfl) (mpp 8 rfl ?_)
  refine mt_callv (i := 145) (q' := q_151) (As := [.int t1, .int t2]) (rest := [.ref 301]) hT6 dX7_rotate_8 rfl qm_151 (by decide) rfl rl_301 (by decide) rfl (Nat.le_of_ble_eq_true rfl) rfl ⟨rfl, rfl⟩ ⟨Nat.le_of_ble_eq_true rfl, Nat.le_of_ble_eq_true rfl⟩ (EvP.mono (by decide) (c_M_rotates hT6 R8r )) (fun r11 P12 g13 => mpp 11 rfl ?_)
  obtain ⟨⟨x14, rfl, g15⟩, hT16, k17, R18⟩ := g13
  have k19 : KW [1092, 1093, 1094, 1095, 1152, 1216, 1344, 1408, 1472] Po P12 := KW.trans k9 k17 rfl
  have wx14 := ti_full x14
  replace g15 : rotatesM (sr P2) (sr P12) x14.toInt t1.toInt t2.toInt := g15
  show MEvP _ none q_150 11 [(0, .ref 301), (1, .int t1), (2, .int t2)] [.int x14, .ref 301] _ _ _ _
  refine mt_callv (i := 124) (q' := q_139) (As := [.int x14]) (rest := []) hT16 dX7_rotate_11 rfl qm_139 (by decide) rfl rl_301 (by decide) rfl (Nat.le_of_ble_eq_true rfl) rfl ⟨rfl, rfl⟩ ⟨Nat.le_of_ble_eq_true rfl, Nat.le_of_ble_eq_true rfl⟩ (EvP.mono (by decide) (c_M_ends hT16 R18 )) (fun r21 P22 g23 => mpp 14 rfl ?_)
  obtain ⟨⟨x24, rfl, g25⟩, hT26, k27, R28r, R28⟩ := g23
  have k29 : KW [1092, 1093, 1094, 1095, 1152, 1216, 1344, 1408, 1472] Po P22 := KW.trans k19 k27 rfl
  have wx24 := ti_full x24
  replace g25 : x24.toInt = x14.toInt := g25
  show MEvP _ none q_150 14 [(0, .ref 301), (1, .int t1), (2, .int t2)] [.int x24] _ _ _ _
  have w32_a : sr P2 = sr Po := funext (fun j => R8.2 302 j (by omega))
  have w32_b : sr P12 = sr P22 := funext (fun j => (R28.2.2.1 302 j (by omega) (by omega) (by omega)).symm)
  have w32_g := g15
  rw [w32_a, w32_b] at w32_g
  have w32_x : x24.toInt = x14.toInt := by omega
  rw [← w32_x] at w32_g
  have w32_t : TOPM Po P22 x24.toInt := TOPM.mk R8.1 (fun j => KW.at k17 j rl_303 rfl) (fun j => KW.at k17 j rl_304 rfl) (fun j => KW.at k17 j rl_305 rfl) (fun j => KW.at k17 j rl_314 rfl) (KW.at k17 8 rl_301 rfl) (KW.at k17 4 rl_301 rfl) (KW.at k17 23 rl_301 rfl) (by rw [w32_x]; exact R28.1) (by rw [w32_x]; exact R28.2.1) R28.2.2.1
  have u31 : TOPM Po P22 x24.toInt ∧ rotatesM (sr Po) (sr P22) x24.toInt t1.toInt t2.toInt := ⟨w32_t, w32_g⟩
  exact mp_iret ⟨⟨_, rfl, u31⟩, hT26, k29, R28r⟩ dX7_rotate_14 (Or.inl rfl)

set_option maxHeartbeats 4000000 in
theorem c_M_goes_l6 {Po : mP} {t1 : Int32} (hR : Rel Po) (hp0 : 0 ≤ t1.toInt) (hp1 : t1.toInt + 1 ≤ (fv Po 302 0).toInt)  : ∀ (n : Nat) (v2 : Int32), ∀ (P : mP), Typ P → KW [1152] Po P → (Mv Po P (3 + 19 * t1.toInt.toNat) v2.toInt.toNat) → (3 + 19 * t1.toInt ≤ v2.toInt) → (v2.toInt ≤ 19 * (fv Po 302 0).toInt - 16) → ((fv P 302 0).toInt = (fv Po 302 0).toInt) → ((fv Po 302 0).toInt ≤ 8) → (KI 302 303 Po P) → (2147483647 - v2.toInt).toNat = n → MEvP 1 none q_155 6 [(0, .ref 301), (1, .int t1), (2, .int v2)] [] P 0 0 (fun r P' => (r = none ∧ (True)) ∧ Typ P' ∧ KW [1152] Po P' ∧ Rel P' ∧ (∀ j : Nat, 1 ≤ j → fv P' 302 j = if 3 + 19 * t1.toInt.toNat ≤ j ∧ j < 3 + 19 * ((fv Po 302 0).toInt - 1).toNat then fv Po 302 (j + 19) else fv Po 302 j) ∧ ((fv P' 302 0).toInt = (fv Po 302 0).toInt - 1) ∧ KI 302 303 Po P') := by
  intro n
  induction n using Nat.strongRecOn with | _ n ih => ?_
  intro v2 P hT hK i_0 i_1 i_2 i_3 i_4 i_5 hm
  have w_t1 := ti_full t1
  have w_v2 := ti_full v2
  have g1 : (0 : Int) ≤ (fv P 302 0).toInt ∧ (fv P 302 0).toInt ≤ 8 := Typ.rng hT rl_302 (by decide) (by decide) rfl
  have g2 : (0 : Int) ≤ (fv P 302 0).toInt ∧ (fv P 302 0).toInt ≤ 8 := Typ.rng hT rl_302 (by decide) (by decide) rfl
  refine mp_a (a_iload_n dX7_goes_6 rfl) (mpp 7 rfl ?_)
  refine mp_a (a_aload_n dX7_goes_7 rfl) (mpp 8 rfl ?_)
  refine mt_getU (i := 9) (k := 0) (A := 302) hT dX7_goes_8 rfl rl_301 (by decide) rfl (by decide) rfl un_18 (mpp 11 rfl ?_)
  refine mp_a (a_iconst (v := 0) dX7_goes_11 rfl) (mpp 12 rfl ?_)
  refine mt_ialX (n := 155) hT dX7_goes_12 rl_302 (by decide) rfl rfl (by decide) (by decide) ssp_0 (fun g3 => mpp 13 rfl ?_)
  have we5 := ti_full (fv P 302 0)
  refine mp_a (a_iconst (v := 1) dX7_goes_13 rfl) (mpp 14 rfl ?_)
  obtain ⟨z6, h7⟩ := ti_ex ((fv P 302 0) - 1 : Int32)
  have wz6 := ti_full z6
  refine mp_t (s_isub (v := z6) dX7_goes_14 h7) (mpp 15 rfl ?_)
  try have e8 : z6.toInt = (fv P 302 0).toInt - 1 := ti_subz h7 rfl rfl (by omega) (by omega)
  refine mp_a (a_iconst (v := 0) dX7_goes_15 rfl) (mpp 16 rfl ?_)
  have p9 : 0 ≤ z6.toInt := by omega
  have p10 : z6.toInt ≤ 8 := by omega
  have p11 : 0 ≤ (0 : Int) := by omega
  have p12 : (0 : Int) ≤ 20 := by omega
  refine mp_calls (i := 74) (q' := q_135) (As := [.int z6, .int 0]) (rest := [.int v2]) dX7_goes_16 rfl qm_135 (by decide) rfl (Nat.le_of_ble_eq_true rfl) rfl ⟨rfl, rfl⟩ ⟨Nat.le_of_ble_eq_true rfl, Nat.le_of_ble_eq_true rfl⟩ (EvP.mono (by decide) (c_M_at hT p9 p10 p11 p12 )) (fun r13 P14 g15 => mpp 19 rfl ?_)
  obtain ⟨⟨x16, rfl, g17⟩, e18⟩ := g15
  have e18 := e18.symm
  subst e18
  have wx16 := ti_full x16
  replace g17 : x16.toInt = 3 + 19 * z6.toInt + (0 : Int) := g17
  show MEvP _ none q_155 19 [(0, .ref 301), (1, .int t1), (2, .int v2)] [.int x16, .int v2] _ _ _ _
  refine mp_Tb (t := 43) (j_icmp_ge dX7_goes_19) (by decide) (fun c19 => ?_) (fun c19 => mpp 22 rfl ?_)
  · have c19 : v2.toInt ≥ x16.toInt := ti_ge c19
    have hRe : Rel P := Mv.rel hR i_0 (p := t1.toInt.toNat) (m := ((fv Po 302 0).toInt - 1).toNat) (by omega) (by omega) (by omega) (by omega) (hK.at · rl_303 rfl) (hK.at · rl_304 rfl) (hK.at · rl_305 rfl)
    refine mp_a (a_aload_n dX7_goes_43 rfl) (mpp 44 rfl ?_)
    refine mt_getU (i := 9) (k := 0) (A := 302) hT dX7_goes_44 rfl rl_301 (by decide) rfl (by decide) rfl un_18 (mpp 47 rfl ?_)
    refine mp_a (a_iconst (v := 0) dX7_goes_47 rfl) (mpp 48 rfl ?_)
    refine mp_t (s_dup2 dX7_goes_48 ⟨rfl, rfl⟩) (mpp 49 rfl ?_)
    refine mt_ialX (n := 155) hT dX7_goes_49 rl_302 (by decide) rfl rfl (by decide) (by decide) ssp_0 (fun g20 => mpp 50 rfl ?_)
    have we22 := ti_full (fv P 302 0)
    refine mp_a (a_iconst (v := 1) dX7_goes_50 rfl) (mpp 51 rfl ?_)
    obtain ⟨z23, h24⟩ := ti_ex ((fv P 302 0) - 1 : Int32)
    have wz23 := ti_full z23
    refine mp_t (s_isub (v := z23) dX7_goes_51 h24) (mpp 52 rfl ?_)
    try have e25 : z23.toInt = (fv P 302 0).toInt - 1 := ti_subz h24 rfl rfl (by omega) (by omega)
    refine mt_iasX (n := 155) hT dX7_goes_52 rl_302 (by decide) rfl rfl (by decide) (by decide) ssp_0 (okS_c0 ⟨by omega, by omega⟩) (fun P26 hT27 f28 f29 f30 => mpp 53 rfl ?_)
    have f28 : fv P26 302 0 = _ := f28
    have f29 : ∀ b j : Nat, ¬ (b = 302 ∧ j = 0) → fv P26 b j = fv P b j := f29
    have k31 : KW [1152] Po P26 := KW.step hK rl_302 rfl f29 f30
    have R32 := Rel.many hRe f29 f28 (by omega)
    have e33 : (fv P26 302 0).toInt = z23.toInt := congrArg Int32.toInt f28
    have u34 : (∀ j : Nat, 1 ≤ j → fv P26 302 j = if 3 + 19 * t1.toInt.toNat ≤ j ∧ j < 3 + 19 * ((fv Po 302 0).toInt - 1).toNat then fv Po 302 (j + 19) else fv Po 302 j) := fun j hj => by rw [f29 302 j (by omega)]; exact Mv.get i_0 (by omega) j
    have u35 : ((fv P26 302 0).toInt = (fv Po 302 0).toInt - 1) := by omega
    have u36 : KI 302 303 Po P26 := fun x j hx => by rw [f29 x j (by omega), i_5 x j (by omega)]
    exact mp_ret ⟨⟨rfl, trivial⟩, hT27, k31, R32, ⟨u34, u35, u36⟩⟩ dX7_goes_53 rfl
  · have c19 : v2.toInt < x16.toInt := ti_ge_n c19
    refine mp_a (a_aload_n dX7_goes_22 rfl) (mpp 23 rfl ?_)
    refine mt_getU (i := 9) (k := 0) (A := 302) hT dX7_goes_23 rfl rl_301 (by decide) rfl (by decide) rfl un_18 (mpp 26 rfl ?_)
    refine mp_a (a_iload_n dX7_goes_26 rfl) (mpp 27 rfl ?_)
    refine mp_a (a_aload_n dX7_goes_27 rfl) (mpp 28 rfl ?_)
    refine mt_getU (i := 9) (k := 0) (A := 302) hT dX7_goes_28 rfl rl_301 (by decide) rfl (by decide) rfl un_18 (mpp 31 rfl ?_)
    refine mp_a (a_iload_n dX7_goes_31 rfl) (mpp 32 rfl ?_)
    refine mp_a (a_bipush (v := 19) dX7_goes_32 rfl) (mpp 34 rfl ?_)
    obtain ⟨z37, h38⟩ := ti_ex (v2 + 19 : Int32)
    have wz37 := ti_full z37
    refine mp_t (s_iadd (v := z37) dX7_goes_34 h38) (mpp 35 rfl ?_)
    try have e39 : z37.toInt = v2.toInt + 19 := ti_addz h38 rfl rfl (by omega) (by omega)
    refine mt_ialX (n := 155) hT dX7_goes_35 rl_302 (by decide) rfl rfl (by omega) (by omega) ssp_0 (fun g40 => mpp 36 rfl ?_)
    have we42 := ti_full (fv P 302 z37.toInt.toNat)
    refine mt_iasX (n := 155) hT dX7_goes_36 rl_302 (by decide) rfl rfl (by omega) (by omega) ssp_0 (okS_19 g40 (by omega) (by omega)) (fun P43 hT44 f45 f46 f47 => mpp 37 rfl ?_)
    have k48 : KW [1152] Po P43 := KW.step hK rl_302 rfl f46 f47
    obtain ⟨z50, h51⟩ := ti_ex (v2 + 1 : Int32)
    have wz50 := ti_full z50
    refine mp_a (a_iinc (v := z50) (L' := [(2, .int z50), (0, .ref 301), (1, .int t1)]) dX7_goes_37 (by decide) rfl h51 rfl) (mpp 40 rfl ?_)
    try have e52 : z50.toInt = v2.toInt + 1 := ti_addz h51 rfl rfl (by omega) (by omega)
    refine mp_a (a_goto (t := 6) dX7_goes_40 (by decide)) ?_
    refine MEvP.less (L := [(0, .ref 301), (1, .int t1), (2, .int z50)]) rfl rfl ⟨rfl, rfl, rfl, trivial⟩ ?_
    have i53 : Mv Po P43 (3 + 19 * t1.toInt.toNat) z50.toInt.toNat := Mv.step i_0 f45 f46 (by omega) (by omega) (by omega)
    have i54 : 3 + 19 * t1.toInt ≤ z50.toInt := by omega
    have i55 : z50.toInt ≤ 19 * (fv Po 302 0).toInt - 16 := by omega
    have e56 : (fv P43 302 0).toInt = (fv P 302 0).toInt := congrArg Int32.toInt (f46 302 0 (ne_i (by omega)))
    have i57 : (fv P43 302 0).toInt = (fv Po 302 0).toInt := by omega
    have i58 : (fv Po 302 0).toInt ≤ 8 := by omega
    have i59 : KI 302 303 Po P43 := fun x j hx => by rw [f46 x j (by omega), i_5 x j hx]
    exact ih _ (by omega) _ P43 hT44 k48 i53 i54 i55 i57 i58 i59 rfl

set_option maxHeartbeats 4000000 in
theorem c_M_goes {Po : mP} {t1 : Int32} (hT : Typ Po) (hR : Rel Po) (hp0 : 0 ≤ t1.toInt) (hp1 : t1.toInt + 1 ≤ (fv Po 302 0).toInt)  : EvP 2 155 [.ref 301, .int t1] Po (fun r P' => (r = none ∧ (True)) ∧ Typ P' ∧ KW [1152] Po P' ∧ Rel P' ∧ (∀ j : Nat, 1 ≤ j → fv P' 302 j = if 3 + 19 * t1.toInt.toNat ≤ j ∧ j < 3 + 19 * ((fv Po 302 0).toInt - 1).toNat then fv Po 302 (j + 19) else fv Po 302 j) ∧ ((fv P' 302 0).toInt = (fv Po 302 0).toInt - 1) ∧ KI 302 303 Po P') := by
  refine EvP.of qm_155 (Nat.le_of_ble_eq_true rfl) rfl ?_
  show MEvP _ none q_155 0 [(0, .ref 301), (1, .int t1)] [] _ 0 0 _
  have w_t1 := ti_full t1
  have g1 : (0 : Int) ≤ (fv Po 302 0).toInt ∧ (fv Po 302 0).toInt ≤ 8 := Typ.rng hT rl_302 (by decide) (by decide) rfl
  refine mp_a (a_iload_n dX7_goes_0 rfl) (mpp 1 rfl ?_)
  refine mp_a (a_iconst (v := 0) dX7_goes_1 rfl) (mpp 2 rfl ?_)
  have p2 : 0 ≤ t1.toInt := by omega
  have p3 : t1.toInt ≤ 8 := by omega
  have p4 : 0 ≤ (0 : Int) := by omega
  have p5 : (0 : Int) ≤ 20 := by omega
  refine mp_calls (i := 74) (q' := q_135) (As := [.int t1, .int 0]) (rest := []) dX7_goes_2 rfl qm_135 (by decide) rfl (Nat.le_of_ble_eq_true rfl) rfl ⟨rfl, rfl⟩ ⟨Nat.le_of_ble_eq_true rfl, Nat.le_of_ble_eq_true rfl⟩ (EvP.mono (by decide) (c_M_at hT p2 p3 p4 p5 )) (fun r6 P7 g8 => mpp 5 rfl ?_)
  obtain ⟨⟨x9, rfl, g10⟩, e11⟩ := g8
  have e11 := e11.symm
  subst e11
  have wx9 := ti_full x9
  replace g10 : x9.toInt = 3 + 19 * t1.toInt + (0 : Int) := g10
  show MEvP _ none q_155 5 [(0, .ref 301), (1, .int t1)] [.int x9] _ _ _ _
  refine mp_a (a_istore_n (L' := [(2, .int x9), (0, .ref 301), (1, .int t1)]) dX7_goes_5 (by decide) rfl) (mpp 6 rfl ?_)
  refine MEvP.less (L := [(0, .ref 301), (1, .int t1), (2, .int x9)]) rfl rfl ⟨rfl, rfl, rfl, trivial⟩ ?_
  have i12 : Mv Po Po (3 + 19 * t1.toInt.toNat) x9.toInt.toNat := Mv.start (by omega)
  have i13 : 3 + 19 * t1.toInt ≤ x9.toInt := by omega
  have i14 : x9.toInt ≤ 19 * (fv Po 302 0).toInt - 16 := by omega
  have i15 : (fv Po 302 0).toInt = (fv Po 302 0).toInt := by omega
  have i16 : (fv Po 302 0).toInt ≤ 8 := by omega
  have i17 : KI 302 303 Po Po := KI.refl
  exact c_M_goes_l6  hR hp0 hp1 _ _ Po hT KW.refl i12 i13 i14 i15 i16 i17 rfl

set_option maxHeartbeats 4000000 in
theorem c_M_joins_l166 {Po : mP} {t1 : Int32} {t2 : Int32} {t3 : Int32}  : ∀ (n : Nat) (v4 : Int32) (v5 : Int32) (v6 : Int32), ∀ (P : mP), Typ P → KW [1093, 1094, 1152] Po P → Rel P → (0 ≤ t1.toInt ∧ t1.toInt ≤ 7 ∧ 0 ≤ t2.toInt ∧ t2.toInt ≤ 7 ∧ ¬ t1.toInt = t2.toInt) → (v4.toInt = (fv Po 302 (4 + 19 * t1.toInt.toNat)).toInt ∧ v5.toInt = (fv Po 302 (4 + 19 * t2.toInt.toNat)).toInt ∧ v4.toInt + v5.toInt ≤ 7 ∧ 2 ≤ v4.toInt ∧ 2 ≤ v5.toInt) → ((fv P 302 0).toInt = (fv Po 302 0).toInt ∧ t2.toInt + 1 ≤ (fv Po 302 0).toInt ∧ t1.toInt + 1 ≤ (fv Po 302 0).toInt ∧ (fv Po 302 0).toInt ≤ 8) → (W2 Po P (fun _ => False) (6 + 19 * t1.toInt.toNat + (fv Po 302 (4 + 19 * t1.toInt.toNat)).toInt.toNat) (13 + 19 * t1.toInt.toNat + (fv Po 302 (4 + 19 * t1.toInt.toNat)).toInt.toNat) (fun j : Nat => fv Po 302 (6 + 19 * t2.toInt.toNat + j)) (fun j : Nat => if j = 0 then t3 else fv Po 302 (13 + 19 * t2.toInt.toNat + j)) v6.toInt.toNat (1 + min v6.toInt ((fv Po 302 (4 + 19 * t2.toInt.toNat)).toInt - 1)).toNat) → (v6.toInt ≤ v5.toInt) → ((fv Po 302 (5 + 19 * t1.toInt.toNat)).toInt ≠ 1 ∧ (fv Po 302 (5 + 19 * t2.toInt.toNat)).toInt ≠ 1 ∧ (fv Po 302 (3 + 19 * t1.toInt.toNat)).toInt = 0 ∧ (fv Po 302 (3 + 19 * t2.toInt.toNat)).toInt = 0 ∧ 0 ≤ t3.toInt ∧ t3.toInt ≤ 2) → (0 ≤ v6.toInt) → (2147483647 - v6.toInt).toNat = n → MEvP 3 none q_154 166 [(0, .ref 301), (1, .int t1), (2, .int t2), (3, .int t3), (4, .int v4), (5, .int v5), (6, .int v6)] [] P 0 0 (fun r P' => (∃ x : Int32, r = some (.int x) ∧ (joinsM (sr Po) (sr P') x.toInt t1.toInt t2.toInt t3.toInt)) ∧ Typ P' ∧ KW [1093, 1094, 1152] Po P' ∧ Rel P') := by
  intro n
  induction n using Nat.strongRecOn with | _ n ih => ?_
  intro v4 v5 v6 P hT hK hR i_0 i_1 i_2 i_3 i_4 i_5 i_6 hm
  have w_t1 := ti_full t1
  have w_t2 := ti_full t2
  have w_t3 := ti_full t3
  have w_v4 := ti_full v4
  have w_v5 := ti_full v5
  have w_v6 := ti_full v6
  have g1 : (0 : Int) ≤ (fv P 302 0).toInt ∧ (fv P 302 0).toInt ≤ 8 := Typ.rng hT rl_302 (by decide) (by decide) rfl
  have g2 : (0 : Int) ≤ (fv P 302 0).toInt ∧ (fv P 302 0).toInt ≤ 8 := Typ.rng hT rl_302 (by decide) (by decide) rfl
  refine mp_a (a_iload dX7_joins_166 rfl) (mpp 168 rfl ?_)
  refine mp_a (a_iload dX7_joins_168 rfl) (mpp 170 rfl ?_)
  refine mp_Tb (t := 235) (j_icmp_ge dX7_joins_170) (by decide) (fun c3 => ?_) (fun c3 => mpp 173 rfl ?_)
  · have c3 : v6.toInt ≥ v5.toInt := ti_ge c3
    refine mp_a (a_aload_n dX7_joins_235 rfl) (mpp 236 rfl ?_)
    refine mt_getU (i := 9) (k := 0) (A := 302) hT dX7_joins_236 rfl rl_301 (by decide) rfl (by decide) rfl un_18 (mpp 239 rfl ?_)
    refine mp_a (a_iload_n dX7_joins_239 rfl) (mpp 240 rfl ?_)
    refine mp_a (a_iconst (v := 1) dX7_joins_240 rfl) (mpp 241 rfl ?_)
    have p4 : 0 ≤ t1.toInt := by omega
    have p5 : t1.toInt ≤ 8 := by omega
    have p6 : 0 ≤ (1 : Int) := by omega
    have p7 : (1 : Int) ≤ 20 := by omega
    refine mp_calls (i := 74) (q' := q_135) (As := [.int t1, .int 1]) (rest := [.ref 302]) dX7_joins_241 rfl qm_135 (by decide) rfl (Nat.le_of_ble_eq_true rfl) rfl ⟨rfl, rfl⟩ ⟨Nat.le_of_ble_eq_true rfl, Nat.le_of_ble_eq_true rfl⟩ (EvP.mono (by decide) (c_M_at hT p4 p5 p6 p7 )) (fun r8 P9 g10 => mpp 244 rfl ?_)
    obtain ⟨⟨x11, rfl, g12⟩, e13⟩ := g10
    have e13 := e13.symm
    subst e13
    have wx11 := ti_full x11
    replace g12 : x11.toInt = 3 + 19 * t1.toInt + (1 : Int) := g12
    show MEvP _ none q_154 244 [(0, .ref 301), (1, .int t1), (2, .int t2), (3, .int t3), (4, .int v4), (5, .int v5), (6, .int v6)] [.int x11, .ref 302] _ _ _ _
    refine mp_a (a_iload dX7_joins_244 rfl) (mpp 246 rfl ?_)
    refine mp_a (a_iload dX7_joins_246 rfl) (mpp 248 rfl ?_)
    obtain ⟨z14, h15⟩ := ti_ex (v4 + v5 : Int32)
    have wz14 := ti_full z14
    refine mp_t (s_iadd (v := z14) dX7_joins_248 h15) (mpp 249 rfl ?_)
    try have e16 : z14.toInt = v4.toInt + v5.toInt := ti_addz h15 rfl rfl (by omega) (by omega)
    refine mt_iasX (n := 155) hT dX7_joins_249 rl_302 (by decide) rfl rfl (by omega) (by omega) ssp_0 (okS_mk (by omega) (fun _ => ⟨by omega, by omega⟩) (fun _ => ⟨by omega, by omega⟩)) (fun P17 hT18 f19 f20 f21 => mpp 250 rfl ?_)
    have k22 : KW [1093, 1094, 1152] Po P17 := KW.step hK rl_302 rfl f20 f21
    have R23 := Rel.siz hR (p := t1.toInt.toNat) f20 f19 (by omega) (by omega) ⟨by omega, by omega⟩
    refine mp_a (a_aload_n dX7_joins_250 rfl) (mpp 251 rfl ?_)
    refine mp_a (a_iload_n dX7_joins_251 rfl) (mpp 252 rfl ?_)
    have e24 : (fv P17 302 0).toInt = (fv P 302 0).toInt := congrArg Int32.toInt (f20 302 0 (ne_i (by omega)))
    have p25 : 0 ≤ t2.toInt := by omega
    have p26 : t2.toInt + 1 ≤ (fv P17 302 0).toInt := by omega
    refine mt_callv (i := 148) (q' := q_155) (As := [.int t2]) (rest := []) hT18 dX7_joins_252 rfl qm_155 (by decide) rfl rl_301 (by decide) rfl (Nat.le_of_ble_eq_true rfl) rfl ⟨rfl, rfl⟩ ⟨Nat.le_of_ble_eq_true rfl, Nat.le_of_ble_eq_true rfl⟩ (EvP.mono (by decide) (c_M_goes hT18 R23 p25 p26 )) (fun r27 P28 g29 => mpp 255 rfl ?_)
    obtain ⟨⟨rfl, g31⟩, hT32, k33, R34r, R34⟩ := g29
    have k35 : KW [1093, 1094, 1152] Po P28 := KW.trans k22 k33 rfl
    show MEvP _ none q_154 255 [(0, .ref 301), (1, .int t1), (2, .int t2), (3, .int t3), (4, .int v4), (5, .int v5), (6, .int v6)] [] _ _ _ _
    refine mp_a (a_iload dX7_joins_255 rfl) (mpp 257 rfl ?_)
    refine mp_a (a_iload dX7_joins_257 rfl) (mpp 259 rfl ?_)
    obtain ⟨z37, h38⟩ := ti_ex (v4 + v5 : Int32)
    have wz37 := ti_full z37
    refine mp_t (s_iadd (v := z37) dX7_joins_259 h38) (mpp 260 rfl ?_)
    try have e39 : z37.toInt = v4.toInt + v5.toInt := ti_addz h38 rfl rfl (by omega) (by omega)
    have e41 : (fv P17 302 0).toInt = (fv P 302 0).toInt := congrArg Int32.toInt (f20 302 0 (by omega))
    have e42 : (fv P17 302 1).toInt = (fv P 302 1).toInt := congrArg Int32.toInt (f20 302 1 (by omega))
    have e43 : (fv P17 302 2).toInt = (fv P 302 2).toInt := congrArg Int32.toInt (f20 302 2 (by omega))
    have w44_ := i_3.fin (i' := (fv Po 302 (4 + 19 * t2.toInt.toNat)).toInt.toNat) (k' := (fv Po 302 (4 + 19 * t2.toInt.toNat)).toInt.toNat) (by omega) (by omega)
    have u40 : joinsM (sr Po) (sr P28) z37.toInt t1.toInt t2.toInt t3.toInt := (show (z37.toInt = -1001 ∧ ((t1.toInt < 0 ∨ (fv Po 302 (0)).toInt ≤ t1.toInt) ∨ (t2.toInt < 0 ∨ (fv Po 302 (0)).toInt ≤ t2.toInt) ∨ t1.toInt = t2.toInt) ∧ (∀ j : Nat, fv P28 302 j = fv Po 302 j)) ∨ (z37.toInt = -1002 ∧ (0 ≤ t1.toInt ∧ t1.toInt + 1 ≤ (fv Po 302 (0)).toInt ∧ t1.toInt ≤ 7) ∧ (0 ≤ t2.toInt ∧ t2.toInt + 1 ≤ (fv Po 302 (0)).toInt ∧ t2.toInt ≤ 7) ∧ ¬ t1.toInt = t2.toInt ∧ (t3.toInt < 0 ∨ 2 < t3.toInt) ∧ (∀ j : Nat, fv P28 302 j = fv Po 302 j)) ∨ (z37.toInt = -1003 ∧ (0 ≤ t1.toInt ∧ t1.toInt + 1 ≤ (fv Po 302 (0)).toInt ∧ t1.toInt ≤ 7) ∧ (0 ≤ t2.toInt ∧ t2.toInt + 1 ≤ (fv Po 302 (0)).toInt ∧ t2.toInt ≤ 7) ∧ ¬ t1.toInt = t2.toInt ∧ (0 ≤ t3.toInt ∧ t3.toInt ≤ 2) ∧ ((fv Po 302 (5 + 19 * t1.toInt.toNat)).toInt = 1 ∨ (fv Po 302 (5 + 19 * t2.toInt.toNat)).toInt = 1 ∨ (fv Po 302 (3 + 19 * t1.toInt.toNat)).toInt = 1 ∨ (fv Po 302 (3 + 19 * t2.toInt.toNat)).toInt = 1 ∨ 7 < (fv Po 302 (4 + 19 * t1.toInt.toNat)).toInt + (fv Po 302 (4 + 19 * t2.toInt.toNat)).toInt) ∧ (∀ j : Nat, fv P28 302 j = fv Po 302 j)) ∨ ((0 ≤ t1.toInt ∧ t1.toInt + 1 ≤ (fv Po 302 (0)).toInt ∧ t1.toInt ≤ 7) ∧ (0 ≤ t2.toInt ∧ t2.toInt + 1 ≤ (fv Po 302 (0)).toInt ∧ t2.toInt ≤ 7) ∧ ¬ t1.toInt = t2.toInt ∧ (0 ≤ t3.toInt ∧ t3.toInt ≤ 2) ∧ (¬ (fv Po 302 (5 + 19 * t1.toInt.toNat)).toInt = 1 ∧ ¬ (fv Po 302 (5 + 19 * t2.toInt.toNat)).toInt = 1 ∧ (fv Po 302 (3 + 19 * t1.toInt.toNat)).toInt = 0 ∧ (fv Po 302 (3 + 19 * t2.toInt.toNat)).toInt = 0 ∧ (fv Po 302 (4 + 19 * t1.toInt.toNat)).toInt + (fv Po 302 (4 + 19 * t2.toInt.toNat)).toInt ≤ 7) ∧ z37.toInt = (fv Po 302 (4 + 19 * t1.toInt.toNat)).toInt + (fv Po 302 (4 + 19 * t2.toInt.toNat)).toInt ∧ (fv P28 302 (0)).toInt = (fv Po 302 (0)).toInt - 1 ∧ (∃ m : Nat → Int32, (∀ j : Nat, j < ((fv Po 302 (4 + 19 * t2.toInt.toNat)).toInt).toNat → m (6 + 19 * t1.toInt.toNat + ((fv Po 302 (4 + 19 * t1.toInt.toNat)).toInt).toNat + j) = fv Po 302 (6 + 19 * t2.toInt.toNat + j)) ∧ (m (13 + 19 * t1.toInt.toNat + ((fv Po 302 (4 + 19 * t1.toInt.toNat)).toInt).toNat)).toInt = t3.toInt ∧ (∀ j : Nat, 1 ≤ j → j < ((fv Po 302 (4 + 19 * t2.toInt.toNat)).toInt).toNat → m (13 + 19 * t1.toInt.toNat + ((fv Po 302 (4 + 19 * t1.toInt.toNat)).toInt).toNat + j) = fv Po 302 (13 + 19 * t2.toInt.toNat + j)) ∧ (m (4 + 19 * t1.toInt.toNat)).toInt = (fv Po 302 (4 + 19 * t1.toInt.toNat)).toInt + (fv Po 302 (4 + 19 * t2.toInt.toNat)).toInt ∧ (∀ j : Nat, ¬ j = 4 + 19 * t1.toInt.toNat → ¬ (6 + 19 * t1.toInt.toNat + ((fv Po 302 (4 + 19 * t1.toInt.toNat)).toInt).toNat ≤ j ∧ j < 6 + 19 * t1.toInt.toNat + ((fv Po 302 (4 + 19 * t1.toInt.toNat)).toInt).toNat + ((fv Po 302 (4 + 19 * t2.toInt.toNat)).toInt).toNat) → ¬ (13 + 19 * t1.toInt.toNat + ((fv Po 302 (4 + 19 * t1.toInt.toNat)).toInt).toNat ≤ j ∧ j < 13 + 19 * t1.toInt.toNat + ((fv Po 302 (4 + 19 * t1.toInt.toNat)).toInt).toNat + ((fv Po 302 (4 + 19 * t2.toInt.toNat)).toInt).toNat) → m j = fv Po 302 j) ∧ ∀ j : Nat, 1 ≤ j → fv P28 302 j = if 3 + 19 * t2.toInt.toNat ≤ j ∧ j < 3 + 19 * ((fv Po 302 (0)).toInt - 1).toNat then m (j + 19) else m j)) from Or.inr (Or.inr (Or.inr (⟨by omega, by omega, by omega, by omega, by omega, by omega, by omega, ⟨sr P17, fun j hj => (f20 302 _ (by omega)).trans (w44_.1 j hj), by show (fv P17 302 (13 + 19 * t1.toInt.toNat + (fv Po 302 (4 + 19 * t1.toInt.toNat)).toInt.toNat)).toInt = _; rw [f20 302 _ (by omega)]; exact congrArg Int32.toInt (w44_.2.1 0 (by omega)), fun j h1 hj => (f20 302 _ (by omega)).trans ((w44_.2.1 j hj).trans (if_neg (by omega))), (congrArg (fun k => (fv P17 302 k).toInt) (show 4 + 19 * t1.toInt.toNat = x11.toInt.toNat from by omega)).trans ((congrArg Int32.toInt f19).trans (by omega)), fun j h1 h2 h3 => (f20 302 j (by omega)).trans (w44_.2.2 j (fun h => h) (by omega) (by omega)), fun j hj => by rw [show ((fv Po 302 0).toInt - 1) = ((fv P17 302 0).toInt - 1) from by omega]; exact R34.1 j hj⟩⟩))))
    exact mp_iret ⟨⟨_, rfl, u40⟩, hT32, k35, R34r⟩ dX7_joins_260 (Or.inl rfl)
  · have c3 : v6.toInt < v5.toInt := ti_ge_n c3
    refine mp_a (a_aload_n dX7_joins_173 rfl) (mpp 174 rfl ?_)
    refine mt_getU (i := 9) (k := 0) (A := 302) hT dX7_joins_174 rfl rl_301 (by decide) rfl (by decide) rfl un_18 (mpp 177 rfl ?_)
    refine mp_a (a_iload_n dX7_joins_177 rfl) (mpp 178 rfl ?_)
    refine mp_a (a_iconst (v := 3) dX7_joins_178 rfl) (mpp 179 rfl ?_)
    refine mp_a (a_iload dX7_joins_179 rfl) (mpp 181 rfl ?_)
    obtain ⟨z45, h46⟩ := ti_ex (3 + v4 : Int32)
    have wz45 := ti_full z45
    refine mp_t (s_iadd (v := z45) dX7_joins_181 h46) (mpp 182 rfl ?_)
    try have e47 : z45.toInt = 3 + v4.toInt := ti_addz h46 rfl rfl (by omega) (by omega)
    refine mp_a (a_iload dX7_joins_182 rfl) (mpp 184 rfl ?_)
    obtain ⟨z48, h49⟩ := ti_ex (z45 + v6 : Int32)
    have wz48 := ti_full z48
    refine mp_t (s_iadd (v := z48) dX7_joins_184 h49) (mpp 185 rfl ?_)
    try have e50 : z48.toInt = z45.toInt + v6.toInt := ti_addz h49 rfl rfl (by omega) (by omega)
    have p51 : 0 ≤ t1.toInt := by omega
    have p52 : t1.toInt ≤ 8 := by omega
    have p53 : 0 ≤ z48.toInt := by omega
    have p54 : z48.toInt ≤ 20 := by omega
    refine mp_calls (i := 74) (q' := q_135) (As := [.int t1, .int z48]) (rest := [.ref 302]) dX7_joins_185 rfl qm_135 (by decide) rfl (Nat.le_of_ble_eq_true rfl) rfl ⟨rfl, rfl⟩ ⟨Nat.le_of_ble_eq_true rfl, Nat.le_of_ble_eq_true rfl⟩ (EvP.mono (by decide) (c_M_at hT p51 p52 p53 p54 )) (fun r55 P56 g57 => mpp 188 rfl ?_)
    obtain ⟨⟨x58, rfl, g59⟩, e60⟩ := g57
    have e60 := e60.symm
    subst e60
    have wx58 := ti_full x58
    replace g59 : x58.toInt = 3 + 19 * t1.toInt + z48.toInt := g59
    show MEvP _ none q_154 188 [(0, .ref 301), (1, .int t1), (2, .int t2), (3, .int t3), (4, .int v4), (5, .int v5), (6, .int v6)] [.int x58, .ref 302] _ _ _ _
    refine mp_a (a_aload_n dX7_joins_188 rfl) (mpp 189 rfl ?_)
    refine mp_a (a_iload_n dX7_joins_189 rfl) (mpp 190 rfl ?_)
    refine mp_a (a_iload dX7_joins_190 rfl) (mpp 192 rfl ?_)
    have p61 : 0 ≤ t2.toInt := by omega
    have p62 : t2.toInt ≤ 7 := by omega
    have p63 : 0 ≤ v6.toInt := by omega
    have p64 : v6.toInt ≤ 7 := by omega
    refine mt_callv (i := 142) (q' := q_152) (As := [.int t2, .int v6]) (rest := [.int x58, .ref 302]) hT dX7_joins_192 rfl qm_152 (by decide) rfl rl_301 (by decide) rfl (Nat.le_of_ble_eq_true rfl) rfl ⟨rfl, rfl⟩ ⟨Nat.le_of_ble_eq_true rfl, Nat.le_of_ble_eq_true rfl⟩ (EvP.mono (by decide) (c_M_sizeOf hT p61 p62 p63 p64 )) (fun r65 P66 g67 => mpp 195 rfl ?_)
    obtain ⟨⟨x68, rfl, g69⟩, e70⟩ := g67
    have e70 := e70.symm
    subst e70
    have wx68 := ti_full x68
    replace g69 : x68.toInt = (fv P 302 (6 + 19 * t2.toInt.toNat + v6.toInt.toNat)).toInt := g69
    show MEvP _ none q_154 195 [(0, .ref 301), (1, .int t1), (2, .int t2), (3, .int t3), (4, .int v4), (5, .int v5), (6, .int v6)] [.int x68, .int x58, .ref 302] _ _ _ _
    refine mt_iasX (n := 155) hT dX7_joins_195 rl_302 (by decide) rfl rfl (by omega) (by omega) ssp_0 (okS_mk (by omega) (fun _ => ⟨by omega, by omega⟩) (fun _ => ⟨by omega, by omega⟩)) (fun P71 hT72 f73 f74 f75 => mpp 196 rfl ?_)
    have k76 : KW [1093, 1094, 1152] Po P71 := KW.step hK rl_302 rfl f74 f75
    have R77 := Rel.oth hR f74 (by omega)
    refine mp_a (a_iload dX7_joins_196 rfl) (mpp 198 rfl ?_)
    refine mp_a (a_iload dX7_joins_198 rfl) (mpp 200 rfl ?_)
    refine mp_a (a_iconst (v := 1) dX7_joins_200 rfl) (mpp 201 rfl ?_)
    obtain ⟨z78, h79⟩ := ti_ex (v5 - 1 : Int32)
    have wz78 := ti_full z78
    refine mp_t (s_isub (v := z78) dX7_joins_201 h79) (mpp 202 rfl ?_)
    try have e80 : z78.toInt = v5.toInt - 1 := ti_subz h79 rfl rfl (by omega) (by omega)
    refine mp_Tb (t := 229) (j_icmp_ge dX7_joins_202) (by decide) (fun c81 => ?_) (fun c81 => mpp 205 rfl ?_)
    · have c81 : v6.toInt ≥ z78.toInt := ti_ge c81
      obtain ⟨z82, h83⟩ := ti_ex (v6 + 1 : Int32)
      have wz82 := ti_full z82
      refine mp_a (a_iinc (v := z82) (L' := [(6, .int z82), (0, .ref 301), (1, .int t1), (2, .int t2), (3, .int t3), (4, .int v4), (5, .int v5)]) dX7_joins_229 (by decide) rfl h83 rfl) (mpp 232 rfl ?_)
      try have e84 : z82.toInt = v6.toInt + 1 := ti_addz h83 rfl rfl (by omega) (by omega)
      refine mp_a (a_goto (t := 166) dX7_joins_232 (by decide)) ?_
      refine MEvP.less (L := [(0, .ref 301), (1, .int t1), (2, .int t2), (3, .int t3), (4, .int v4), (5, .int v5), (6, .int z82)]) rfl rfl ⟨rfl, rfl, rfl, rfl, rfl, rfl, rfl, trivial⟩ ?_
      have i85 : 0 ≤ t1.toInt ∧ t1.toInt ≤ 7 ∧ 0 ≤ t2.toInt ∧ t2.toInt ≤ 7 ∧ ¬ t1.toInt = t2.toInt := by omega
      have i86 : v4.toInt = (fv Po 302 (4 + 19 * t1.toInt.toNat)).toInt ∧ v5.toInt = (fv Po 302 (4 + 19 * t2.toInt.toNat)).toInt ∧ v4.toInt + v5.toInt ≤ 7 ∧ 2 ≤ v4.toInt ∧ 2 ≤ v5.toInt := by omega
      have e87 : (fv P71 302 0).toInt = (fv P 302 0).toInt := congrArg Int32.toInt (f74 302 0 (ne_i (by omega)))
      have i88 : (fv P71 302 0).toInt = (fv Po 302 0).toInt ∧ t2.toInt + 1 ≤ (fv Po 302 0).toInt ∧ t1.toInt + 1 ≤ (fv Po 302 0).toInt ∧ (fv Po 302 0).toInt ≤ 8 := by omega
      have w90_r : fv P 302 (6 + 19 * t2.toInt.toNat + v6.toInt.toNat) = fv Po 302 (6 + 19 * t2.toInt.toNat + v6.toInt.toNat) := i_3.2.2 _ (fun h => h) (by omega) (by omega)
      have w90_ := W2.one i_3 (i' := v6.toInt.toNat + 1) rfl (n := x58.toInt.toNat) (by omega) (congrArg Int32.toInt f73) (show x68.toInt = (fv Po 302 (6 + 19 * t2.toInt.toNat + v6.toInt.toNat)).toInt from by rw [← w90_r]; exact g69) (fun j hj => f74 302 j (fun e => hj e.2)) (Or.inl (by omega))
      have i89 : W2 Po P71 (fun _ => False) (6 + 19 * t1.toInt.toNat + (fv Po 302 (4 + 19 * t1.toInt.toNat)).toInt.toNat) (13 + 19 * t1.toInt.toNat + (fv Po 302 (4 + 19 * t1.toInt.toNat)).toInt.toNat) (fun j : Nat => fv Po 302 (6 + 19 * t2.toInt.toNat + j)) (fun j : Nat => if j = 0 then t3 else fv Po 302 (13 + 19 * t2.toInt.toNat + j)) z82.toInt.toNat (1 + min z82.toInt ((fv Po 302 (4 + 19 * t2.toInt.toNat)).toInt - 1)).toNat := w90_.fin (by omega) (by omega)
      have i91 : z82.toInt ≤ v5.toInt := by omega
      have i92 : (fv Po 302 (5 + 19 * t1.toInt.toNat)).toInt ≠ 1 ∧ (fv Po 302 (5 + 19 * t2.toInt.toNat)).toInt ≠ 1 ∧ (fv Po 302 (3 + 19 * t1.toInt.toNat)).toInt = 0 ∧ (fv Po 302 (3 + 19 * t2.toInt.toNat)).toInt = 0 ∧ 0 ≤ t3.toInt ∧ t3.toInt ≤ 2 := by omega
      have i93 : 0 ≤ z82.toInt := by omega
      exact ih _ (by omega) _ _ _ P71 hT72 k76 R77 i85 i86 i88 i89 i91 i92 i93 rfl
    · have c81 : v6.toInt < z78.toInt := ti_ge_n c81
      refine mp_a (a_aload_n dX7_joins_205 rfl) (mpp 206 rfl ?_)
      refine mt_getU (i := 9) (k := 0) (A := 302) hT72 dX7_joins_206 rfl rl_301 (by decide) rfl (by decide) rfl un_18 (mpp 209 rfl ?_)
      refine mp_a (a_iload_n dX7_joins_209 rfl) (mpp 210 rfl ?_)
      refine mp_a (a_bipush (v := 11) dX7_joins_210 rfl) (mpp 212 rfl ?_)
      refine mp_a (a_iload dX7_joins_212 rfl) (mpp 214 rfl ?_)
      obtain ⟨z94, h95⟩ := ti_ex (11 + v4 : Int32)
      have wz94 := ti_full z94
      refine mp_t (s_iadd (v := z94) dX7_joins_214 h95) (mpp 215 rfl ?_)
      try have e96 : z94.toInt = 11 + v4.toInt := ti_addz h95 rfl rfl (by omega) (by omega)
      refine mp_a (a_iload dX7_joins_215 rfl) (mpp 217 rfl ?_)
      obtain ⟨z97, h98⟩ := ti_ex (z94 + v6 : Int32)
      have wz97 := ti_full z97
      refine mp_t (s_iadd (v := z97) dX7_joins_217 h98) (mpp 218 rfl ?_)
      try have e99 : z97.toInt = z94.toInt + v6.toInt := ti_addz h98 rfl rfl (by omega) (by omega)
      have p100 : 0 ≤ t1.toInt := by omega
      have p101 : t1.toInt ≤ 8 := by omega
      have p102 : 0 ≤ z97.toInt := by omega
      have p103 : z97.toInt ≤ 20 := by omega
      refine mp_calls (i := 74) (q' := q_135) (As := [.int t1, .int z97]) (rest := [.ref 302]) dX7_joins_218 rfl qm_135 (by decide) rfl (Nat.le_of_ble_eq_true rfl) rfl ⟨rfl, rfl⟩ ⟨Nat.le_of_ble_eq_true rfl, Nat.le_of_ble_eq_true rfl⟩ (EvP.mono (by decide) (c_M_at hT72 p100 p101 p102 p103 )) (fun r104 P105 g106 => mpp 221 rfl ?_)
      obtain ⟨⟨x107, rfl, g108⟩, e109⟩ := g106
      have e109 := e109.symm
      subst e109
      have wx107 := ti_full x107
      replace g108 : x107.toInt = 3 + 19 * t1.toInt + z97.toInt := g108
      show MEvP _ none q_154 221 [(0, .ref 301), (1, .int t1), (2, .int t2), (3, .int t3), (4, .int v4), (5, .int v5), (6, .int v6)] [.int x107, .ref 302] _ _ _ _
      refine mp_a (a_aload_n dX7_joins_221 rfl) (mpp 222 rfl ?_)
      refine mp_a (a_iload_n dX7_joins_222 rfl) (mpp 223 rfl ?_)
      refine mp_a (a_iload dX7_joins_223 rfl) (mpp 225 rfl ?_)
      have p110 : 0 ≤ t2.toInt := by omega
      have p111 : t2.toInt ≤ 7 := by omega
      have p112 : 0 ≤ v6.toInt := by omega
      have p113 : v6.toInt ≤ 7 := by omega
      refine mt_callv (i := 92) (q' := q_146) (As := [.int t2, .int v6]) (rest := [.int x107, .ref 302]) hT72 dX7_joins_225 rfl qm_146 (by decide) rfl rl_301 (by decide) rfl (Nat.le_of_ble_eq_true rfl) rfl ⟨rfl, rfl⟩ ⟨Nat.le_of_ble_eq_true rfl, Nat.le_of_ble_eq_true rfl⟩ (EvP.mono (by decide) (c_M_creaseOf hT72 p110 p111 p112 p113 )) (fun r114 P115 g116 => mpp 228 rfl ?_)
      obtain ⟨⟨x117, rfl, g118⟩, e119⟩ := g116
      have e119 := e119.symm
      subst e119
      have wx117 := ti_full x117
      replace g118 : x117.toInt = (fv P71 302 (14 + 19 * t2.toInt.toNat + v6.toInt.toNat)).toInt := g118
      show MEvP _ none q_154 228 [(0, .ref 301), (1, .int t1), (2, .int t2), (3, .int t3), (4, .int v4), (5, .int v5), (6, .int v6)] [.int x117, .int x107, .ref 302] _ _ _ _
      refine mt_iasX (n := 155) hT72 dX7_joins_228 rl_302 (by decide) rfl rfl (by omega) (by omega) ssp_0 (okS_mk (by omega) (fun _ => ⟨by omega, by omega⟩) (fun _ => ⟨by omega, by omega⟩)) (fun P120 hT121 f122 f123 f124 => mpp 229 rfl ?_)
      have k125 : KW [1093, 1094, 1152] Po P120 := KW.step k76 rl_302 rfl f123 f124
      have R126 := Rel.oth R77 f123 (by omega)
      obtain ⟨z127, h128⟩ := ti_ex (v6 + 1 : Int32)
      have wz127 := ti_full z127
      refine mp_a (a_iinc (v := z127) (L' := [(6, .int z127), (0, .ref 301), (1, .int t1), (2, .int t2), (3, .int t3), (4, .int v4), (5, .int v5)]) dX7_joins_229 (by decide) rfl h128 rfl) (mpp 232 rfl ?_)
      try have e129 : z127.toInt = v6.toInt + 1 := ti_addz h128 rfl rfl (by omega) (by omega)
      refine mp_a (a_goto (t := 166) dX7_joins_232 (by decide)) ?_
      refine MEvP.less (L := [(0, .ref 301), (1, .int t1), (2, .int t2), (3, .int t3), (4, .int v4), (5, .int v5), (6, .int z127)]) rfl rfl ⟨rfl, rfl, rfl, rfl, rfl, rfl, rfl, trivial⟩ ?_
      have i130 : 0 ≤ t1.toInt ∧ t1.toInt ≤ 7 ∧ 0 ≤ t2.toInt ∧ t2.toInt ≤ 7 ∧ ¬ t1.toInt = t2.toInt := by omega
      have i131 : v4.toInt = (fv Po 302 (4 + 19 * t1.toInt.toNat)).toInt ∧ v5.toInt = (fv Po 302 (4 + 19 * t2.toInt.toNat)).toInt ∧ v4.toInt + v5.toInt ≤ 7 ∧ 2 ≤ v4.toInt ∧ 2 ≤ v5.toInt := by omega
      have e132 : (fv P120 302 0).toInt = (fv P 302 0).toInt := congrArg Int32.toInt ((f123 302 0 (ne_i (by omega))).trans (f74 302 0 (ne_i (by omega))))
      have i133 : (fv P120 302 0).toInt = (fv Po 302 0).toInt ∧ t2.toInt + 1 ≤ (fv Po 302 0).toInt ∧ t1.toInt + 1 ≤ (fv Po 302 0).toInt ∧ (fv Po 302 0).toInt ≤ 8 := by omega
      have w135_r : fv P 302 (6 + 19 * t2.toInt.toNat + v6.toInt.toNat) = fv Po 302 (6 + 19 * t2.toInt.toNat + v6.toInt.toNat) := i_3.2.2 _ (fun h => h) (by omega) (by omega)
      have w135_ := W2.one i_3 (i' := v6.toInt.toNat + 1) rfl (n := x58.toInt.toNat) (by omega) (congrArg Int32.toInt f73) (show x68.toInt = (fv Po 302 (6 + 19 * t2.toInt.toNat + v6.toInt.toNat)).toInt from by rw [← w135_r]; exact g69) (fun j hj => f74 302 j (fun e => hj e.2)) (Or.inl (by omega))
      have w135_s : fv P71 302 (14 + 19 * t2.toInt.toNat + v6.toInt.toNat) = fv Po 302 (14 + 19 * t2.toInt.toNat + v6.toInt.toNat) := (f74 302 (14 + 19 * t2.toInt.toNat + v6.toInt.toNat) (by omega)).trans (i_3.2.2 _ (fun h => h) (by omega) (by omega))
      have w135_k : (1 + min v6.toInt ((fv Po 302 (4 + 19 * t2.toInt.toNat)).toInt - 1)).toNat = v6.toInt.toNat + 1 := by omega
      rw [w135_k] at w135_
      have i134 : W2 Po P120 (fun _ => False) (6 + 19 * t1.toInt.toNat + (fv Po 302 (4 + 19 * t1.toInt.toNat)).toInt.toNat) (13 + 19 * t1.toInt.toNat + (fv Po 302 (4 + 19 * t1.toInt.toNat)).toInt.toNat) (fun j : Nat => fv Po 302 (6 + 19 * t2.toInt.toNat + j)) (fun j : Nat => if j = 0 then t3 else fv Po 302 (13 + 19 * t2.toInt.toNat + j)) z127.toInt.toNat (1 + min z127.toInt ((fv Po 302 (4 + 19 * t2.toInt.toNat)).toInt - 1)).toNat := (W2.two w135_ (k' := v6.toInt.toNat + 2) rfl (n := x107.toInt.toNat) (by omega) (congrArg Int32.toInt f122) (show x117.toInt = (if v6.toInt.toNat + 1 = 0 then t3 else fv Po 302 (13 + 19 * t2.toInt.toNat + (v6.toInt.toNat + 1))).toInt from by rw [if_neg (by omega), show 13 + 19 * t2.toInt.toNat + (v6.toInt.toNat + 1) = 14 + 19 * t2.toInt.toNat + v6.toInt.toNat from by omega, ← w135_s]; exact g118) (fun j hj => f123 302 j (fun e => hj e.2)) (Or.inr (by omega))).fin (by omega) (by omega)
      have i136 : z127.toInt ≤ v5.toInt := by omega
      have i137 : (fv Po 302 (5 + 19 * t1.toInt.toNat)).toInt ≠ 1 ∧ (fv Po 302 (5 + 19 * t2.toInt.toNat)).toInt ≠ 1 ∧ (fv Po 302 (3 + 19 * t1.toInt.toNat)).toInt = 0 ∧ (fv Po 302 (3 + 19 * t2.toInt.toNat)).toInt = 0 ∧ 0 ≤ t3.toInt ∧ t3.toInt ≤ 2 := by omega
      have i138 : 0 ≤ z127.toInt := by omega
      exact ih _ (by omega) _ _ _ P120 hT121 k125 R126 i130 i131 i133 i134 i136 i137 i138 rfl

