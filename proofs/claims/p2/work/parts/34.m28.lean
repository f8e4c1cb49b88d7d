/-! methods on typed pools, 28 (written by a program) -/
set_option maxHeartbeats 4000000 in
theorem c_M_cuts_l108 {Po : mP} {t1 : Int32} {t2 : Int32}  : ∀ (n : Nat) (v3 : Int32) (v4 : Int32) (v5 : Int32) (v6 : Int32), ∀ (P : mP), Typ P → KW [1093, 1094, 1152, 1408, 1472] Po P → Rel P → (0 ≤ t1.toInt ∧ t1.toInt ≤ 7 ∧ 0 ≤ t2.toInt ∧ t2.toInt ≤ 7) → (v4.toInt = t2.toInt + 1 ∧ v5.toInt = (fv Po 302 (4 + 19 * t1.toInt.toNat)).toInt - (t2.toInt + 1) ∧ 2 ≤ v4.toInt ∧ 2 ≤ v5.toInt ∧ v4.toInt + v5.toInt ≤ 8) → (t1.toInt + 1 ≤ (fv Po 302 0).toInt ∧ (fv Po 302 0).toInt ≤ 7 ∧ (fv Po 302 (5 + 19 * t1.toInt.toNat)).toInt ≠ 1 ∧ (fv Po 302 (3 + 19 * t1.toInt.toNat)).toInt = 0 ∧ t2.toInt < (fv Po 302 (4 + 19 * t1.toInt.toNat)).toInt - 1) → (ROW Po P 306 (fun j : Nat => fv Po 302 (6 + 19 * t1.toInt.toNat + (t2.toInt + 1).toNat + j)) v6.toInt.toNat) → (ROW Po P 307 (fun j : Nat => if (j : Int) + 2 + t2.toInt < (fv Po 302 (4 + 19 * t1.toInt.toNat)).toInt then fv Po 302 (14 + 19 * t1.toInt.toNat + (t2.toInt + 1).toNat + j) else 0) v6.toInt.toNat) → (∀ j : Nat, fv P 302 j = fv Po 302 j) → (v6.toInt ≤ v5.toInt) → (0 ≤ v6.toInt) → (2147483647 - v6.toInt).toNat = n → MEvP 5 none q_157 108 [(0, .ref 301), (1, .int t1), (2, .int t2), (3, .int v3), (4, .int v4), (5, .int v5), (6, .int v6)] [] P 0 0 (fun r P' => (∃ x : Int32, r = some (.int x) ∧ (cutsM (sr Po) (sr P') x.toInt t1.toInt t2.toInt)) ∧ Typ P' ∧ KW [1093, 1094, 1152, 1408, 1472] Po P' ∧ Rel P') := by
  intro n
  induction n using Nat.strongRecOn with | _ n ih => ?_
  intro v3 v4 v5 v6 P hT hK hR i_0 i_1 i_2 i_3 i_4 i_5 i_6 i_7 hm
  have w_t1 := ti_full t1
  have w_t2 := ti_full t2
  have w_v3 := ti_full v3
  have w_v4 := ti_full v4
  have w_v5 := ti_full v5
  have w_v6 := ti_full v6
  refine mp_a (a_iload dX7_cuts_108 rfl) (mpp 110 rfl ?_)
  refine mp_a (a_iload dX7_cuts_110 rfl) (mpp 112 rfl ?_)
  refine mp_Tb (t := 168) (j_icmp_ge dX7_cuts_112) (by decide) (fun c1 => ?_) (fun c1 => mpp 115 rfl ?_)
  · have c1 : v6.toInt ≥ v5.toInt := ti_ge c1
    refine mp_a (a_aload_n dX7_cuts_168 rfl) (mpp 169 rfl ?_)
    refine mt_getU (i := 9) (k := 0) (A := 302) hT dX7_cuts_169 rfl rl_301 (by decide) rfl (by decide) rfl un_18 (mpp 172 rfl ?_)
    refine mp_a (a_iload_n dX7_cuts_172 rfl) (mpp 173 rfl ?_)
    refine mp_a (a_iconst (v := 1) dX7_cuts_173 rfl) (mpp 174 rfl ?_)
    have p2 : 0 ≤ t1.toInt := by omega
    have p3 : t1.toInt ≤ 8 := by omega
    have p4 : 0 ≤ (1 : Int) := by omega
    have p5 : (1 : Int) ≤ 20 := by omega
    refine mp_calls (i := 74) (q' := q_135) (As := [.int t1, .int 1]) (rest := [.ref 302]) dX7_cuts_174 rfl qm_135 (by decide) rfl (Nat.le_of_ble_eq_true rfl) rfl ⟨rfl, rfl⟩ ⟨Nat.le_of_ble_eq_true rfl, Nat.le_of_ble_eq_true rfl⟩ (EvP.mono (by decide) (c_M_at hT p2 p3 p4 p5 )) (fun r6 P7 g8 => mpp 177 rfl ?_)
    obtain ⟨⟨x9, rfl, g10⟩, e11⟩ := g8
    have e11 := e11.symm
    subst e11
    have wx9 := ti_full x9
    replace g10 : x9.toInt = 3 + 19 * t1.toInt + (1 : Int) := g10
    show MEvP _ none q_157 177 [(0, .ref 301), (1, .int t1), (2, .int t2), (3, .int v3), (4, .int v4), (5, .int v5), (6, .int v6)] [.int x9, .ref 302] _ _ _ _
    refine mp_a (a_iload dX7_cuts_177 rfl) (mpp 179 rfl ?_)
    refine mt_iasX (n := 155) hT dX7_cuts_179 rl_302 (by decide) rfl rfl (by omega) (by omega) ssp_0 (okS_mk (by omega) (fun _ => ⟨by omega, by omega⟩) (fun _ => ⟨by omega, by omega⟩)) (fun P12 hT13 f14 f15 f16 => mpp 180 rfl ?_)
    have k17 : KW [1093, 1094, 1152, 1408, 1472] Po P12 := KW.step hK rl_302 rfl f15 f16
    have R18 := Rel.siz hR (p := t1.toInt.toNat) f15 f14 (by omega) (by omega) ⟨by omega, by omega⟩
    refine mp_a (a_aload_n dX7_cuts_180 rfl) (mpp 181 rfl ?_)
    refine mp_a (a_iconst (v := 0) dX7_cuts_181 rfl) (mpp 182 rfl ?_)
    refine mp_a (a_iload dX7_cuts_182 rfl) (mpp 184 rfl ?_)
    have p19 : 0 ≤ (0 : Int) := by omega
    have p20 : (0 : Int) ≤ 1 := by omega
    have p21 : 2 ≤ v5.toInt := by omega
    have p22 : v5.toInt ≤ 8 := by omega
    have p23 : (0 : Int) ≠ 0 ∨ v5.toInt ≤ 7 := by omega
    refine mt_callv (i := 114) (q' := q_133) (As := [.int 0, .int v5]) (rest := []) hT13 dX7_cuts_184 rfl qm_133 (by decide) rfl rl_301 (by decide) rfl (Nat.le_of_ble_eq_true rfl) rfl ⟨rfl, rfl⟩ ⟨Nat.le_of_ble_eq_true rfl, Nat.le_of_ble_eq_true rfl⟩ (EvP.mono (by decide) (c_M_adds hT13 R18 p19 p20 p21 p22 p23 )) (fun r24 P25 g26 => mpp 187 rfl ?_)
    obtain ⟨⟨x27, rfl, g28⟩, hT29, k30, R31⟩ := g26
    have k32 : KW [1093, 1094, 1152, 1408, 1472] Po P25 := KW.trans k17 k30 rfl
    have wx27 := ti_full x27
    replace g28 : addsM (sr P12) (sr P25) (fun j : Nat => fv P12 306 j) (fun j : Nat => fv P12 307 j) x27.toInt (0 : Int) v5.toInt := g28
    show MEvP _ none q_157 187 [(0, .ref 301), (1, .int t1), (2, .int t2), (3, .int v3), (4, .int v4), (5, .int v5), (6, .int v6)] [.int x27] _ _ _ _
    have w35_a : ∀ j : Nat, ¬ j = 4 + 19 * t1.toInt.toNat → fv P12 302 j = fv Po 302 j := fun j hj => (f15 302 j (by omega)).trans (i_5 j)
    have w35_0 : (fv P12 302 0).toInt = (fv Po 302 0).toInt := congrArg Int32.toInt (w35_a 0 (by omega))
    have w35_t : (fv P12 302 (4 + 19 * t1.toInt.toNat)).toInt = t2.toInt + 1 := (congrArg (fun k => (fv P12 302 k).toInt) (show 4 + 19 * t1.toInt.toNat = x9.toInt.toNat from by omega)).trans ((congrArg Int32.toInt f14).trans (by omega))
    have w35_z : v6.toInt.toNat = ((fv Po 302 (4 + 19 * t1.toInt.toNat)).toInt - (t2.toInt + 1)).toNat := by omega
    have w35_ : cutsM (sr Po) (sr P25) x27.toInt t1.toInt t2.toInt := by
      rcases g28 with ⟨o1, o2, o3⟩ | ⟨o1, o2, o3, o4, o5, o6, o7, o8, o9⟩
      · exact absurd (show 8 ≤ (fv P12 302 0).toInt from o2) (by omega)
      · have on : (sr P12 0).toInt.toNat = (fv Po 302 0).toInt.toNat := (congrArg Int.toNat w35_0)
        rw [on] at o4 o5 o6 o7 o8 o9
        have o2 : x27.toInt = (fv P12 302 0).toInt := o2
        have o3 : (fv P25 302 0).toInt = (fv P12 302 0).toInt + 1 := o3
        refine Or.inr (Or.inr ⟨by show 0 ≤ _ ∧ _ + 1 ≤ (fv Po 302 0).toInt ∧ _; omega, by show 0 ≤ _ ∧ _ ≤ (7:Int) ∧ (((fv Po 302 (3 + 19 * t1.toInt.toNat)).toInt = 1 ∧ _ < (fv Po 302 (4 + 19 * t1.toInt.toNat)).toInt) ∨ ((fv Po 302 (3 + 19 * t1.toInt.toNat)).toInt = 0 ∧ _ < (fv Po 302 (4 + 19 * t1.toInt.toNat)).toInt - 1)); omega, by show (fv Po 302 0).toInt ≤ 7 ∧ ¬ (fv Po 302 (5 + 19 * t1.toInt.toNat)).toInt = 1 ∧ (fv Po 302 (3 + 19 * t1.toInt.toNat)).toInt = 0 ∧ 2 ≤ t2.toInt + 1 ∧ 2 ≤ (fv Po 302 (4 + 19 * t1.toInt.toNat)).toInt - (t2.toInt + 1); omega, by show _ = (fv Po 302 0).toInt; omega, by show (fv P25 302 0).toInt = (fv Po 302 0).toInt + 1; omega, ?_, o4, o5.trans (by show _ = (fv Po 302 (4 + 19 * t1.toInt.toNat)).toInt - (t2.toInt + 1); omega), o6, ?_, ?_, ?_⟩)
        · show (fv P25 302 (4 + 19 * t1.toInt.toNat)).toInt = _
          have q : fv P25 302 (4 + 19 * t1.toInt.toNat) = fv P12 302 (4 + 19 * t1.toInt.toNat) := o9 _ (by omega) (Or.inl (by omega))
          rw [q]; exact w35_t
        · intro k hk h2
          have h2 : (k : Int) < (fv Po 302 (4 + 19 * t1.toInt.toNat)).toInt - (t2.toInt + 1) := h2
          exact (o7 k hk (by omega)).trans ((show fv P12 306 k = fv P 306 k from f15 306 k (by omega)).trans (i_3.1 k (by omega)))
        · intro k hk h2
          have h2 : (k : Int) + 1 < (fv Po 302 (4 + 19 * t1.toInt.toNat)).toInt - (t2.toInt + 1) := h2
          exact (o8 k hk (by unfold nC; rw [if_pos (by omega)]; omega)).trans ((show fv P12 307 k = fv P 307 k from f15 307 k (by omega)).trans ((i_4.1 k (by omega)).trans (if_pos (by omega))))
        · intro j h0 h1 h2
          exact (o9 j h0 h2).trans (w35_a j h1)
    have u34 : cutsM (sr Po) (sr P25) x27.toInt t1.toInt t2.toInt := w35_
    exact mp_iret ⟨⟨_, rfl, u34⟩, hT29, k32, R31⟩ dX7_cuts_187 (Or.inl rfl)
  · have c1 : v6.toInt < v5.toInt := ti_ge_n c1
    refine mp_a (a_aload_n dX7_cuts_115 rfl) (mpp 116 rfl ?_)
    refine mt_getU (i := 22) (k := 9) (A := 306) hT dX7_cuts_116 rfl rl_301 (by decide) rfl (by decide) rfl un_22 (mpp 119 rfl ?_)
    refine mp_a (a_iload dX7_cuts_119 rfl) (mpp 121 rfl ?_)
    refine mp_a (a_aload_n dX7_cuts_121 rfl) (mpp 122 rfl ?_)
    refine mp_a (a_iload_n dX7_cuts_122 rfl) (mpp 123 rfl ?_)
    refine mp_a (a_iload dX7_cuts_123 rfl) (mpp 125 rfl ?_)
    refine mp_a (a_iload dX7_cuts_125 rfl) (mpp 127 rfl ?_)
    obtain ⟨z36, h37⟩ := ti_ex (v4 + v6 : Int32)
    have wz36 := ti_full z36
    refine mp_t (s_iadd (v := z36) dX7_cuts_127 h37) (mpp 128 rfl ?_)
    try have e38 : z36.toInt = v4.toInt + v6.toInt := ti_addz h37 rfl rfl (by omega) (by omega)
    have p39 : 0 ≤ t1.toInt := by omega
    have p40 : t1.toInt ≤ 7 := by omega
    have p41 : 0 ≤ z36.toInt := by omega
    have p42 : z36.toInt ≤ 7 := by omega
    refine mt_callv (i := 142) (q' := q_152) (As := [.int t1, .int z36]) (rest := [.int v6, .ref 306]) hT dX7_cuts_128 rfl qm_152 (by decide) rfl rl_301 (by decide) rfl (Nat.le_of_ble_eq_true rfl) rfl ⟨rfl, rfl⟩ ⟨Nat.le_of_ble_eq_true rfl, Nat.le_of_ble_eq_true rfl⟩ (EvP.mono (by decide) (c_M_sizeOf hT p39 p40 p41 p42 )) (fun r43 P44 g45 => mpp 131 rfl ?_)
    obtain ⟨⟨x46, rfl, g47⟩, e48⟩ := g45
    have e48 := e48.symm
    subst e48
    have wx46 := ti_full x46
    replace g47 : x46.toInt = (fv P 302 (6 + 19 * t1.toInt.toNat + z36.toInt.toNat)).toInt := g47
    show MEvP _ none q_157 131 [(0, .ref 301), (1, .int t1), (2, .int t2), (3, .int v3), (4, .int v4), (5, .int v5), (6, .int v6)] [.int x46, .int v6, .ref 306] _ _ _ _
    refine mt_ias (n := 8) hT dX7_cuts_131 rl_306 (by decide) rfl rfl (by omega) (by omega) rfl (ti_full x46) (fun P49 hT50 f51 f52 f53 => mpp 132 rfl ?_)
    have k54 : KW [1093, 1094, 1152, 1408, 1472] Po P49 := KW.step hK rl_306 rfl f52 f53
    have R55 := Rel.ne hR rl_306 rfl f52
    refine mp_a (a_aload_n dX7_cuts_132 rfl) (mpp 133 rfl ?_)
    refine mt_getU (i := 25) (k := 10) (A := 307) hT50 dX7_cuts_133 rfl rl_301 (by decide) rfl (by decide) rfl un_23 (mpp 136 rfl ?_)
    refine mp_a (a_iload dX7_cuts_136 rfl) (mpp 138 rfl ?_)
    refine mp_a (a_iload dX7_cuts_138 rfl) (mpp 140 rfl ?_)
    refine mp_a (a_iload dX7_cuts_140 rfl) (mpp 142 rfl ?_)
    refine mp_a (a_iconst (v := 1) dX7_cuts_142 rfl) (mpp 143 rfl ?_)
    obtain ⟨z56, h57⟩ := ti_ex (v5 - 1 : Int32)
    have wz56 := ti_full z56
    refine mp_t (s_isub (v := z56) dX7_cuts_143 h57) (mpp 144 rfl ?_)
    try have e58 : z56.toInt = v5.toInt - 1 := ti_subz h57 rfl rfl (by omega) (by omega)
    refine mp_Tb (t := 160) (j_icmp_ge dX7_cuts_144) (by decide) (fun c59 => ?_) (fun c59 => mpp 147 rfl ?_)
    · have c59 : v6.toInt ≥ z56.toInt := ti_ge c59
      refine mp_a (a_iconst (v := 0) dX7_cuts_160 rfl) (mpp 161 rfl ?_)
      refine mt_ias (n := 8) hT50 dX7_cuts_161 rl_307 (by decide) rfl rfl (by omega) (by omega) rfl (by decide) (fun P60 hT61 f62 f63 f64 => mpp 162 rfl ?_)
      have k65 : KW [1093, 1094, 1152, 1408, 1472] Po P60 := KW.step k54 rl_307 rfl f63 f64
      have R66 := Rel.ne R55 rl_307 rfl f63
      obtain ⟨z67, h68⟩ := ti_ex (v6 + 1 : Int32)
      have wz67 := ti_full z67
      refine mp_a (a_iinc (v := z67) (L' := [(6, .int z67), (0, .ref 301), (1, .int t1), (2, .int t2), (3, .int v3), (4, .int v4), (5, .int v5)]) dX7_cuts_162 (by decide) rfl h68 rfl) (mpp 165 rfl ?_)
      try have e69 : z67.toInt = v6.toInt + 1 := ti_addz h68 rfl rfl (by omega) (by omega)
      refine mp_a (a_goto (t := 108) dX7_cuts_165 (by decide)) ?_
      refine MEvP.less (L := [(0, .ref 301), (1, .int t1), (2, .int t2), (3, .int v3), (4, .int v4), (5, .int v5), (6, .int z67)]) rfl rfl ⟨rfl, rfl, rfl, rfl, rfl, rfl, rfl, trivial⟩ ?_
      have i70 : 0 ≤ t1.toInt ∧ t1.toInt ≤ 7 ∧ 0 ≤ t2.toInt ∧ t2.toInt ≤ 7 := by omega
      have i71 : v4.toInt = t2.toInt + 1 ∧ v5.toInt = (fv Po 302 (4 + 19 * t1.toInt.toNat)).toInt - (t2.toInt + 1) ∧ 2 ≤ v4.toInt ∧ 2 ≤ v5.toInt ∧ v4.toInt + v5.toInt ≤ 8 := by omega
      have i72 : t1.toInt + 1 ≤ (fv Po 302 0).toInt ∧ (fv Po 302 0).toInt ≤ 7 ∧ (fv Po 302 (5 + 19 * t1.toInt.toNat)).toInt ≠ 1 ∧ (fv Po 302 (3 + 19 * t1.toInt.toNat)).toInt = 0 ∧ t2.toInt < (fv Po 302 (4 + 19 * t1.toInt.toNat)).toInt - 1 := by omega
      have i73 : ROW Po P60 306 (fun j : Nat => fv Po 302 (6 + 19 * t1.toInt.toNat + (t2.toInt + 1).toNat + j)) z67.toInt.toNat := ROW.step (n := v6.toInt.toNat) (v := x46.toInt) i_3 (by omega) rfl (by rw [f63 306 v6.toInt.toNat (by omega)]; exact congrArg Int32.toInt f51) (by have q : fv P 302 (6 + 19 * t1.toInt.toNat + z36.toInt.toNat) = fv Po 302 (6 + 19 * t1.toInt.toNat + (t2.toInt + 1).toNat + v6.toInt.toNat) := (((i_5 _).trans (congrArg (fv Po 302) (by omega)))); show x46.toInt = (fv Po 302 (6 + 19 * t1.toInt.toNat + (t2.toInt + 1).toNat + v6.toInt.toNat)).toInt; rw [← q]; exact g47) (fun j hj => by rw [f63 306 j (by omega), f52 306 j (fun e => hj e.2)])
      have i74 : ROW Po P60 307 (fun j : Nat => if (j : Int) + 2 + t2.toInt < (fv Po 302 (4 + 19 * t1.toInt.toNat)).toInt then fv Po 302 (14 + 19 * t1.toInt.toNat + (t2.toInt + 1).toNat + j) else 0) z67.toInt.toNat := ROW.step (n := v6.toInt.toNat) (v := (0 : Int32).toInt) i_4 (by omega) rfl (congrArg Int32.toInt f62) (show (0 : Int32).toInt = (if ((v6.toInt.toNat : Nat) : Int) + 2 + t2.toInt < (fv Po 302 (4 + 19 * t1.toInt.toNat)).toInt then fv Po 302 (14 + 19 * t1.toInt.toNat + (t2.toInt + 1).toNat + v6.toInt.toNat) else 0).toInt from by rw [if_neg (by omega)]) (fun j hj => by rw [f63 307 j (fun e => hj e.2), f52 307 j (by omega)])
      have i75 : ∀ j : Nat, fv P60 302 j = fv Po 302 j := fun j => by rw [f63 302 j (by omega), f52 302 j (by omega)]; exact i_5 j
      have i76 : z67.toInt ≤ v5.toInt := by omega
      have i77 : 0 ≤ z67.toInt := by omega
      exact ih _ (by omega) _ _ _ _ P60 hT61 k65 R66 i70 i71 i72 i73 i74 i75 i76 i77 rfl
    · have c59 : v6.toInt < z56.toInt := ti_ge_n c59
      refine mp_a (a_aload_n dX7_cuts_147 rfl) (mpp 148 rfl ?_)
      refine mp_a (a_iload_n dX7_cuts_148 rfl) (mpp 149 rfl ?_)
      refine mp_a (a_iload dX7_cuts_149 rfl) (mpp 151 rfl ?_)
      refine mp_a (a_iload dX7_cuts_151 rfl) (mpp 153 rfl ?_)
      obtain ⟨z78, h79⟩ := ti_ex (v4 + v6 : Int32)
      have wz78 := ti_full z78
      refine mp_t (s_iadd (v := z78) dX7_cuts_153 h79) (mpp 154 rfl ?_)
      try have e80 : z78.toInt = v4.toInt + v6.toInt := ti_addz h79 rfl rfl (by omega) (by omega)
      have p81 : 0 ≤ t1.toInt := by omega
      have p82 : t1.toInt ≤ 7 := by omega
      have p83 : 0 ≤ z78.toInt := by omega
      have p84 : z78.toInt ≤ 7 := by omega
      refine mt_callv (i := 92) (q' := q_146) (As := [.int t1, .int z78]) (rest := [.int v6, .ref 307]) hT50 dX7_cuts_154 rfl qm_146 (by decide) rfl rl_301 (by decide) rfl (Nat.le_of_ble_eq_true rfl) rfl ⟨rfl, rfl⟩ ⟨Nat.le_of_ble_eq_true rfl, Nat.le_of_ble_eq_true rfl⟩ (EvP.mono (by decide) (c_M_creaseOf hT50 p81 p82 p83 p84 )) (fun r85 P86 g87 => mpp 157 rfl ?_)
      obtain ⟨⟨x88, rfl, g89⟩, e90⟩ := g87
      have e90 := e90.symm
      subst e90
      have wx88 := ti_full x88
      replace g89 : x88.toInt = (fv P49 302 (14 + 19 * t1.toInt.toNat + z78.toInt.toNat)).toInt := g89
      show MEvP _ none q_157 157 [(0, .ref 301), (1, .int t1), (2, .int t2), (3, .int v3), (4, .int v4), (5, .int v5), (6, .int v6)] [.int x88, .int v6, .ref 307] _ _ _ _
      refine mp_a (a_goto (t := 161) dX7_cuts_157 (by decide)) ?_
      refine mt_ias (n := 8) hT50 dX7_cuts_161 rl_307 (by decide) rfl rfl (by omega) (by omega) rfl (ti_full x88) (fun P91 hT92 f93 f94 f95 => mpp 162 rfl ?_)
      have k96 : KW [1093, 1094, 1152, 1408, 1472] Po P91 := KW.step k54 rl_307 rfl f94 f95
      have R97 := Rel.ne R55 rl_307 rfl f94
      obtain ⟨z98, h99⟩ := ti_ex (v6 + 1 : Int32)
      have wz98 := ti_full z98
      refine mp_a (a_iinc (v := z98) (L' := [(6, .int z98), (0, .ref 301), (1, .int t1), (2, .int t2), (3, .int v3), (4, .int v4), (5, .int v5)]) dX7_cuts_162 (by decide) rfl h99 rfl) (mpp 165 rfl ?_)
      try have e100 : z98.toInt = v6.toInt + 1 := ti_addz h99 rfl rfl (by omega) (by omega)
      refine mp_a (a_goto (t := 108) dX7_cuts_165 (by decide)) ?_
      refine MEvP.less (L := [(0, .ref 301), (1, .int t1), (2, .int t2), (3, .int v3), (4, .int v4), (5, .int v5), (6, .int z98)]) rfl rfl ⟨rfl, rfl, rfl, rfl, rfl, rfl, rfl, trivial⟩ ?_
      have i101 : 0 ≤ t1.toInt ∧ t1.toInt ≤ 7 ∧ 0 ≤ t2.toInt ∧ t2.toInt ≤ 7 := by omega
      have i102 : v4.toInt = t2.toInt + 1 ∧ v5.toInt = (fv Po 302 (4 + 19 * t1.toInt.toNat)).toInt - (t2.toInt + 1) ∧ 2 ≤ v4.toInt ∧ 2 ≤ v5.toInt ∧ v4.toInt + v5.toInt ≤ 8 := by omega
      have i103 : t1.toInt + 1 ≤ (fv Po 302 0).toInt ∧ (fv Po 302 0).toInt ≤ 7 ∧ (fv Po 302 (5 + 19 * t1.toInt.toNat)).toInt ≠ 1 ∧ (fv Po 302 (3 + 19 * t1.toInt.toNat)).toInt = 0 ∧ t2.toInt < (fv Po 302 (4 + 19 * t1.toInt.toNat)).toInt - 1 := by omega
      have i104 : ROW Po P91 306 (fun j : Nat => fv Po 302 (6 + 19 * t1.toInt.toNat + (t2.toInt + 1).toNat + j)) z98.toInt.toNat := ROW.step (n := v6.toInt.toNat) (v := x46.toInt) i_3 (by omega) rfl (by rw [f94 306 v6.toInt.toNat (by omega)]; exact congrArg Int32.toInt f51) (by have q : fv P 302 (6 + 19 * t1.toInt.toNat + z36.toInt.toNat) = fv Po 302 (6 + 19 * t1.toInt.toNat + (t2.toInt + 1).toNat + v6.toInt.toNat) := (((i_5 _).trans (congrArg (fv Po 302) (by omega)))); show x46.toInt = (fv Po 302 (6 + 19 * t1.toInt.toNat + (t2.toInt + 1).toNat + v6.toInt.toNat)).toInt; rw [← q]; exact g47) (fun j hj => by rw [f94 306 j (by omega), f52 306 j (fun e => hj e.2)])
      have i105 : ROW Po P91 307 (fun j : Nat => if (j : Int) + 2 + t2.toInt < (fv Po 302 (4 + 19 * t1.toInt.toNat)).toInt then fv Po 302 (14 + 19 * t1.toInt.toNat + (t2.toInt + 1).toNat + j) else 0) z98.toInt.toNat := ROW.step (n := v6.toInt.toNat) (v := x88.toInt) i_4 (by omega) rfl (congrArg Int32.toInt f93) (by have q : fv P49 302 (14 + 19 * t1.toInt.toNat + z78.toInt.toNat) = fv Po 302 (14 + 19 * t1.toInt.toNat + (t2.toInt + 1).toNat + v6.toInt.toNat) := ((f52 302 _ (by omega)).trans ((i_5 _).trans (congrArg (fv Po 302) (by omega)))); show x88.toInt = (if ((v6.toInt.toNat : Nat) : Int) + 2 + t2.toInt < (fv Po 302 (4 + 19 * t1.toInt.toNat)).toInt then fv Po 302 (14 + 19 * t1.toInt.toNat + (t2.toInt + 1).toNat + v6.toInt.toNat) else 0).toInt; rw [if_pos (by omega)]; rw [← q]; exact g89) (fun j hj => by rw [f94 307 j (fun e => hj e.2), f52 307 j (by omega)])
      have i106 : ∀ j : Nat, fv P91 302 j = fv Po 302 j := fun j => by rw [f94 302 j (by omega), f52 302 j (by omega)]; exact i_5 j
      have i107 : z98.toInt ≤ v5.toInt := by omega
      have i108 : 0 ≤ z98.toInt := by omega
      exact ih _ (by omega) _ _ _ _ P91 hT92 k96 R97 i101 i102 i103 i104 i105 i106 i107 i108 rfl

set_option maxHeartbeats 4000000 in
theorem c_M_cuts {Po : mP} {t1 : Int32} {t2 : Int32} (hT : Typ Po) (hR : Rel Po)  : EvP 6 157 [.ref 301, .int t1, .int t2] Po (fun r P' => (∃ x : Int32, r = some (.int x) ∧ (cutsM (sr Po) (sr P') x.toInt t1.toInt t2.toInt)) ∧ Typ P' ∧ KW [1093, 1094, 1152, 1408, 1472] Po P' ∧ Rel P') := by
  refine EvP.of qm_157 (Nat.le_of_ble_eq_true rfl) rfl ?_
  show MEvP _ none q_157 0 [(0, .ref 301), (1, .int t1), (2, .int t2)] [] _ 0 0 _
  have w_t1 := ti_full t1
  have w_t2 := ti_full t2
  refine mp_a (a_aload_n dX7_cuts_0 rfl) (mpp 1 rfl ?_)
  refine mp_a (a_iload_n dX7_cuts_1 rfl) (mpp 2 rfl ?_)
  refine mp_a (a_iload_n dX7_cuts_2 rfl) (mpp 3 rfl ?_)
  refine mt_callv (i := 127) (q' := q_143) (As := [.int t1, .int t2]) (rest := []) hT dX7_cuts_3 rfl qm_143 (by decide) rfl rl_301 (by decide) rfl (Nat.le_of_ble_eq_true rfl) rfl ⟨rfl, rfl⟩ ⟨Nat.le_of_ble_eq_true rfl, Nat.le_of_ble_eq_true rfl⟩ (EvP.mono (by decide) (c_M_isCrease hT )) (fun r1 P2 g3 => mpp 6 rfl ?_)
  obtain ⟨⟨x4, rfl, g5⟩, e6⟩ := g3
  have e6 := e6.symm
  subst e6
  have wx4 := ti_full x4
  replace g5 : 0 ≤ x4.toInt ∧ x4.toInt ≤ 1 ∧ ((x4.toInt = 0 ∧ (t1.toInt < 0 ∨ (fv Po 302 0).toInt ≤ t1.toInt ∨ t2.toInt < 0 ∨ ((fv Po 302 (3 + 19 * t1.toInt.toNat)).toInt = 1 ∧ (fv Po 302 (4 + 19 * t1.toInt.toNat)).toInt ≤ t2.toInt) ∨ ((fv Po 302 (3 + 19 * t1.toInt.toNat)).toInt = 0 ∧ (fv Po 302 (4 + 19 * t1.toInt.toNat)).toInt - 1 ≤ t2.toInt))) ∨ (x4.toInt = 1 ∧ 0 ≤ t1.toInt ∧ t1.toInt + 1 ≤ (fv Po 302 0).toInt ∧ t1.toInt ≤ 7 ∧ 0 ≤ t2.toInt ∧ t2.toInt ≤ 7 ∧ t2.toInt + 1 ≤ (fv Po 302 (4 + 19 * t1.toInt.toNat)).toInt ∧ (((fv Po 302 (3 + 19 * t1.toInt.toNat)).toInt = 1 ∧ t2.toInt < (fv Po 302 (4 + 19 * t1.toInt.toNat)).toInt) ∨ ((fv Po 302 (3 + 19 * t1.toInt.toNat)).toInt = 0 ∧ t2.toInt < (fv Po 302 (4 + 19 * t1.toInt.toNat)).toInt - 1)))) := g5
  have g7 : (0 : Int) ≤ (fv Po 302 0).toInt ∧ (fv Po 302 0).toInt ≤ 8 := Typ.rng hT rl_302 (by decide) (by decide) rfl
  try have g8 : (0 : Int) ≤ (fv Po 302 (3 + 19 * t1.toInt.toNat)).toInt ∧ (fv Po 302 (3 + 19 * t1.toInt.toNat)).toInt ≤ 1 := s3_rng hT (by omega)
  try have g9 : (0 : Int) ≤ (fv Po 302 (4 + 19 * t1.toInt.toNat)).toInt ∧ (fv Po 302 (4 + 19 * t1.toInt.toNat)).toInt ≤ 8 := s4_rng hT (by omega)
  show MEvP _ none q_157 6 [(0, .ref 301), (1, .int t1), (2, .int t2)] [.int x4] _ _ _ _
  refine mp_Tb (t := 13) (j_if_ne dX7_cuts_6) (by decide) (fun c10 => ?_) (fun c10 => mpp 9 rfl ?_)
  · have c10 : x4.toInt ≠ 0 := ti_ne c10
    refine mp_a (a_aload_n dX7_cuts_13 rfl) (mpp 14 rfl ?_)
    refine mt_getU (i := 9) (k := 0) (A := 302) hT dX7_cuts_14 rfl rl_301 (by decide) rfl (by decide) rfl un_18 (mpp 17 rfl ?_)
    refine mp_a (a_iconst (v := 0) dX7_cuts_17 rfl) (mpp 18 rfl ?_)
    refine mt_ialX (n := 155) hT dX7_cuts_18 rl_302 (by decide) rfl rfl (by decide) (by decide) ssp_0 (fun g11 => mpp 19 rfl ?_)
    have we13 := ti_full (fv Po 302 0)
    refine mp_a (a_bipush (v := 8) dX7_cuts_19 rfl) (mpp 21 rfl ?_)
    refine mp_Tb (t := 32) (j_icmp_ne dX7_cuts_21) (by decide) (fun c14 => ?_) (fun c14 => mpp 24 rfl ?_)
    · have c14 : (fv Po 302 0).toInt ≠ 8 := ti_ne c14
      refine mp_a (a_aload_n dX7_cuts_32 rfl) (mpp 33 rfl ?_)
      refine mp_a (a_iload_n dX7_cuts_33 rfl) (mpp 34 rfl ?_)
      have p15 : 0 ≤ t1.toInt := by omega
      have p16 : t1.toInt ≤ 7 := by omega
      refine mt_callv (i := 130) (q' := q_145) (As := [.int t1]) (rest := []) hT dX7_cuts_34 rfl qm_145 (by decide) rfl rl_301 (by decide) rfl (Nat.le_of_ble_eq_true rfl) rfl ⟨rfl, rfl⟩ ⟨Nat.le_of_ble_eq_true rfl, Nat.le_of_ble_eq_true rfl⟩ (EvP.mono (by decide) (c_M_isFolded hT p15 p16 )) (fun r17 P18 g19 => mpp 37 rfl ?_)
      obtain ⟨⟨x20, rfl, g21⟩, e22⟩ := g19
      have e22 := e22.symm
      subst e22
      have wx20 := ti_full x20
      replace g21 : 0 ≤ x20.toInt ∧ x20.toInt ≤ 1 ∧ ((x20.toInt = 1 ∧ (fv Po 302 (5 + 19 * t1.toInt.toNat)).toInt = 1) ∨ (x20.toInt = 0 ∧ (fv Po 302 (5 + 19 * t1.toInt.toNat)).toInt ≠ 1)) := g21
      have g23 := ti_full (fv Po 302 (5 + 19 * t1.toInt.toNat))
      show MEvP _ none q_157 37 [(0, .ref 301), (1, .int t1), (2, .int t2)] [.int x20] _ _ _ _
      refine mp_Tb (t := 47) (j_if_eq dX7_cuts_37) (by decide) (fun c24 => ?_) (fun c24 => mpp 40 rfl ?_)
      · have c24 : x20.toInt = 0 := ti_eq c24
        refine mp_a (a_aload_n dX7_cuts_47 rfl) (mpp 48 rfl ?_)
        refine mp_a (a_iload_n dX7_cuts_48 rfl) (mpp 49 rfl ?_)
        have p25 : 0 ≤ t1.toInt := by omega
        have p26 : t1.toInt ≤ 7 := by omega
        refine mt_callv (i := 81) (q' := q_138) (As := [.int t1]) (rest := []) hT dX7_cuts_49 rfl qm_138 (by decide) rfl rl_301 (by decide) rfl (Nat.le_of_ble_eq_true rfl) rfl ⟨rfl, rfl⟩ ⟨Nat.le_of_ble_eq_true rfl, Nat.le_of_ble_eq_true rfl⟩ (EvP.mono (by decide) (c_M_isCorner hT p25 p26 )) (fun r27 P28 g29 => mpp 52 rfl ?_)
        obtain ⟨⟨x30, rfl, g31⟩, e32⟩ := g29
        have e32 := e32.symm
        subst e32
        have wx30 := ti_full x30
        replace g31 : 0 ≤ x30.toInt ∧ x30.toInt ≤ 1 ∧ ((x30.toInt = 1 ∧ (fv Po 302 (3 + 19 * t1.toInt.toNat)).toInt = 1) ∨ (x30.toInt = 0 ∧ (fv Po 302 (3 + 19 * t1.toInt.toNat)).toInt = 0)) := g31
        show MEvP _ none q_157 52 [(0, .ref 301), (1, .int t1), (2, .int t2)] [.int x30] _ _ _ _
        refine mp_Tb (t := 62) (j_if_eq dX7_cuts_52) (by decide) (fun c33 => ?_) (fun c33 => mpp 55 rfl ?_)
        · have c33 : x30.toInt = 0 := ti_eq c33
          refine mp_a (a_aload_n dX7_cuts_62 rfl) (mpp 63 rfl ?_)
          refine mp_a (a_iload_n dX7_cuts_63 rfl) (mpp 64 rfl ?_)
          refine mp_a (a_iconst (v := 1) dX7_cuts_64 rfl) (mpp 65 rfl ?_)
          have p34 : 0 ≤ t1.toInt := by omega
          have p35 : t1.toInt ≤ 7 := by omega
          have p36 : 0 ≤ (1 : Int) := by omega
          have p37 : (1 : Int) ≤ 18 := by omega
          refine mt_callv (i := 78) (q' := q_137) (As := [.int t1, .int 1]) (rest := []) hT dX7_cuts_65 rfl qm_137 (by decide) rfl rl_301 (by decide) rfl (Nat.le_of_ble_eq_true rfl) rfl ⟨rfl, rfl⟩ ⟨Nat.le_of_ble_eq_true rfl, Nat.le_of_ble_eq_true rfl⟩ (EvP.mono (by decide) (c_M_of_c1 hT p34 p35 p36 p37 )) (fun r38 P39 g40 => mpp 68 rfl ?_)
          obtain ⟨⟨x41, rfl, g42⟩, e43⟩ := g40
          have e43 := e43.symm
          subst e43
          have wx41 := ti_full x41
          replace g42 : x41.toInt = (fv Po 302 (4 + 19 * t1.toInt.toNat)).toInt ∧ 0 ≤ x41.toInt ∧ x41.toInt ≤ 8 := g42
          show MEvP _ none q_157 68 [(0, .ref 301), (1, .int t1), (2, .int t2)] [.int x41] _ _ _ _
          refine mp_a (a_istore_n (L' := [(3, .int x41), (0, .ref 301), (1, .int t1), (2, .int t2)]) dX7_cuts_68 (by decide) rfl) (mpp 69 rfl ?_)
          refine mp_a (a_iload_n dX7_cuts_69 rfl) (mpp 70 rfl ?_)
          refine mp_a (a_iconst (v := 1) dX7_cuts_70 rfl) (mpp 71 rfl ?_)
          obtain ⟨z44, h45⟩ := ti_ex (t2 + 1 : Int32)
          have wz44 := ti_full z44
          refine mp_t (s_iadd (v := z44) dX7_cuts_71 h45) (mpp 72 rfl ?_)
          try have e46 : z44.toInt = t2.toInt + 1 := ti_addz h45 rfl rfl (by omega) (by omega)
          refine mp_a (a_istore (L' := [(4, .int z44), (3, .int x41), (0, .ref 301), (1, .int t1), (2, .int t2)]) dX7_cuts_72 (by decide) rfl) (mpp 74 rfl ?_)
          refine mp_a (a_iload_n dX7_cuts_74 rfl) (mpp 75 rfl ?_)
          refine mp_a (a_iload dX7_cuts_75 rfl) (mpp 77 rfl ?_)
          obtain ⟨z47, h48⟩ := ti_ex (x41 - z44 : Int32)
          have wz47 := ti_full z47
          refine mp_t (s_isub (v := z47) dX7_cuts_77 h48) (mpp 78 rfl ?_)
          try have e49 : z47.toInt = x41.toInt - z44.toInt := ti_subz h48 rfl rfl (by omega) (by omega)
          refine mp_a (a_istore (L' := [(5, .int z47), (4, .int z44), (3, .int x41), (0, .ref 301), (1, .int t1), (2, .int t2)]) dX7_cuts_78 (by decide) rfl) (mpp 80 rfl ?_)
          refine mp_a (a_iload dX7_cuts_80 rfl) (mpp 82 rfl ?_)
          refine mp_a (a_iload dX7_cuts_82 rfl) (mpp 84 rfl ?_)
          refine mp_calls (i := 155) (q' := q_158) (As := [.int z44, .int z47]) (rest := []) dX7_cuts_84 rfl qm_158 (by decide) rfl (Nat.le_of_ble_eq_true rfl) rfl ⟨rfl, rfl⟩ ⟨Nat.le_of_ble_eq_true rfl, Nat.le_of_ble_eq_true rfl⟩ (EvP.mono (by decide) (c_M_lesser hT )) (fun r50 P51 g52 => mpp 87 rfl ?_)
          obtain ⟨⟨x53, rfl, g54⟩, e55⟩ := g52
          have e55 := e55.symm
          subst e55
          have wx53 := ti_full x53
          replace g54 : (x53.toInt = z44.toInt ∧ z44.toInt ≤ z47.toInt) ∨ (x53.toInt = z47.toInt ∧ z47.toInt ≤ z44.toInt) := g54
          show MEvP _ none q_157 87 [(5, .int z47), (4, .int z44), (3, .int x41), (0, .ref 301), (1, .int t1), (2, .int t2)] [.int x53] _ _ _ _
          refine mp_a (a_iconst (v := 2) dX7_cuts_87 rfl) (mpp 88 rfl ?_)
          refine mp_Tb (t := 105) (j_icmp_ge dX7_cuts_88) (by decide) (fun c56 => ?_) (fun c56 => mpp 91 rfl ?_)
          · have c56 : x53.toInt ≥ 2 := ti_ge c56
            refine mp_a (a_iconst (v := 0) dX7_cuts_105 rfl) (mpp 106 rfl ?_)
            refine mp_a (a_istore (L' := [(6, .int 0), (5, .int z47), (4, .int z44), (3, .int x41), (0, .ref 301), (1, .int t1), (2, .int t2)]) dX7_cuts_106 (by decide) rfl) (mpp 108 rfl ?_)
            refine MEvP.less (L := [(0, .ref 301), (1, .int t1), (2, .int t2), (3, .int x41), (4, .int z44), (5, .int z47), (6, .int 0)]) rfl rfl ⟨rfl, rfl, rfl, rfl, rfl, rfl, rfl, trivial⟩ ?_
            have i57 : 0 ≤ t1.toInt ∧ t1.toInt ≤ 7 ∧ 0 ≤ t2.toInt ∧ t2.toInt ≤ 7 := by omega
            have i58 : z44.toInt = t2.toInt + 1 ∧ z47.toInt = (fv Po 302 (4 + 19 * t1.toInt.toNat)).toInt - (t2.toInt + 1) ∧ 2 ≤ z44.toInt ∧ 2 ≤ z47.toInt ∧ z44.toInt + z47.toInt ≤ 8 := by omega
            have i59 : t1.toInt + 1 ≤ (fv Po 302 0).toInt ∧ (fv Po 302 0).toInt ≤ 7 ∧ (fv Po 302 (5 + 19 * t1.toInt.toNat)).toInt ≠ 1 ∧ (fv Po 302 (3 + 19 * t1.toInt.toNat)).toInt = 0 ∧ t2.toInt < (fv Po 302 (4 + 19 * t1.toInt.toNat)).toInt - 1 := by omega
            have i60 : ROW Po Po 306 (fun j : Nat => fv Po 302 (6 + 19 * t1.toInt.toNat + (t2.toInt + 1).toNat + j)) (0 : Int).toNat := ROW.start rfl (fun _ => rfl)
            have i61 : ROW Po Po 307 (fun j : Nat => if (j : Int) + 2 + t2.toInt < (fv Po 302 (4 + 19 * t1.toInt.toNat)).toInt then fv Po 302 (14 + 19 * t1.toInt.toNat + (t2.toInt + 1).toNat + j) else 0) (0 : Int).toNat := ROW.start rfl (fun _ => rfl)
            have i62 : ∀ j : Nat, fv Po 302 j = fv Po 302 j := fun _ => rfl
            have i63 : (0 : Int) ≤ z47.toInt := by omega
            have i64 : 0 ≤ (0 : Int) := by omega
            exact c_M_cuts_l108    _ _ _ _ _ Po hT KW.refl hR i57 i58 i59 i60 i61 i62 i63 i64 rfl
          · have c56 : x53.toInt < 2 := ti_ge_n c56
            refine mp_a (a_aload_n dX7_cuts_91 rfl) (mpp 92 rfl ?_)
            refine mp_a (a_bipush (v := 6) dX7_cuts_92 rfl) (mpp 94 rfl ?_)
            refine mp_a (a_iload dX7_cuts_94 rfl) (mpp 96 rfl ?_)
            refine mp_a (a_iload dX7_cuts_96 rfl) (mpp 98 rfl ?_)
            refine mp_calls (i := 155) (q' := q_158) (As := [.int z44, .int z47]) (rest := [.int 6, .ref 301]) dX7_cuts_98 rfl qm_158 (by decide) rfl (Nat.le_of_ble_eq_true rfl) rfl ⟨rfl, rfl⟩ ⟨Nat.le_of_ble_eq_true rfl, Nat.le_of_ble_eq_true rfl⟩ (EvP.mono (by decide) (c_M_lesser hT )) (fun r65 P66 g67 => mpp 101 rfl ?_)
            obtain ⟨⟨x68, rfl, g69⟩, e70⟩ := g67
            have e70 := e70.symm
            subst e70
            have wx68 := ti_full x68
            replace g69 : (x68.toInt = z44.toInt ∧ z44.toInt ≤ z47.toInt) ∨ (x68.toInt = z47.toInt ∧ z47.toInt ≤ z44.toInt) := g69
            show MEvP _ none q_157 101 [(5, .int z47), (4, .int z44), (3, .int x41), (0, .ref 301), (1, .int t1), (2, .int t2)] [.int x68, .int 6, .ref 301] _ _ _ _
            refine mt_callv (i := 101) (q' := q_134) (As := [.int 6, .int x68]) (rest := []) hT dX7_cuts_101 rfl qm_134 (by decide) rfl rl_301 (by decide) rfl (Nat.le_of_ble_eq_true rfl) rfl ⟨rfl, rfl⟩ ⟨Nat.le_of_ble_eq_true rfl, Nat.le_of_ble_eq_true rfl⟩ (EvP.mono (by decide) (c_M_refuses hT )) (fun r71 P72 g73 => mpp 104 rfl ?_)
            obtain ⟨⟨x74, rfl, g75⟩, hT76, k77, R78⟩ := g73
            have k79 : KW [1093, 1094, 1152, 1408, 1472] Po P72 := KW.trans KW.refl k77 rfl
            have R81 := Rel.kw hR k77 rfl
            have wx74 := ti_full x74
            replace g75 : x74.toInt = -1003 := g75
            show MEvP _ none q_157 104 [(5, .int z47), (4, .int z44), (3, .int x41), (0, .ref 301), (1, .int t1), (2, .int t2)] [.int x74] _ _ _ _
            have e83 : (fv P72 302 0).toInt = (fv Po 302 0).toInt := congrArg Int32.toInt (R78 302 0 (by omega))
            have e84 : (fv P72 302 1).toInt = (fv Po 302 1).toInt := congrArg Int32.toInt (R78 302 1 (by omega))
            have e85 : (fv P72 302 2).toInt = (fv Po 302 2).toInt := congrArg Int32.toInt (R78 302 2 (by omega))
            have u82 : cutsM (sr Po) (sr P72) x74.toInt t1.toInt t2.toInt := (show (x74.toInt = -1001 ∧ ((t1.toInt < 0 ∨ (fv Po 302 (0)).toInt ≤ t1.toInt) ∨ ((0 ≤ t1.toInt ∧ t1.toInt + 1 ≤ (fv Po 302 (0)).toInt ∧ t1.toInt ≤ 7) ∧ (t2.toInt < 0 ∨ ((fv Po 302 (3 + 19 * t1.toInt.toNat)).toInt = 1 ∧ (fv Po 302 (4 + 19 * t1.toInt.toNat)).toInt ≤ t2.toInt) ∨ ((fv Po 302 (3 + 19 * t1.toInt.toNat)).toInt = 0 ∧ (fv Po 302 (4 + 19 * t1.toInt.toNat)).toInt - 1 ≤ t2.toInt)))) ∧ (∀ j : Nat, fv P72 302 j = fv Po 302 j)) ∨ (x74.toInt = -1003 ∧ (0 ≤ t1.toInt ∧ t1.toInt + 1 ≤ (fv Po 302 (0)).toInt ∧ t1.toInt ≤ 7) ∧ (0 ≤ t2.toInt ∧ t2.toInt ≤ 7 ∧ (((fv Po 302 (3 + 19 * t1.toInt.toNat)).toInt = 1 ∧ t2.toInt < (fv Po 302 (4 + 19 * t1.toInt.toNat)).toInt) ∨ ((fv Po 302 (3 + 19 * t1.toInt.toNat)).toInt = 0 ∧ t2.toInt < (fv Po 302 (4 + 19 * t1.toInt.toNat)).toInt - 1))) ∧ (8 ≤ (fv Po 302 (0)).toInt ∨ (fv Po 302 (5 + 19 * t1.toInt.toNat)).toInt = 1 ∨ (fv Po 302 (3 + 19 * t1.toInt.toNat)).toInt = 1 ∨ t2.toInt + 1 < 2 ∨ (fv Po 302 (4 + 19 * t1.toInt.toNat)).toInt - (t2.toInt + 1) < 2) ∧ (∀ j : Nat, fv P72 302 j = fv Po 302 j)) ∨ ((0 ≤ t1.toInt ∧ t1.toInt + 1 ≤ (fv Po 302 (0)).toInt ∧ t1.toInt ≤ 7) ∧ (0 ≤ t2.toInt ∧ t2.toInt ≤ 7 ∧ (((fv Po 302 (3 + 19 * t1.toInt.toNat)).toInt = 1 ∧ t2.toInt < (fv Po 302 (4 + 19 * t1.toInt.toNat)).toInt) ∨ ((fv Po 302 (3 + 19 * t1.toInt.toNat)).toInt = 0 ∧ t2.toInt < (fv Po 302 (4 + 19 * t1.toInt.toNat)).toInt - 1))) ∧ ((fv Po 302 (0)).toInt ≤ 7 ∧ ¬ (fv Po 302 (5 + 19 * t1.toInt.toNat)).toInt = 1 ∧ (fv Po 302 (3 + 19 * t1.toInt.toNat)).toInt = 0 ∧ 2 ≤ t2.toInt + 1 ∧ 2 ≤ (fv Po 302 (4 + 19 * t1.toInt.toNat)).toInt - (t2.toInt + 1)) ∧ x74.toInt = (fv Po 302 (0)).toInt ∧ (fv P72 302 (0)).toInt = (fv Po 302 (0)).toInt + 1 ∧ (fv P72 302 (4 + 19 * t1.toInt.toNat)).toInt = t2.toInt + 1 ∧ (fv P72 302 (3 + 19 * ((fv Po 302 (0)).toInt).toNat)).toInt = 0 ∧ (fv P72 302 (4 + 19 * ((fv Po 302 (0)).toInt).toNat)).toInt = (fv Po 302 (4 + 19 * t1.toInt.toNat)).toInt - (t2.toInt + 1) ∧ (fv P72 302 (5 + 19 * ((fv Po 302 (0)).toInt).toNat)).toInt = 0 ∧ (∀ k : Nat, k < 8 → (k : Int) < (fv Po 302 (4 + 19 * t1.toInt.toNat)).toInt - (t2.toInt + 1) → fv P72 302 (6 + 19 * ((fv Po 302 (0)).toInt).toNat + k) = fv Po 302 (6 + 19 * t1.toInt.toNat + (t2.toInt + 1).toNat + k)) ∧ (∀ k : Nat, k < 8 → (k : Int) + 1 < (fv Po 302 (4 + 19 * t1.toInt.toNat)).toInt - (t2.toInt + 1) → fv P72 302 (14 + 19 * ((fv Po 302 (0)).toInt).toNat + k) = fv Po 302 (14 + 19 * t1.toInt.toNat + (t2.toInt + 1).toNat + k)) ∧ (∀ j : Nat, ¬ j = 0 → ¬ j = 4 + 19 * t1.toInt.toNat → (j < 3 + 19 * ((fv Po 302 (0)).toInt).toNat ∨ 22 + 19 * ((fv Po 302 (0)).toInt).toNat ≤ j) → fv P72 302 j = fv Po 302 j)) from Or.inr (Or.inl (⟨by omega, by omega, by omega, by omega, fun j => by rw [R78 302 j (by omega)]⟩)))
            exact mp_iret ⟨⟨_, rfl, u82⟩, hT76, k79, R81⟩ dX7_cuts_104 (Or.inl rfl)
        · have c33 : x30.toInt ≠ 0 := ti_eq_n c33
          refine mp_a (a_aload_n dX7_cuts_55 rfl) (mpp 56 rfl ?_)
          refine mp_a (a_iconst (v := 3) dX7_cuts_56 rfl) (mpp 57 rfl ?_)
          refine mp_a (a_iload_n dX7_cuts_57 rfl) (mpp 58 rfl ?_)
          refine mt_callv (i := 101) (q' := q_134) (As := [.int 3, .int t1]) (rest := []) hT dX7_cuts_58 rfl qm_134 (by decide) rfl rl_301 (by decide) rfl (Nat.le_of_ble_eq_true rfl) rfl ⟨rfl, rfl⟩ ⟨Nat.le_of_ble_eq_true rfl, Nat.le_of_ble_eq_true rfl⟩ (EvP.mono (by decide) (c_M_refuses hT )) (fun r86 P87 g88 => mpp 61 rfl ?_)
          obtain ⟨⟨x89, rfl, g90⟩, hT91, k92, R93⟩ := g88
          have k94 : KW [1093, 1094, 1152, 1408, 1472] Po P87 := KW.trans KW.refl k92 rfl
          have R96 := Rel.kw hR k92 rfl
          have wx89 := ti_full x89
          replace g90 : x89.toInt = -1003 := g90
          show MEvP _ none q_157 61 [(0, .ref 301), (1, .int t1), (2, .int t2)] [.int x89] _ _ _ _
          have e98 : (fv P87 302 0).toInt = (fv Po 302 0).toInt := congrArg Int32.toInt (R93 302 0 (by omega))
          have e99 : (fv P87 302 1).toInt = (fv Po 302 1).toInt := congrArg Int32.toInt (R93 302 1 (by omega))
          have e100 : (fv P87 302 2).toInt = (fv Po 302 2).toInt := congrArg Int32.toInt (R93 302 2 (by omega))
          have u97 : cutsM (sr Po) (sr P87) x89.toInt t1.toInt t2.toInt := (show (x89.toInt = -1001 ∧ ((t1.toInt < 0 ∨ (fv Po 302 (0)).toInt ≤ t1.toInt) ∨ ((0 ≤ t1.toInt ∧ t1.toInt + 1 ≤ (fv Po 302 (0)).toInt ∧ t1.toInt ≤ 7) ∧ (t2.toInt < 0 ∨ ((fv Po 302 (3 + 19 * t1.toInt.toNat)).toInt = 1 ∧ (fv Po 302 (4 + 19 * t1.toInt.toNat)).toInt ≤ t2.toInt) ∨ ((fv Po 302 (3 + 19 * t1.toInt.toNat)).toInt = 0 ∧ (fv Po 302 (4 + 19 * t1.toInt.toNat)).toInt - 1 ≤ t2.toInt)))) ∧ (∀ j : Nat, fv P87 302 j = fv Po 302 j)) ∨ (x89.toInt = -1003 ∧ (0 ≤ t1.toInt ∧ t1.toInt + 1 ≤ (fv Po 302 (0)).toInt ∧ t1.toInt ≤ 7) ∧ (0 ≤ t2.toInt ∧ t2.toInt ≤ 7 ∧ (((fv Po 302 (3 + 19 * t1.toInt.toNat)).toInt = 1 ∧ t2.toInt < (fv Po 302 (4 + 19 * t1.toInt.toNat)).toInt) ∨ ((fv Po 302 (3 + 19 * t1.toInt.toNat)).toInt = 0 ∧ t2.toInt < (fv Po 302 (4 + 19 * t1.toInt.toNat)).toInt - 1))) ∧ (8 ≤ (fv Po 302 (0)).toInt ∨ (fv Po 302 (5 + 19 * t1.toInt.toNat)).toInt = 1 ∨ (fv Po 302 (3 + 19 * t1.toInt.toNat)).toInt = 1 ∨ t2.toInt + 1 < 2 ∨ (fv Po 302 (4 + 19 * t1.toInt.toNat)).toInt - (t2.toInt + 1) < 2) ∧ (∀ j : Nat, fv P87 302 j = fv Po 302 j)) ∨ ((0 ≤ t1.toInt ∧ t1.toInt + 1 ≤ (fv Po 302 (0)).toInt ∧ t1.toInt ≤ 7) ∧ (0 ≤ t2.toInt ∧ t2.toInt ≤ 7 ∧ (((fv Po 302 (3 + 19 * t1.toInt.toNat)).toInt = 1 ∧ t2.toInt < (fv Po 302 (4 + 19 * t1.toInt.toNat)).toInt) ∨ ((fv Po 302 (3 + 19 * t1.toInt.toNat)).toInt = 0 ∧ t2.toInt < (fv Po 302 (4 + 19 * t1.toInt.toNat)).toInt - 1))) ∧ ((fv Po 302 (0)).toInt ≤ 7 ∧ ¬ (fv Po 302 (5 + 19 * t1.toInt.toNat)).toInt = 1 ∧ (fv Po 302 (3 + 19 * t1.toInt.toNat)).toInt = 0 ∧ 2 ≤ t2.toInt + 1 ∧ 2 ≤ (fv Po 302 (4 + 19 * t1.toInt.toNat)).toInt - (t2.toInt + 1)) ∧ x89.toInt = (fv Po 302 (0)).toInt ∧ (fv P87 302 (0)).toInt = (fv Po 302 (0)).toInt + 1 ∧ (fv P87 302 (4 + 19 * t1.toInt.toNat)).toInt = t2.toInt + 1 ∧ (fv P87 302 (3 + 19 * ((fv Po 302 (0)).toInt).toNat)).toInt = 0 ∧ (fv P87 302 (4 + 19 * ((fv Po 302 (0)).toInt).toNat)).toInt = (fv Po 302 (4 + 19 * t1.toInt.toNat)).toInt - (t2.toInt + 1) ∧ (fv P87 302 (5 + 19 * ((fv Po 302 (0)).toInt).toNat)).toInt = 0 ∧ (∀ k : Nat, k < 8 → (k : Int) < (fv Po 302 (4 + 19 * t1.toInt.toNat)).toInt - (t2.toInt + 1) → fv P87 302 (6 + 19 * ((fv Po 302 (0)).toInt).toNat + k) = fv Po 302 (6 + 19 * t1.toInt.toNat + (t2.toInt + 1).toNat + k)) ∧ (∀ k : Nat, k < 8 → (k : Int) + 1 < (fv Po 302 (4 + 19 * t1.toInt.toNat)).toInt - (t2.toInt + 1) → fv P87 302 (14 + 19 * ((fv Po 302 (0)).toInt).toNat + k) = fv Po 302 (14 + 19 * t1.toInt.toNat + (t2.toInt + 1).toNat + k)) ∧ (∀ j : Nat, ¬ j = 0 → ¬ j = 4 + 19 * t1.toInt.toNat → (j < 3 + 19 * ((fv Po 302 (0)).toInt).toNat ∨ 22 + 19 * ((fv Po 302 (0)).toInt).toNat ≤ j) → fv P87 302 j = fv Po 302 j)) from Or.inr (Or.inl (⟨by omega, by omega, by omega, by omega, fun j => by rw [R93 302 j (by omega)]⟩)))
          exact mp_iret ⟨⟨_, rfl, u97⟩, hT91, k94, R96⟩ dX7_cuts_61 (Or.inl rfl)
      · have c24 : x20.toInt ≠ 0 := ti_eq_n c24
        refine mp_a (a_aload_n dX7_cuts_40 rfl) (mpp 41 rfl ?_)
        refine mp_a (a_iconst (v := 2) dX7_cuts_41 rfl) (mpp 42 rfl ?_)
        refine mp_a (a_iload_n dX7_cuts_42 rfl) (mpp 43 rfl ?_)
        refine mt_callv (i := 101) (q' := q_134) (As := [.int 2, .int t1]) (rest := []) hT dX7_cuts_43 rfl qm_134 (by decide) rfl rl_301 (by decide) rfl (Nat.le_of_ble_eq_true rfl) rfl ⟨rfl, rfl⟩ ⟨Nat.le_of_ble_eq_true rfl, Nat.le_of_ble_eq_true rfl⟩ (EvP.mono (by decide) (c_M_refuses hT )) (fun r101 P102 g103 => mpp 46 rfl ?_)
        obtain ⟨⟨x104, rfl, g105⟩, hT106, k107, R108⟩ := g103
        have k109 : KW [1093, 1094, 1152, 1408, 1472] Po P102 := KW.trans KW.refl k107 rfl
        have R111 := Rel.kw hR k107 rfl
        have wx104 := ti_full x104
        replace g105 : x104.toInt = -1003 := g105
        show MEvP _ none q_157 46 [(0, .ref 301), (1, .int t1), (2, .int t2)] [.int x104] _ _ _ _
        have e113 : (fv P102 302 0).toInt = (fv Po 302 0).toInt := congrArg Int32.toInt (R108 302 0 (by omega))
        have e114 : (fv P102 302 1).toInt = (fv Po 302 1).toInt := congrArg Int32.toInt (R108 302 1 (by omega))
        have e115 : (fv P102 302 2).toInt = (fv Po 302 2).toInt := congrArg Int32.toInt (R108 302 2 (by omega))
        have u112 : cutsM (sr Po) (sr P102) x104.toInt t1.toInt t2.toInt := (show (x104.toInt = -1001 ∧ ((t1.toInt < 0 ∨ (fv Po 302 (0)).toInt ≤ t1.toInt) ∨ ((0 ≤ t1.toInt ∧ t1.toInt + 1 ≤ (fv Po 302 (0)).toInt ∧ t1.toInt ≤ 7) ∧ (t2.toInt < 0 ∨ ((fv Po 302 (3 + 19 * t1.toInt.toNat)).toInt = 1 ∧ (fv Po 302 (4 + 19 * t1.toInt.toNat)).toInt ≤ t2.toInt) ∨ ((fv Po 302 (3 + 19 * t1.toInt.toNat)).toInt = 0 ∧ (fv Po 302 (4 + 19 * t1.toInt.toNat)).toInt - 1 ≤ t2.toInt)))) ∧ (∀ j : Nat, fv P102 302 j = fv Po 302 j)) ∨ (x104.toInt = -1003 ∧ (0 ≤ t1.toInt ∧ t1.toInt + 1 ≤ (fv Po 302 (0)).toInt ∧ t1.toInt ≤ 7) ∧ (0 ≤ t2.toInt ∧ t2.toInt ≤ 7 ∧ (((fv Po 302 (3 + 19 * t1.toInt.toNat)).toInt = 1 ∧ t2.toInt < (fv Po 302 (4 + 19 * t1.toInt.toNat)).toInt) ∨ ((fv Po 302 (3 + 19 * t1.toInt.toNat)).toInt = 0 ∧ t2.toInt < (fv Po 302 (4 + 19 * t1.toInt.toNat)).toInt - 1))) ∧ (8 ≤ (fv Po 302 (0)).toInt ∨ (fv Po 302 (5 + 19 * t1.toInt.toNat)).toInt = 1 ∨ (fv Po 302 (3 + 19 * t1.toInt.toNat)).toInt = 1 ∨ t2.toInt + 1 < 2 ∨ (fv Po 302 (4 + 19 * t1.toInt.toNat)).toInt - (t2.toInt + 1) < 2) ∧ (∀ j : Nat, fv P102 302 j = fv Po 302 j)) ∨ ((0 ≤ t1.toInt ∧ t1.toInt + 1 ≤ (fv Po 302 (0)).toInt ∧ t1.toInt ≤ 7) ∧ (0 ≤ t2.toInt ∧ t2.toInt ≤ 7 ∧ (((fv Po 302 (3 + 19 * t1.toInt.toNat)).toInt = 1 ∧ t2.toInt < (fv Po 302 (4 + 19 * t1.toInt.toNat)).toInt) ∨ ((fv Po 302 (3 + 19 * t1.toInt.toNat)).toInt = 0 ∧ t2.toInt < (fv Po 302 (4 + 19 * t1.toInt.toNat)).toInt - 1))) ∧ ((fv Po 302 (0)).toInt ≤ 7 ∧ ¬ (fv Po 302 (5 + 19 * t1.toInt.toNat)).toInt = 1 ∧ (fv Po 302 (3 + 19 * t1.toInt.toNat)).toInt = 0 ∧ 2 ≤ t2.toInt + 1 ∧ 2 ≤ (fv Po 302 (4 + 19 * t1.toInt.toNat)).toInt - (t2.toInt + 1)) ∧ x104.toInt = (fv Po 302 (0)).toInt ∧ (fv P102 302 (0)).toInt = (fv Po 302 (0)).toInt + 1 ∧ (fv P102 302 (4 + 19 * t1.toInt.toNat)).toInt = t2.toInt + 1 ∧ (fv P102 302 (3 + 19 * ((fv Po 302 (0)).toInt).toNat)).toInt = 0 ∧ (fv P102 302 (4 + 19 * ((fv Po 302 (0)).toInt).toNat)).toInt = (fv Po 302 (4 + 19 * t1.toInt.toNat)).toInt - (t2.toInt + 1) ∧ (fv P102 302 (5 + 19 * ((fv Po 302 (0)).toInt).toNat)).toInt = 0 ∧ (∀ k : Nat, k < 8 → (k : Int) < (fv Po 302 (4 + 19 * t1.toInt.toNat)).toInt - (t2.toInt + 1) → fv P102 302 (6 + 19 * ((fv Po 302 (0)).toInt).toNat + k) = fv Po 302 (6 + 19 * t1.toInt.toNat + (t2.toInt + 1).toNat + k)) ∧ (∀ k : Nat, k < 8 → (k : Int) + 1 < (fv Po 302 (4 + 19 * t1.toInt.toNat)).toInt - (t2.toInt + 1) → fv P102 302 (14 + 19 * ((fv Po 302 (0)).toInt).toNat + k) = fv Po 302 (14 + 19 * t1.toInt.toNat + (t2.toInt + 1).toNat + k)) ∧ (∀ j : Nat, ¬ j = 0 → ¬ j = 4 + 19 * t1.toInt.toNat → (j < 3 + 19 * ((fv Po 302 (0)).toInt).toNat ∨ 22 + 19 * ((fv Po 302 (0)).toInt).toNat ≤ j) → fv P102 302 j = fv Po 302 j)) from Or.inr (Or.inl (⟨by omega, by omega, by omega, by omega, fun j => by rw [R108 302 j (by omega)]⟩)))
        exact mp_iret ⟨⟨_, rfl, u112⟩, hT106, k109, R111⟩ dX7_cuts_46 (Or.inl rfl)
    · have c14 : (fv Po 302 0).toInt = 8 := ti_ne_n c14
      refine mp_a (a_aload_n dX7_cuts_24 rfl) (mpp 25 rfl ?_)
      refine mp_a (a_iconst (v := 1) dX7_cuts_25 rfl) (mpp 26 rfl ?_)
      refine mp_a (a_bipush (v := 8) dX7_cuts_26 rfl) (mpp 28 rfl ?_)
      refine mt_callv (i := 101) (q' := q_134) (As := [.int 1, .int 8]) (rest := []) hT dX7_cuts_28 rfl qm_134 (by decide) rfl rl_301 (by decide) rfl (Nat.le_of_ble_eq_true rfl) rfl ⟨rfl, rfl⟩ ⟨Nat.le_of_ble_eq_true rfl, Nat.le_of_ble_eq_true rfl⟩ (EvP.mono (by decide) (c_M_refuses hT )) (fun r116 P117 g118 => mpp 31 rfl ?_)
      obtain ⟨⟨x119, rfl, g120⟩, hT121, k122, R123⟩ := g118
      have k124 : KW [1093, 1094, 1152, 1408, 1472] Po P117 := KW.trans KW.refl k122 rfl
      have R126 := Rel.kw hR k122 rfl
      have wx119 := ti_full x119
      replace g120 : x119.toInt = -1003 := g120
      show MEvP _ none q_157 31 [(0, .ref 301), (1, .int t1), (2, .int t2)] [.int x119] _ _ _ _
      have e128 : (fv P117 302 0).toInt = (fv Po 302 0).toInt := congrArg Int32.toInt (R123 302 0 (by omega))
      have e129 : (fv P117 302 1).toInt = (fv Po 302 1).toInt := congrArg Int32.toInt (R123 302 1 (by omega))
      have e130 : (fv P117 302 2).toInt = (fv Po 302 2).toInt := congrArg Int32.toInt (R123 302 2 (by omega))
      have u127 : cutsM (sr Po) (sr P117) x119.toInt t1.toInt t2.toInt := (show (x119.toInt = -1001 ∧ ((t1.toInt < 0 ∨ (fv Po 302 (0)).toInt ≤ t1.toInt) ∨ ((0 ≤ t1.toInt ∧ t1.toInt + 1 ≤ (fv Po 302 (0)).toInt ∧ t1.toInt ≤ 7) ∧ (t2.toInt < 0 ∨ ((fv Po 302 (3 + 19 * t1.toInt.toNat)).toInt = 1 ∧ (fv Po 302 (4 + 19 * t1.toInt.toNat)).toInt ≤ t2.toInt) ∨ ((fv Po 302 (3 + 19 * t1.toInt.toNat)).toInt = 0 ∧ (fv Po 302 (4 + 19 * t1.toInt.toNat)).toInt - 1 ≤ t2.toInt)))) ∧ (∀ j : Nat, fv P117 302 j = fv Po 302 j)) ∨ (x119.toInt = -1003 ∧ (0 ≤ t1.toInt ∧ t1.toInt + 1 ≤ (fv Po 302 (0)).toInt ∧ t1.toInt ≤ 7) ∧ (0 ≤ t2.toInt ∧ t2.toInt ≤ 7 ∧ (((fv Po 302 (3 + 19 * t1.toInt.toNat)).toInt = 1 ∧ t2.toInt < (fv Po 302 (4 + 19 * t1.toInt.toNat)).toInt) ∨ ((fv Po 302 (3 + 19 * t1.toInt.toNat)).toInt = 0 ∧ t2.toInt < (fv Po 302 (4 + 19 * t1.toInt.toNat)).toInt - 1))) ∧ (8 ≤ (fv Po 302 (0)).toInt ∨ (fv Po 302 (5 + 19 * t1.toInt.toNat)).toInt = 1 ∨ (fv Po 302 (3 + 19 * t1.toInt.toNat)).toInt = 1 ∨ t2.toInt + 1 < 2 ∨ (fv Po 302 (4 + 19 * t1.toInt.toNat)).toInt - (t2.toInt + 1) < 2) ∧ (∀ j : Nat, fv P117 302 j = fv Po 302 j)) ∨ ((0 ≤ t1.toInt ∧ t1.toInt + 1 ≤ (fv Po 302 (0)).toInt ∧ t1.toInt ≤ 7) ∧ (0 ≤ t2.toInt ∧ t2.toInt ≤ 7 ∧ (((fv Po 302 (3 + 19 * t1.toInt.toNat)).toInt = 1 ∧ t2.toInt < (fv Po 302 (4 + 19 * t1.toInt.toNat)).toInt) ∨ ((fv Po 302 (3 + 19 * t1.toInt.toNat)).toInt = 0 ∧ t2.toInt < (fv Po 302 (4 + 19 * t1.toInt.toNat)).toInt - 1))) ∧ ((fv Po 302 (0)).toInt ≤ 7 ∧ ¬ (fv Po 302 (5 + 19 * t1.toInt.toNat)).toInt = 1 ∧ (fv Po 302 (3 + 19 * t1.toInt.toNat)).toInt = 0 ∧ 2 ≤ t2.toInt + 1 ∧ 2 ≤ (fv Po 302 (4 + 19 * t1.toInt.toNat)).toInt - (t2.toInt + 1)) ∧ x119.toInt = (fv Po 302 (0)).toInt ∧ (fv P117 302 (0)).toInt = (fv Po 302 (0)).toInt + 1 ∧ (fv P117 302 (4 + 19 * t1.toInt.toNat)).toInt = t2.toInt + 1 ∧ (fv P117 302 (3 + 19 * ((fv Po 302 (0)).toInt).toNat)).toInt = 0 ∧ (fv P117 302 (4 + 19 * ((fv Po 302 (0)).toInt).toNat)).toInt = (fv Po 302 (4 + 19 * t1.toInt.toNat)).toInt - (t2.toInt + 1) ∧ (fv P117 302 (5 + 19 * ((fv Po 302 (0)).toInt).toNat)).toInt = 0 ∧ (∀ k : Nat, k < 8 → (k : Int) < (fv Po 302 (4 + 19 * t1.toInt.toNat)).toInt - (t2.toInt + 1) → fv P117 302 (6 + 19 * ((fv Po 302 (0)).toInt).toNat + k) = fv Po 302 (6 + 19 * t1.toInt.toNat + (t2.toInt + 1).toNat + k)) ∧ (∀ k : Nat, k < 8 → (k : Int) + 1 < (fv Po 302 (4 + 19 * t1.toInt.toNat)).toInt - (t2.toInt + 1) → fv P117 302 (14 + 19 * ((fv Po 302 (0)).toInt).toNat + k) = fv Po 302 (14 + 19 * t1.toInt.toNat + (t2.toInt + 1).toNat + k)) ∧ (∀ j : Nat, ¬ j = 0 → ¬ j = 4 + 19 * t1.toInt.toNat → (j < 3 + 19 * ((fv Po 302 (0)).toInt).toNat ∨ 22 + 19 * ((fv Po 302 (0)).toInt).toNat ≤ j) → fv P117 302 j = fv Po 302 j)) from Or.inr (Or.inl (⟨by omega, by omega, by omega, by omega, fun j => by rw [R123 302 j (by omega)]⟩)))
      exact mp_iret ⟨⟨_, rfl, u127⟩, hT121, k124, R126⟩ dX7_cuts_31 (Or.inl rfl)
  · have c10 : x4.toInt = 0 := ti_ne_n c10
    refine mp_a (a_sipush (v := -1001) dX7_cuts_9 rfl) (mpp 12 rfl ?_)
    have u131 : cutsM (sr Po) (sr Po) (-1001 : Int) t1.toInt t2.toInt := (show ((-1001 : Int) = -1001 ∧ ((t1.toInt < 0 ∨ (fv Po 302 (0)).toInt ≤ t1.toInt) ∨ ((0 ≤ t1.toInt ∧ t1.toInt + 1 ≤ (fv Po 302 (0)).toInt ∧ t1.toInt ≤ 7) ∧ (t2.toInt < 0 ∨ ((fv Po 302 (3 + 19 * t1.toInt.toNat)).toInt = 1 ∧ (fv Po 302 (4 + 19 * t1.toInt.toNat)).toInt ≤ t2.toInt) ∨ ((fv Po 302 (3 + 19 * t1.toInt.toNat)).toInt = 0 ∧ (fv Po 302 (4 + 19 * t1.toInt.toNat)).toInt - 1 ≤ t2.toInt)))) ∧ (∀ j : Nat, fv Po 302 j = fv Po 302 j)) ∨ ((-1001 : Int) = -1003 ∧ (0 ≤ t1.toInt ∧ t1.toInt + 1 ≤ (fv Po 302 (0)).toInt ∧ t1.toInt ≤ 7) ∧ (0 ≤ t2.toInt ∧ t2.toInt ≤ 7 ∧ (((fv Po 302 (3 + 19 * t1.toInt.toNat)).toInt = 1 ∧ t2.toInt < (fv Po 302 (4 + 19 * t1.toInt.toNat)).toInt) ∨ ((fv Po 302 (3 + 19 * t1.toInt.toNat)).toInt = 0 ∧ t2.toInt < (fv Po 302 (4 + 19 * t1.toInt.toNat)).toInt - 1))) ∧ (8 ≤ (fv Po 302 (0)).toInt ∨ (fv Po 302 (5 + 19 * t1.toInt.toNat)).toInt = 1 ∨ (fv Po 302 (3 + 19 * t1.toInt.toNat)).toInt = 1 ∨ t2.toInt + 1 < 2 ∨ (fv Po 302 (4 + 19 * t1.toInt.toNat)).toInt - (t2.toInt + 1) < 2) ∧ (∀ j : Nat, fv Po 302 j = fv Po 302 j)) ∨ ((0 ≤ t1.toInt ∧ t1.toInt + 1 ≤ (fv Po 302 (0)).toInt ∧ t1.toInt ≤ 7) ∧ (0 ≤ t2.toInt ∧ t2.toInt ≤ 7 ∧ (((fv Po 302 (3 + 19 * t1.toInt.toNat)).toInt = 1 ∧ t2.toInt < (fv Po 302 (4 + 19 * t1.toInt.toNat)).toInt) ∨ ((fv Po 302 (3 + 19 * t1.toInt.toNat)).toInt = 0 ∧ t2.toInt < (fv Po 302 (4 + 19 * t1.toInt.toNat)).toInt - 1))) ∧ ((fv Po 302 (0)).toInt ≤ 7 ∧ ¬ (fv Po 302 (5 + 19 * t1.toInt.toNat)).toInt = 1 ∧ (fv Po 302 (3 + 19 * t1.toInt.toNat)).toInt = 0 ∧ 2 ≤ t2.toInt + 1 ∧ 2 ≤ (fv Po 302 (4 + 19 * t1.toInt.toNat)).toInt - (t2.toInt + 1)) ∧ (-1001 : Int) = (fv Po 302 (0)).toInt ∧ (fv Po 302 (0)).toInt = (fv Po 302 (0)).toInt + 1 ∧ (fv Po 302 (4 + 19 * t1.toInt.toNat)).toInt = t2.toInt + 1 ∧ (fv Po 302 (3 + 19 * ((fv Po 302 (0)).toInt).toNat)).toInt = 0 ∧ (fv Po 302 (4 + 19 * ((fv Po 302 (0)).toInt).toNat)).toInt = (fv Po 302 (4 + 19 * t1.toInt.toNat)).toInt - (t2.toInt + 1) ∧ (fv Po 302 (5 + 19 * ((fv Po 302 (0)).toInt).toNat)).toInt = 0 ∧ (∀ k : Nat, k < 8 → (k : Int) < (fv Po 302 (4 + 19 * t1.toInt.toNat)).toInt - (t2.toInt + 1) → fv Po 302 (6 + 19 * ((fv Po 302 (0)).toInt).toNat + k) = fv Po 302 (6 + 19 * t1.toInt.toNat + (t2.toInt + 1).toNat + k)) ∧ (∀ k : Nat, k < 8 → (k : Int) + 1 < (fv Po 302 (4 + 19 * t1.toInt.toNat)).toInt - (t2.toInt + 1) → fv Po 302 (14 + 19 * ((fv Po 302 (0)).toInt).toNat + k) = fv Po 302 (14 + 19 * t1.toInt.toNat + (t2.toInt + 1).toNat + k)) ∧ (∀ j : Nat, ¬ j = 0 → ¬ j = 4 + 19 * t1.toInt.toNat → (j < 3 + 19 * ((fv Po 302 (0)).toInt).toNat ∨ 22 + 19 * ((fv Po 302 (0)).toInt).toNat ≤ j) → fv Po 302 j = fv Po 302 j)) from Or.inl (⟨by omega, by omega, fun j => rfl⟩))
    exact mp_iret ⟨⟨_, rfl, u131⟩, hT, KW.refl, hR⟩ dX7_cuts_12 (Or.inl rfl)

set_option maxHeartbeats 4000000 in
theorem c_M_cut {Po : mP} {t1 : Int32} {t2 : Int32} (hT : Typ Po) (hR : Rel Po)  : EvP 7 156 [.ref 301, .int t1, .int t2] Po (fun r P' => (∃ x : Int32, r = some (.int x) ∧ (TOPM Po P' x.toInt ∧ cutsM (sr Po) (sr P') x.toInt t1.toInt t2.toInt)) ∧ Typ P' ∧ KW [1092, 1093, 1094, 1095, 1152, 1216, 1344, 1408, 1472] Po P' ∧ Rel P') := by
  refine EvP.of qm_156 (Nat.le_of_ble_eq_true rfl) rfl ?_
  show MEvP _ none q_156 0 [(0, .ref 301), (1, .int t1), (2, .int t2)] [] _ 0 0 _
  have w_t1 := ti_full t1
  have w_t2 := ti_full t2
  refine mp_a (a_aload_n dX7_cut_0 rfl) (mpp 1 rfl ?_)
  refine mt_callv (i := 117) (q' := q_124) (As := []) (rest := []) hT dX7_cut_1 rfl qm_124 (by decide) rfl rl_301 (by decide) rfl (Nat.le_of_ble_eq_true rfl) rfl ⟨rfl, rfl⟩ ⟨Nat.le_of_ble_eq_true rfl, Nat.le_of_ble_eq_true rfl⟩ (EvP.mono (by decide) (c_M_keeps hT hR )) (fun r1 P2 g3 => mpp 4 rfl ?_)
  obtain ⟨⟨rfl, g5⟩, hT6, k7, R8r, R8⟩ := g3
  have k9 : KW [1092, 1093, 1094, 1095, 1152, 1216, 1344, 1408, 1472] Po P2 := KW.trans KW.refl k7 rfl
  show MEvP _ none q_156 4 [(0, .ref 301), (1, .int t1), (2, .int t2)] [] _ _ _ _
  refine mp_a (a_aload_n dX7_cut_4 rfl) (mpp 5 rfl ?_)
  refine mp_a (a_aload_n dX7_cut_5 rfl) (mpp 6 rfl ?_)
  refine mp_a (a_iload_n dX7_cut_6 rfl) (mpp 7 rfl ?_)
  refine mp_a (a_iload_n dX7_cut_7 rfl) (mpp 8 rfl ?_)
  refine mt_callv (i := 158) (q' := q_157) (As := [.int t1, .int t2]) (rest := [.ref 301]) hT6 dX7_cut_8 rfl qm_157 (by decide) rfl rl_301 (by decide) rfl (Nat.le_of_ble_eq_true rfl) rfl ⟨rfl, rfl⟩ ⟨Nat.le_of_ble_eq_true rfl, Nat.le_of_ble_eq_true rfl⟩ (EvP.mono (by decide) (c_M_cuts hT6 R8r )) (fun r11 P12 g13 => mpp 11 rfl ?_)
  obtain ⟨⟨x14, rfl, g15⟩, hT16, k17, R18⟩ := g13
  have k19 : KW [1092, 1093, 1094, 1095, 1152, 1216, 1344, 1408, 1472] Po P12 := KW.trans k9 k17 rfl
  have wx14 := ti_full x14
  replace g15 : cutsM (sr P2) (sr P12) x14.toInt t1.toInt t2.toInt := g15
  show MEvP _ none q_156 11 [(0, .ref 301), (1, .int t1), (2, .int t2)] [.int x14, .ref 301] _ _ _ _
  refine mt_callv (i := 124) (q' := q_139) (As := [.int x14]) (rest := []) hT16 dX7_cut_11 rfl qm_139 (by decide) rfl rl_301 (by decide) rfl (Nat.le_of_ble_eq_true rfl) rfl ⟨rfl, rfl⟩ ⟨Nat.le_of_ble_eq_true rfl, Nat.le_of_ble_eq_true rfl⟩ (EvP.mono (by decide) (c_M_ends hT16 R18 )) (fun r21 P22 g23 => mpp 14 rfl ?_)
  obtain ⟨⟨x24, rfl, g25⟩, hT26, k27, R28r, R28⟩ := g23
  have k29 : KW [1092, 1093, 1094, 1095, 1152, 1216, 1344, 1408, 1472] Po P22 := KW.trans k19 k27 rfl
  have wx24 := ti_full x24
  replace g25 : x24.toInt = x14.toInt := g25
  show MEvP _ none q_156 14 [(0, .ref 301), (1, .int t1), (2, .int t2)] [.int x24] _ _ _ _
  have w32_a : sr P2 = sr Po := funext (fun j => R8.2 302 j (by omega))
  have w32_b : sr P12 = sr P22 := funext (fun j => (R28.2.2.1 302 j (by omega) (by omega) (by omega)).symm)
  have w32_g := g15
  rw [w32_a, w32_b] at w32_g
  have w32_x : x24.toInt = x14.toInt := by omega
  rw [← w32_x] at w32_g
  have w32_t : TOPM Po P22 x24.toInt := TOPM.mk R8.1 (fun j => KW.at k17 j rl_303 rfl) (fun j => KW.at k17 j rl_304 rfl) (fun j => KW.at k17 j rl_305 rfl) (fun j => KW.at k17 j rl_314 rfl) (KW.at k17 8 rl_301 rfl) (KW.at k17 4 rl_301 rfl) (KW.at k17 23 rl_301 rfl) (by rw [w32_x]; exact R28.1) (by rw [w32_x]; exact R28.2.1) R28.2.2.1
  have u31 : TOPM Po P22 x24.toInt ∧ cutsM (sr Po) (sr P22) x24.toInt t1.toInt t2.toInt := ⟨w32_t, w32_g⟩
  exact mp_iret ⟨⟨_, rfl, u31⟩, hT26, k29, R28r⟩ dX7_cut_14 (Or.inl rfl)

set_option maxHeartbeats 4000000 in
theorem c_M_lays_l21 {Po : mP} {t1 : Int32} (hp0 : 0 ≤ t1.toInt) (hp1 : t1.toInt ≤ 7)  : ∀ (n : Nat) (v2 : Int32), ∀ (P : mP), Typ P → KW [1101, 1102, 1536, 1600] Po P → ((fv P 301 14).toInt = (fv Po 302 (3 + 19 * t1.toInt.toNat)).toInt ∧ (fv P 301 13).toInt = (fv Po 302 (4 + 19 * t1.toInt.toNat)).toInt) → (ROW Po P 308 (fun j : Nat => fv Po 302 (6 + 19 * t1.toInt.toNat + j)) v2.toInt.toNat) → (ROW Po P 309 (fun j : Nat => fv Po 302 (14 + 19 * t1.toInt.toNat + j)) v2.toInt.toNat) → (∀ j : Nat, fv P 302 j = fv Po 302 j) → (0 ≤ t1.toInt ∧ t1.toInt ≤ 7) → (0 ≤ v2.toInt) → (2147483647 - v2.toInt).toNat = n → MEvP 3 none q_164 21 [(0, .ref 301), (1, .int t1), (2, .int v2)] [] P 0 0 (fun r P' => (r = none ∧ ((fv P' 301 14).toInt = (fv Po 302 (3 + 19 * t1.toInt.toNat)).toInt ∧ (fv P' 301 13).toInt = (fv Po 302 (4 + 19 * t1.toInt.toNat)).toInt ∧ (∀ j : Nat, j < 8 → fv P' 308 j = fv Po 302 (6 + 19 * t1.toInt.toNat + j)) ∧ ∀ j : Nat, j < 8 → fv P' 309 j = fv Po 302 (14 + 19 * t1.toInt.toNat + j))) ∧ Typ P' ∧ KW [1101, 1102, 1536, 1600] Po P' ∧ True) := by
  intro n
  induction n using Nat.strongRecOn with | _ n ih => ?_
  intro v2 P hT hK i_0 i_1 i_2 i_3 i_4 i_5 hm
  have w_t1 := ti_full t1
  have w_v2 := ti_full v2
  have g1 : (0 : Int) ≤ (fv P 301 14).toInt ∧ (fv P 301 14).toInt ≤ 1 := Typ.rng hT rl_301 (by decide) (by decide) rfl
  have g2 : (0 : Int) ≤ (fv P 301 14).toInt ∧ (fv P 301 14).toInt ≤ 1 := Typ.rng hT rl_301 (by decide) (by decide) rfl
  have g3 : (0 : Int) ≤ (fv P 301 13).toInt ∧ (fv P 301 13).toInt ≤ 8 := Typ.rng hT rl_301 (by decide) (by decide) rfl
  have g4 : (0 : Int) ≤ (fv P 301 13).toInt ∧ (fv P 301 13).toInt ≤ 8 := Typ.rng hT rl_301 (by decide) (by decide) rfl
  refine mp_a (a_iload_n dX7_lays_21 rfl) (mpp 22 rfl ?_)
  refine mp_a (a_bipush (v := 8) dX7_lays_22 rfl) (mpp 24 rfl ?_)
  refine mp_Tb (t := 57) (j_icmp_ge dX7_lays_24) (by decide) (fun c5 => ?_) (fun c5 => mpp 27 rfl ?_)
  · have c5 : v2.toInt ≥ 8 := ti_ge c5
    have u6 : (fv P 301 14).toInt = (fv Po 302 (3 + 19 * t1.toInt.toNat)).toInt ∧ (fv P 301 13).toInt = (fv Po 302 (4 + 19 * t1.toInt.toNat)).toInt ∧ (∀ j : Nat, j < 8 → fv P 308 j = fv Po 302 (6 + 19 * t1.toInt.toNat + j)) ∧ ∀ j : Nat, j < 8 → fv P 309 j = fv Po 302 (14 + 19 * t1.toInt.toNat + j) := ⟨by omega, by omega, fun j hj => i_1.1 j (by omega), fun j hj => i_2.1 j (by omega)⟩
    exact mp_ret ⟨⟨rfl, u6⟩, hT, hK, trivial⟩ dX7_lays_57 rfl
  · have c5 : v2.toInt < 8 := ti_ge_n c5
    refine mp_a (a_aload_n dX7_lays_27 rfl) (mpp 28 rfl ?_)
    refine mt_getU (i := 28) (k := 11) (A := 308) hT dX7_lays_28 rfl rl_301 (by decide) rfl (by decide) rfl un_24 (mpp 31 rfl ?_)
    refine mp_a (a_iload_n dX7_lays_31 rfl) (mpp 32 rfl ?_)
    refine mp_a (a_aload_n dX7_lays_32 rfl) (mpp 33 rfl ?_)
    refine mp_a (a_iload_n dX7_lays_33 rfl) (mpp 34 rfl ?_)
    refine mp_a (a_iload_n dX7_lays_34 rfl) (mpp 35 rfl ?_)
    have p7 : 0 ≤ t1.toInt := by omega
    have p8 : t1.toInt ≤ 7 := by omega
    have p9 : 0 ≤ v2.toInt := by omega
    have p10 : v2.toInt ≤ 7 := by omega
    refine mt_callv (i := 142) (q' := q_152) (As := [.int t1, .int v2]) (rest := [.int v2, .ref 308]) hT dX7_lays_35 rfl qm_152 (by decide) rfl rl_301 (by decide) rfl (Nat.le_of_ble_eq_true rfl) rfl ⟨rfl, rfl⟩ ⟨Nat.le_of_ble_eq_true rfl, Nat.le_of_ble_eq_true rfl⟩ (EvP.mono (by decide) (c_M_sizeOf hT p7 p8 p9 p10 )) (fun r11 P12 g13 => mpp 38 rfl ?_)
    obtain ⟨⟨x14, rfl, g15⟩, e16⟩ := g13
    have e16 := e16.symm
    subst e16
    have wx14 := ti_full x14
    replace g15 : x14.toInt = (fv P 302 (6 + 19 * t1.toInt.toNat + v2.toInt.toNat)).toInt := g15
    show MEvP _ none q_164 38 [(0, .ref 301), (1, .int t1), (2, .int v2)] [.int x14, .int v2, .ref 308] _ _ _ _
    refine mt_ias (n := 8) hT dX7_lays_38 rl_308 (by decide) rfl rfl (by omega) (by omega) rfl (ti_full x14) (fun P17 hT18 f19 f20 f21 => mpp 39 rfl ?_)
    have k22 : KW [1101, 1102, 1536, 1600] Po P17 := KW.step hK rl_308 rfl f20 f21
    refine mp_a (a_aload_n dX7_lays_39 rfl) (mpp 40 rfl ?_)
    refine mt_getU (i := 31) (k := 12) (A := 309) hT18 dX7_lays_40 rfl rl_301 (by decide) rfl (by decide) rfl un_25 (mpp 43 rfl ?_)
    refine mp_a (a_iload_n dX7_lays_43 rfl) (mpp 44 rfl ?_)
    refine mp_a (a_aload_n dX7_lays_44 rfl) (mpp 45 rfl ?_)
    refine mp_a (a_iload_n dX7_lays_45 rfl) (mpp 46 rfl ?_)
    refine mp_a (a_iload_n dX7_lays_46 rfl) (mpp 47 rfl ?_)
    have p23 : 0 ≤ t1.toInt := by omega
    have p24 : t1.toInt ≤ 7 := by omega
    have p25 : 0 ≤ v2.toInt := by omega
    have p26 : v2.toInt ≤ 7 := by omega
    refine mt_callv (i := 92) (q' := q_146) (As := [.int t1, .int v2]) (rest := [.int v2, .ref 309]) hT18 dX7_lays_47 rfl qm_146 (by decide) rfl rl_301 (by decide) rfl (Nat.le_of_ble_eq_true rfl) rfl ⟨rfl, rfl⟩ ⟨Nat.le_of_ble_eq_true rfl, Nat.le_of_ble_eq_true rfl⟩ (EvP.mono (by decide) (c_M_creaseOf hT18 p23 p24 p25 p26 )) (fun r27 P28 g29 => mpp 50 rfl ?_)
    obtain ⟨⟨x30, rfl, g31⟩, e32⟩ := g29
    have e32 := e32.symm
    subst e32
    have wx30 := ti_full x30
    replace g31 : x30.toInt = (fv P17 302 (14 + 19 * t1.toInt.toNat + v2.toInt.toNat)).toInt := g31
    show MEvP _ none q_164 50 [(0, .ref 301), (1, .int t1), (2, .int v2)] [.int x30, .int v2, .ref 309] _ _ _ _
    refine mt_ias (n := 8) hT18 dX7_lays_50 rl_309 (by decide) rfl rfl (by omega) (by omega) rfl (ti_full x30) (fun P33 hT34 f35 f36 f37 => mpp 51 rfl ?_)
    have k38 : KW [1101, 1102, 1536, 1600] Po P33 := KW.step k22 rl_309 rfl f36 f37
    obtain ⟨z39, h40⟩ := ti_ex (v2 + 1 : Int32)
    have wz39 := ti_full z39
    refine mp_a (a_iinc (v := z39) (L' := [(2, .int z39), (0, .ref 301), (1, .int t1)]) dX7_lays_51 (by decide) rfl h40 rfl) (mpp 54 rfl ?_)
    try have e41 : z39.toInt = v2.toInt + 1 := ti_addz h40 rfl rfl (by omega) (by omega)
    refine mp_a (a_goto (t := 21) dX7_lays_54 (by decide)) ?_
    refine MEvP.less (L := [(0, .ref 301), (1, .int t1), (2, .int z39)]) rfl rfl ⟨rfl, rfl, rfl, trivial⟩ ?_
    have e42 : (fv P33 301 14).toInt = (fv P 301 14).toInt := congrArg Int32.toInt ((f36 301 14 (ne_r rl_301 rl_309 rfl)).trans (f20 301 14 (ne_r rl_301 rl_308 rfl)))
    have e43 : (fv P33 301 13).toInt = (fv P 301 13).toInt := congrArg Int32.toInt ((f36 301 13 (ne_r rl_301 rl_309 rfl)).trans (f20 301 13 (ne_r rl_301 rl_308 rfl)))
    have i44 : (fv P33 301 14).toInt = (fv Po 302 (3 + 19 * t1.toInt.toNat)).toInt ∧ (fv P33 301 13).toInt = (fv Po 302 (4 + 19 * t1.toInt.toNat)).toInt := by omega
    have i45 : ROW Po P33 308 (fun j : Nat => fv Po 302 (6 + 19 * t1.toInt.toNat + j)) z39.toInt.toNat := ROW.step (n := v2.toInt.toNat) (v := x14.toInt) i_1 (by omega) rfl (by rw [f36 308 v2.toInt.toNat (by omega)]; exact congrArg Int32.toInt f19) (by have q : fv P 302 (6 + 19 * t1.toInt.toNat + v2.toInt.toNat) = fv Po 302 (6 + 19 * t1.toInt.toNat + v2.toInt.toNat) := i_3 _; show x14.toInt = (fv Po 302 (6 + 19 * t1.toInt.toNat + v2.toInt.toNat)).toInt; rw [← q]; exact g15) (fun j hj => by rw [f36 308 j (by omega), f20 308 j (fun e => hj e.2)])
    have i46 : ROW Po P33 309 (fun j : Nat => fv Po 302 (14 + 19 * t1.toInt.toNat + j)) z39.toInt.toNat := ROW.step (n := v2.toInt.toNat) (v := x30.toInt) i_2 (by omega) rfl (congrArg Int32.toInt f35) (by have q : fv P17 302 (14 + 19 * t1.toInt.toNat + v2.toInt.toNat) = fv Po 302 (14 + 19 * t1.toInt.toNat + v2.toInt.toNat) := (f20 302 _ (by omega)).trans (i_3 _); show x30.toInt = (fv Po 302 (14 + 19 * t1.toInt.toNat + v2.toInt.toNat)).toInt; rw [← q]; exact g31) (fun j hj => by rw [f36 309 j (fun e => hj e.2), f20 309 j (by omega)])
    have i47 : ∀ j : Nat, fv P33 302 j = fv Po 302 j := fun j => by rw [f36 302 j (by omega), f20 302 j (by omega)]; exact i_3 j
    have i48 : 0 ≤ t1.toInt ∧ t1.toInt ≤ 7 := by omega
    have i49 : 0 ≤ z39.toInt := by omega
    exact ih _ (by omega) _ P33 hT34 k38 i44 i45 i46 i47 i48 i49 rfl

set_option maxHeartbeats 4000000 in
theorem c_M_lays {Po : mP} {t1 : Int32} (hT : Typ Po)  (hp0 : 0 ≤ t1.toInt) (hp1 : t1.toInt ≤ 7)  : EvP 4 164 [.ref 301, .int t1] Po (fun r P' => (r = none ∧ ((fv P' 301 14).toInt = (fv Po 302 (3 + 19 * t1.toInt.toNat)).toInt ∧ (fv P' 301 13).toInt = (fv Po 302 (4 + 19 * t1.toInt.toNat)).toInt ∧ (∀ j : Nat, j < 8 → fv P' 308 j = fv Po 302 (6 + 19 * t1.toInt.toNat + j)) ∧ ∀ j : Nat, j < 8 → fv P' 309 j = fv Po 302 (14 + 19 * t1.toInt.toNat + j))) ∧ Typ P' ∧ KW [1101, 1102, 1536, 1600] Po P' ∧ True) := by
  refine EvP.of qm_164 (Nat.le_of_ble_eq_true rfl) rfl ?_
  show MEvP _ none q_164 0 [(0, .ref 301), (1, .int t1)] [] _ 0 0 _
  have w_t1 := ti_full t1
  try have g1 : (0 : Int) ≤ (fv Po 302 (3 + 19 * t1.toInt.toNat)).toInt ∧ (fv Po 302 (3 + 19 * t1.toInt.toNat)).toInt ≤ 1 := s3_rng hT (by omega)
  try have g2 : (0 : Int) ≤ (fv Po 302 (4 + 19 * t1.toInt.toNat)).toInt ∧ (fv Po 302 (4 + 19 * t1.toInt.toNat)).toInt ≤ 8 := s4_rng hT (by omega)
  refine mp_a (a_aload_n dX7_lays_0 rfl) (mpp 1 rfl ?_)
  refine mp_a (a_aload_n dX7_lays_1 rfl) (mpp 2 rfl ?_)
  refine mp_a (a_iload_n dX7_lays_2 rfl) (mpp 3 rfl ?_)
  have p3 : 0 ≤ t1.toInt := by omega
  have p4 : t1.toInt ≤ 7 := by omega
  refine mt_callv (i := 81) (q' := q_138) (As := [.int t1]) (rest := [.ref 301]) hT dX7_lays_3 rfl qm_138 (by decide) rfl rl_301 (by decide) rfl (Nat.le_of_ble_eq_true rfl) rfl ⟨rfl, rfl⟩ ⟨Nat.le_of_ble_eq_true rfl, Nat.le_of_ble_eq_true rfl⟩ (EvP.mono (by decide) (c_M_isCorner hT p3 p4 )) (fun r5 P6 g7 => mpp 6 rfl ?_)
  obtain ⟨⟨x8, rfl, g9⟩, e10⟩ := g7
  have e10 := e10.symm
  subst e10
  have wx8 := ti_full x8
  replace g9 : 0 ≤ x8.toInt ∧ x8.toInt ≤ 1 ∧ ((x8.toInt = 1 ∧ (fv Po 302 (3 + 19 * t1.toInt.toNat)).toInt = 1) ∨ (x8.toInt = 0 ∧ (fv Po 302 (3 + 19 * t1.toInt.toNat)).toInt = 0)) := g9
  show MEvP _ none q_164 6 [(0, .ref 301), (1, .int t1)] [.int x8, .ref 301] _ _ _ _
  refine mt_putI (i := 161) (k := 14) (x := x8) hT dX7_lays_6 rfl rl_301 (by decide) rfl (by decide) rfl ⟨by omega, by omega⟩ (ti_fit (by omega)) rfl (fun P11 hT12 f13 f14 f15 => mpp 9 rfl ?_)
  have k16 : KW [1101, 1102, 1536, 1600] Po P11 := KW.step KW.refl rl_301 rfl f14 f15
  have e17 : (fv P11 301 14).toInt = x8.toInt := congrArg Int32.toInt f13
  refine mp_a (a_aload_n dX7_lays_9 rfl) (mpp 10 rfl ?_)
  refine mp_a (a_aload_n dX7_lays_10 rfl) (mpp 11 rfl ?_)
  refine mp_a (a_iload_n dX7_lays_11 rfl) (mpp 12 rfl ?_)
  refine mp_a (a_iconst (v := 1) dX7_lays_12 rfl) (mpp 13 rfl ?_)
  have p18 : 0 ≤ t1.toInt := by omega
  have p19 : t1.toInt ≤ 7 := by omega
  have p20 : 0 ≤ (1 : Int) := by omega
  have p21 : (1 : Int) ≤ 18 := by omega
  refine mt_callv (i := 78) (q' := q_137) (As := [.int t1, .int 1]) (rest := [.ref 301]) hT12 dX7_lays_13 rfl qm_137 (by decide) rfl rl_301 (by decide) rfl (Nat.le_of_ble_eq_true rfl) rfl ⟨rfl, rfl⟩ ⟨Nat.le_of_ble_eq_true rfl, Nat.le_of_ble_eq_true rfl⟩ (EvP.mono (by decide) (c_M_of_c1 hT12 p18 p19 p20 p21 )) (fun r22 P23 g24 => mpp 16 rfl ?_)
  obtain ⟨⟨x25, rfl, g26⟩, e27⟩ := g24
  have e27 := e27.symm
  subst e27
  have wx25 := ti_full x25
  replace g26 : x25.toInt = (fv P11 302 (4 + 19 * t1.toInt.toNat)).toInt ∧ 0 ≤ x25.toInt ∧ x25.toInt ≤ 8 := g26
  have e28 : (fv P11 302 (4 + 19 * t1.toInt.toNat)).toInt = (fv Po 302 (4 + 19 * t1.toInt.toNat)).toInt := congrArg Int32.toInt (f14 302 (4 + 19 * t1.toInt.toNat) (ne_r rl_302 rl_301 rfl))
  show MEvP _ none q_164 16 [(0, .ref 301), (1, .int t1)] [.int x25, .ref 301] _ _ _ _
  refine mt_putI (i := 165) (k := 13) (x := x25) hT12 dX7_lays_16 rfl rl_301 (by decide) rfl (by decide) rfl ⟨by omega, by omega⟩ rfl rfl (fun P29 hT30 f31 f32 f33 => mpp 19 rfl ?_)
  have k34 : KW [1101, 1102, 1536, 1600] Po P29 := KW.step k16 rl_301 rfl f32 f33
  have e35 : (fv P29 301 13).toInt = x25.toInt := congrArg Int32.toInt f31
  refine mp_a (a_iconst (v := 0) dX7_lays_19 rfl) (mpp 20 rfl ?_)
  refine mp_a (a_istore_n (L' := [(2, .int 0), (0, .ref 301), (1, .int t1)]) dX7_lays_20 (by decide) rfl) (mpp 21 rfl ?_)
  refine MEvP.less (L := [(0, .ref 301), (1, .int t1), (2, .int 0)]) rfl rfl ⟨rfl, rfl, rfl, trivial⟩ ?_
  have e36 : (fv P29 301 14).toInt = (fv P11 301 14).toInt := congrArg Int32.toInt (f32 301 14 (ne_k rfl))
  have i37 : (fv P29 301 14).toInt = (fv Po 302 (3 + 19 * t1.toInt.toNat)).toInt ∧ (fv P29 301 13).toInt = (fv Po 302 (4 + 19 * t1.toInt.toNat)).toInt := by omega
  have i38 : ROW Po P29 308 (fun j : Nat => fv Po 302 (6 + 19 * t1.toInt.toNat + j)) (0 : Int).toNat := ROW.start rfl (fun j => by rw [f32 308 j (by omega), f14 308 j (by omega)])
  have i39 : ROW Po P29 309 (fun j : Nat => fv Po 302 (14 + 19 * t1.toInt.toNat + j)) (0 : Int).toNat := ROW.start rfl (fun j => by rw [f32 309 j (by omega), f14 309 j (by omega)])
  have i40 : ∀ j : Nat, fv P29 302 j = fv Po 302 j := fun j => by rw [f32 302 j (by omega), f14 302 j (by omega)]
  have i41 : 0 ≤ t1.toInt ∧ t1.toInt ≤ 7 := by omega
  have i42 : 0 ≤ (0 : Int) := by omega
  exact c_M_lays_l21   hp0 hp1 _ _ P29 hT30 k34 i37 i38 i39 i40 i41 i42 rfl

