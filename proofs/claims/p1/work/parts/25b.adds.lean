theorem dX2_sum_0 : decode cX2_sum 0 = .ok (.iconst 0, 1) := by decide +kernel
theorem dX2_sum_1 : decode cX2_sum 1 = .ok (.istore_n 1, 1) := by decide +kernel
theorem dX2_sum_2 : decode cX2_sum 2 = .ok (.iconst 0, 1) := by decide +kernel
theorem dX2_sum_3 : decode cX2_sum 3 = .ok (.istore_n 2, 1) := by decide +kernel
theorem dX2_sum_4 : decode cX2_sum 4 = .ok (.iload_n 2, 1) := by decide +kernel
theorem dX2_sum_5 : decode cX2_sum 5 = .ok (.aload_n 0, 1) := by decide +kernel
theorem dX2_sum_6 : decode cX2_sum 6 = .ok (.getfield 26, 3) := by decide +kernel
theorem dX2_sum_9 : decode cX2_sum 9 = .ok (.if_icmp .ge 20, 3) := by decide +kernel
theorem dX2_sum_12 : decode cX2_sum 12 = .ok (.iload_n 1, 1) := by decide +kernel
theorem dX2_sum_13 : decode cX2_sum 13 = .ok (.aload_n 0, 1) := by decide +kernel
theorem dX2_sum_14 : decode cX2_sum 14 = .ok (.getfield 9, 3) := by decide +kernel
theorem dX2_sum_17 : decode cX2_sum 17 = .ok (.iload_n 2, 1) := by decide +kernel
theorem dX2_sum_18 : decode cX2_sum 18 = .ok (.invokestatic 48, 3) := by decide +kernel
theorem dX2_sum_21 : decode cX2_sum 21 = .ok (.iadd, 1) := by decide +kernel
theorem dX2_sum_22 : decode cX2_sum 22 = .ok (.istore_n 1, 1) := by decide +kernel
theorem dX2_sum_23 : decode cX2_sum 23 = .ok (.iinc 2 1, 3) := by decide +kernel
theorem dX2_sum_26 : decode cX2_sum 26 = .ok (.goto (-22), 3) := by decide +kernel
theorem dX2_sum_29 : decode cX2_sum 29 = .ok (.iload_n 1, 1) := by decide +kernel
theorem dX2_sum_30 : decode cX2_sum 30 = .ok (.ireturn, 1) := by decide +kernel
theorem dX2_takeSizes_0 : decode cX2_takeSizes 0 = .ok (.aload_n 0, 1) := by decide +kernel
theorem dX2_takeSizes_1 : decode cX2_takeSizes 1 = .ok (.iload_n 1, 1) := by decide +kernel
theorem dX2_takeSizes_2 : decode cX2_takeSizes 2 = .ok (.putfield 18, 3) := by decide +kernel
theorem dX2_takeSizes_5 : decode cX2_takeSizes 5 = .ok (.aload_n 0, 1) := by decide +kernel
theorem dX2_takeSizes_6 : decode cX2_takeSizes 6 = .ok (.iconst 0, 1) := by decide +kernel
theorem dX2_takeSizes_7 : decode cX2_takeSizes 7 = .ok (.putfield 22, 3) := by decide +kernel
theorem dX2_takeSizes_10 : decode cX2_takeSizes 10 = .ok (.aload_n 0, 1) := by decide +kernel
theorem dX2_takeSizes_11 : decode cX2_takeSizes 11 = .ok (.iconst 0, 1) := by decide +kernel
theorem dX2_takeSizes_12 : decode cX2_takeSizes 12 = .ok (.putfield 26, 3) := by decide +kernel
theorem dX2_takeSizes_15 : decode cX2_takeSizes 15 = .ok (.iload_n 2, 1) := by decide +kernel
theorem dX2_takeSizes_16 : decode cX2_takeSizes 16 = .ok (.istore_n 3, 1) := by decide +kernel
theorem dX2_takeSizes_17 : decode cX2_takeSizes 17 = .ok (.iconst 0, 1) := by decide +kernel
theorem dX2_takeSizes_18 : decode cX2_takeSizes 18 = .ok (.istore 4, 2) := by decide +kernel
theorem dX2_takeSizes_52 : decode cX2_takeSizes 52 = .ok (.iload_n 3, 1) := by decide +kernel
theorem dX2_takeSizes_53 : decode cX2_takeSizes 53 = .ok (.ifCond .eq 5, 3) := by decide +kernel
theorem dX2_takeSizes_56 : decode cX2_takeSizes 56 = .ok (.iconst 0, 1) := by decide +kernel
theorem dX2_takeSizes_57 : decode cX2_takeSizes 57 = .ok (.ireturn, 1) := by decide +kernel
theorem dX2_takeSizes_58 : decode cX2_takeSizes 58 = .ok (.iload_n 2, 1) := by decide +kernel
theorem dX2_takeSizes_59 : decode cX2_takeSizes 59 = .ok (.istore_n 3, 1) := by decide +kernel
theorem dX2_takeSizes_60 : decode cX2_takeSizes 60 = .ok (.aload_n 0, 1) := by decide +kernel
theorem dX2_takeSizes_61 : decode cX2_takeSizes 61 = .ok (.getfield 26, 3) := by decide +kernel
theorem dX2_takeSizes_64 : decode cX2_takeSizes 64 = .ok (.iconst 1, 1) := by decide +kernel
theorem dX2_takeSizes_65 : decode cX2_takeSizes 65 = .ok (.isub, 1) := by decide +kernel
theorem dX2_takeSizes_66 : decode cX2_takeSizes 66 = .ok (.istore 4, 2) := by decide +kernel
theorem dX2_takeSizes_68 : decode cX2_takeSizes 68 = .ok (.iload 4, 2) := by decide +kernel
theorem dX2_takeSizes_70 : decode cX2_takeSizes 70 = .ok (.ifCond .lt 36, 3) := by decide +kernel
theorem dX2_takeSizes_73 : decode cX2_takeSizes 73 = .ok (.iload_n 3, 1) := by decide +kernel
theorem dX2_takeSizes_74 : decode cX2_takeSizes 74 = .ok (.bipush 10, 2) := by decide +kernel
theorem dX2_takeSizes_76 : decode cX2_takeSizes 76 = .ok (.irem, 1) := by decide +kernel
theorem dX2_takeSizes_77 : decode cX2_takeSizes 77 = .ok (.ifCond .ne 5, 3) := by decide +kernel
theorem dX2_takeSizes_80 : decode cX2_takeSizes 80 = .ok (.iconst 0, 1) := by decide +kernel
theorem dX2_takeSizes_81 : decode cX2_takeSizes 81 = .ok (.ireturn, 1) := by decide +kernel
theorem dX2_takeSizes_82 : decode cX2_takeSizes 82 = .ok (.aload_n 0, 1) := by decide +kernel
theorem dX2_takeSizes_83 : decode cX2_takeSizes 83 = .ok (.getfield 9, 3) := by decide +kernel
theorem dX2_takeSizes_86 : decode cX2_takeSizes 86 = .ok (.iload 4, 2) := by decide +kernel
theorem dX2_takeSizes_88 : decode cX2_takeSizes 88 = .ok (.iload_n 3, 1) := by decide +kernel
theorem dX2_takeSizes_89 : decode cX2_takeSizes 89 = .ok (.bipush 10, 2) := by decide +kernel
theorem dX2_takeSizes_91 : decode cX2_takeSizes 91 = .ok (.irem, 1) := by decide +kernel
theorem dX2_takeSizes_92 : decode cX2_takeSizes 92 = .ok (.invokestatic 29, 3) := by decide +kernel
theorem dX2_takeSizes_95 : decode cX2_takeSizes 95 = .ok (.iload_n 3, 1) := by decide +kernel
theorem dX2_takeSizes_96 : decode cX2_takeSizes 96 = .ok (.bipush 10, 2) := by decide +kernel
theorem dX2_takeSizes_98 : decode cX2_takeSizes 98 = .ok (.idiv, 1) := by decide +kernel
theorem dX2_takeSizes_99 : decode cX2_takeSizes 99 = .ok (.istore_n 3, 1) := by decide +kernel
theorem dX2_takeSizes_100 : decode cX2_takeSizes 100 = .ok (.iinc 4 (-1), 3) := by decide +kernel
theorem dX2_takeSizes_103 : decode cX2_takeSizes 103 = .ok (.goto (-35), 3) := by decide +kernel
theorem dX2_takeSizes_106 : decode cX2_takeSizes 106 = .ok (.aload_n 0, 1) := by decide +kernel
theorem dX2_takeSizes_107 : decode cX2_takeSizes 107 = .ok (.getfield 18, 3) := by decide +kernel
theorem dX2_takeSizes_110 : decode cX2_takeSizes 110 = .ok (.ifCond .ne 26, 3) := by decide +kernel
theorem dX2_takeSizes_113 : decode cX2_takeSizes 113 = .ok (.aload_n 0, 1) := by decide +kernel
theorem dX2_takeSizes_114 : decode cX2_takeSizes 114 = .ok (.getfield 26, 3) := by decide +kernel
theorem dX2_takeSizes_117 : decode cX2_takeSizes 117 = .ok (.iconst 2, 1) := by decide +kernel
theorem dX2_takeSizes_118 : decode cX2_takeSizes 118 = .ok (.if_icmp .lt 16, 3) := by decide +kernel
theorem dX2_takeSizes_121 : decode cX2_takeSizes 121 = .ok (.aload_n 0, 1) := by decide +kernel
theorem dX2_takeSizes_122 : decode cX2_takeSizes 122 = .ok (.getfield 26, 3) := by decide +kernel
theorem dX2_takeSizes_125 : decode cX2_takeSizes 125 = .ok (.bipush 7, 2) := by decide +kernel
theorem dX2_takeSizes_127 : decode cX2_takeSizes 127 = .ok (.if_icmp .gt 7, 3) := by decide +kernel
theorem dX2_takeSizes_130 : decode cX2_takeSizes 130 = .ok (.iconst 1, 1) := by decide +kernel
theorem dX2_takeSizes_131 : decode cX2_takeSizes 131 = .ok (.goto 4, 3) := by decide +kernel
theorem dX2_takeSizes_134 : decode cX2_takeSizes 134 = .ok (.iconst 0, 1) := by decide +kernel
theorem dX2_takeSizes_135 : decode cX2_takeSizes 135 = .ok (.ireturn, 1) := by decide +kernel
theorem dX2_takeSizes_136 : decode cX2_takeSizes 136 = .ok (.aload_n 0, 1) := by decide +kernel
theorem dX2_takeSizes_137 : decode cX2_takeSizes 137 = .ok (.getfield 26, 3) := by decide +kernel
theorem dX2_takeSizes_140 : decode cX2_takeSizes 140 = .ok (.iconst 4, 1) := by decide +kernel
theorem dX2_takeSizes_141 : decode cX2_takeSizes 141 = .ok (.if_icmp .eq 21, 3) := by decide +kernel
theorem dX2_takeSizes_144 : decode cX2_takeSizes 144 = .ok (.aload_n 0, 1) := by decide +kernel
theorem dX2_takeSizes_145 : decode cX2_takeSizes 145 = .ok (.getfield 26, 3) := by decide +kernel
theorem dX2_takeSizes_148 : decode cX2_takeSizes 148 = .ok (.bipush 6, 2) := by decide +kernel
theorem dX2_takeSizes_150 : decode cX2_takeSizes 150 = .ok (.if_icmp .eq 12, 3) := by decide +kernel
theorem dX2_takeSizes_153 : decode cX2_takeSizes 153 = .ok (.aload_n 0, 1) := by decide +kernel
theorem dX2_takeSizes_154 : decode cX2_takeSizes 154 = .ok (.getfield 26, 3) := by decide +kernel
theorem dX2_takeSizes_157 : decode cX2_takeSizes 157 = .ok (.bipush 8, 2) := by decide +kernel
theorem dX2_takeSizes_159 : decode cX2_takeSizes 159 = .ok (.if_icmp .ne 16, 3) := by decide +kernel
theorem dX2_takeSizes_162 : decode cX2_takeSizes 162 = .ok (.aload_n 0, 1) := by decide +kernel
theorem dX2_takeSizes_163 : decode cX2_takeSizes 163 = .ok (.invokevirtual 33, 3) := by decide +kernel
theorem dX2_takeSizes_166 : decode cX2_takeSizes 166 = .ok (.bipush 24, 2) := by decide +kernel
theorem dX2_takeSizes_168 : decode cX2_takeSizes 168 = .ok (.if_icmp .ne 7, 3) := by decide +kernel
theorem dX2_takeSizes_171 : decode cX2_takeSizes 171 = .ok (.iconst 1, 1) := by decide +kernel
theorem dX2_takeSizes_172 : decode cX2_takeSizes 172 = .ok (.goto 4, 3) := by decide +kernel
theorem dX2_takeSizes_175 : decode cX2_takeSizes 175 = .ok (.iconst 0, 1) := by decide +kernel
theorem dX2_takeSizes_176 : decode cX2_takeSizes 176 = .ok (.ireturn, 1) := by decide +kernel
theorem dX6_at_0 : decode cX6_at 0 = .ok (.iload_n 1, 1) := by decide +kernel
theorem dX6_at_1 : decode cX6_at 1 = .ok (.ifCond .lt 15, 3) := by decide +kernel
theorem dX6_at_4 : decode cX6_at 4 = .ok (.iload_n 1, 1) := by decide +kernel
theorem dX6_at_5 : decode cX6_at 5 = .ok (.aload_n 0, 1) := by decide +kernel
theorem dX6_at_6 : decode cX6_at 6 = .ok (.arraylength, 1) := by decide +kernel
theorem dX6_at_7 : decode cX6_at 7 = .ok (.if_icmp .ge 9, 3) := by decide +kernel
theorem dX6_at_10 : decode cX6_at 10 = .ok (.aload_n 0, 1) := by decide +kernel
theorem dX6_at_11 : decode cX6_at 11 = .ok (.iload_n 1, 1) := by decide +kernel
theorem dX6_at_12 : decode cX6_at 12 = .ok (.iaload, 1) := by decide +kernel
theorem dX6_at_13 : decode cX6_at 13 = .ok (.goto 4, 3) := by decide +kernel
theorem dX6_at_17 : decode cX6_at 17 = .ok (.ireturn, 1) := by decide +kernel
def q_12 : mQ := (yX6_at, cX6_at, 2, (some FieldType.int), 2, 6, 0, 0)
theorem qm_12 : mtL[12]? = some q_12 := rfl
def q_23 : mQ := (yX2_sum, cX2_sum, 3, (some FieldType.int), 0, 2, 0, 0)
theorem qm_23 : mtL[23]? = some q_23 := rfl
theorem x_putN {P : mP} {a j : Nat} {vs : List Value} {x : Int32} (h : P[a]? = some (8, vs)) (hN : vs.length = 8) (hj : j < 8) : EvP 1 22 [.ref a, .int (nI j), .int x] P (fun r P' => r = none ∧ P' = P.set a (8, vs.set j (.int x))) := by
  have h1 := x_put (i := nI j) (x := x) h hN (by decide) (i_in hj (by decide))
  rw [nI_clamp (by omega)] at h1
  exact h1
theorem x_atN {P : mP} {a j : Nat} {vs : List Value} (h : P[a]? = some (8, vs)) (hN : vs.length = 8) (hj : j < 8) : EvP 1 12 [.ref a, .int (nI j)] P (fun r P' => r = some (.int (mint (vs.getD j .null))) ∧ P' = P) := by
  obtain ⟨h1, h2⟩ := i_len (i := nI j) (N := 8) (by decide) (i_in hj (by decide))
  refine EvP.of qm_12 (Nat.le_of_ble_eq_true rfl) rfl ?_
  show MEvP _ none q_12 0 [(0, .ref a), (1, .int (nI j))] [] _ 0 0 _
  refine mp_a (a_iload_n dX6_at_0 rfl) (mpp 1 rfl ?_)
  refine mp_Tf (t := 16) (j_if_lt dX6_at_1) h1 (by decide) (mpp 4 rfl ?_)
  refine mp_a (a_iload_n dX6_at_4 rfl) (mpp 5 rfl ?_)
  refine mp_a (a_aload_n dX6_at_5 rfl) (mpp 6 rfl ?_)
  refine mp_len (n := Int32.ofNat 8) dX6_at_6 h (by decide) (by rw [hN]) (mpp 7 rfl ?_)
  refine mp_Tf (t := 16) (j_icmp_ge dX6_at_7) h2 (by decide) (mpp 10 rfl ?_)
  refine mp_a (a_aload_n dX6_at_10 rfl) (mpp 11 rfl ?_)
  refine mp_a (a_iload_n dX6_at_11 rfl) (mpp 12 rfl ?_)
  refine mp_ial (v := mint (vs.getD j .null)) dX6_at_12 h hN (i_in hj (by decide)) (by rw [nI_clamp (by omega)]) (mpp 13 rfl ?_)
  refine mp_a (a_goto (t := 17) dX6_at_13 (by decide)) ?_
  exact mp_iret ⟨rfl, rfl⟩ dX6_at_17 (Or.inl rfl)
set_option maxHeartbeats 4000000 in
theorem x_ts2 {kd nz c : Int32} {Φ : Option Value → mP → Prop} : ∀ (j w : Nat) (A : List Value) (Q : mP), j ≤ 8 → w < 2 ^ 31 → A.length = 8 → Q[298]? = some (2, [.int kd, .int c, .int 0, .ref 299, .ref 300]) → Q[299]? = some (8, A) → (okS j w = true → ∀ (Q' : mP) (z4 z3 : Int32), (∀ t : Nat, t ≠ 299 → Q'[t]? = Q[t]?) → Q'[299]? = some (8, wr j w A) → MEvP 5 none q_21 106 [(4, .int z4), (3, .int z3), (0, .ref 298), (1, .int kd), (2, .int nz)] [] Q' 0 0 Φ) → (okS j w = false → ∀ Q' : mP, (∀ t : Nat, t ≠ 299 → Q'[t]? = Q[t]?) → Φ (some (.int 0)) Q') → MEvP 5 none q_21 68 [(4, .int (nI j - 1)), (3, .int (nI w)), (0, .ref 298), (1, .int kd), (2, .int nz)] [] Q 0 0 Φ := by
  intro j
  induction j with
  | zero =>
    intro w A Q hj hw hA hQ hR kOK kNo
    refine mp_a (a_iload dX2_takeSizes_68 rfl) (mpp 70 rfl ?_)
    refine mp_Tt (t := 106) (j_if_lt dX2_takeSizes_70) (by decide) (by decide) ?_
    exact kOK rfl Q _ _ (fun _ _ => rfl) hR
  | succ j ih =>
    intro w A Q hj hw hA hQ hR kOK kNo
    rw [nI_pred]
    by_cases hz : w % 10 = 0
    · have hz' : okS (j + 1) w = false := by simp [okS, hz]
      refine mp_a (a_iload dX2_takeSizes_68 rfl) (mpp 70 rfl ?_)
      refine mp_Tf (t := 106) (j_if_lt dX2_takeSizes_70) (fun q => absurd ((nI_ltI (a := j) (b := 0) (by omega) (by omega)).mp q) (by omega)) (by decide) (mpp 73 rfl ?_)
      refine mp_a (a_iload_n dX2_takeSizes_73 rfl) (mpp 74 rfl ?_)
      refine mp_a (a_bipush (v := 10) dX2_takeSizes_74 rfl) (mpp 76 rfl ?_)
      refine mp_t (s_irem (v := (nI (w % 10))) dX2_takeSizes_76 (by decide) (i_rem10 (by omega))) (mpp 77 rfl ?_)
      refine mp_Tf (t := 82) (j_if_ne dX2_takeSizes_77) (fun q => q (((nI_eq (a := (w % 10)) (b := 0) (by omega) (by omega)).mpr (by omega)))) (by decide) (mpp 80 rfl ?_)
      refine mp_a (a_iconst (v := 0) dX2_takeSizes_80 rfl) (mpp 81 rfl ?_)
      exact mp_iret (kNo hz' Q (fun _ _ => rfl)) dX2_takeSizes_81 (Or.inr ⟨rfl, by decide⟩)
    · have hz' : okS (j + 1) w = okS j (w / 10) := by simp [okS, hz]
      refine mp_a (a_iload dX2_takeSizes_68 rfl) (mpp 70 rfl ?_)
      refine mp_Tf (t := 106) (j_if_lt dX2_takeSizes_70) (fun q => absurd ((nI_ltI (a := j) (b := 0) (by omega) (by omega)).mp q) (by omega)) (by decide) (mpp 73 rfl ?_)
      refine mp_a (a_iload_n dX2_takeSizes_73 rfl) (mpp 74 rfl ?_)
      refine mp_a (a_bipush (v := 10) dX2_takeSizes_74 rfl) (mpp 76 rfl ?_)
      refine mp_t (s_irem (v := (nI (w % 10))) dX2_takeSizes_76 (by decide) (i_rem10 (by omega))) (mpp 77 rfl ?_)
      refine mp_Tt (t := 82) (j_if_ne dX2_takeSizes_77) (fun q => absurd ((nI_eq (a := (w % 10)) (b := 0) (by omega) (by omega)).mp q) (by omega)) (by decide) ?_
      refine mp_a (a_aload_n dX2_takeSizes_82 rfl) (mpp 83 rfl ?_)
      refine mp_get (i := 9) (v := .ref 299) dX2_takeSizes_83 rfl hQ rfl (mpp 86 rfl ?_)
      refine mp_a (a_iload dX2_takeSizes_86 rfl) (mpp 88 rfl ?_)
      refine mp_a (a_iload_n dX2_takeSizes_88 rfl) (mpp 89 rfl ?_)
      refine mp_a (a_bipush (v := 10) dX2_takeSizes_89 rfl) (mpp 91 rfl ?_)
      refine mp_t (s_irem (v := (nI (w % 10))) dX2_takeSizes_91 (by decide) (i_rem10 (by omega))) (mpp 92 rfl ?_)
      refine mp_calls (i := 29) (q' := q_22) (As := [.ref 299, .int (nI j), .int (nI (w % 10))]) (rest := []) dX2_takeSizes_92 rfl qm_22 (by decide) rfl (Nat.le_of_ble_eq_true rfl) rfl ⟨rfl, rfl⟩ ⟨Nat.le_of_ble_eq_true rfl, Nat.le_of_ble_eq_true rfl⟩ (EvP.mono (by decide) (x_putN (j := j) hR hA (by omega))) (fun r1 P1 g1 => mpp 95 rfl ?_)
      obtain ⟨rfl, rfl⟩ := g1
      show MEvP _ none q_21 95 [(4, .int (nI j)), (3, .int (nI w)), (0, .ref 298), (1, .int kd), (2, .int nz)] [] _ _ _ _
      refine mp_a (a_iload_n dX2_takeSizes_95 rfl) (mpp 96 rfl ?_)
      refine mp_a (a_bipush (v := 10) dX2_takeSizes_96 rfl) (mpp 98 rfl ?_)
      refine mp_t (s_idiv (v := (nI (w / 10))) dX2_takeSizes_98 (by decide) (i_div10 (by omega))) (mpp 99 rfl ?_)
      refine mp_a (a_istore_n (L' := [(3, .int (nI (w / 10))), (4, .int (nI j)), (0, .ref 298), (1, .int kd), (2, .int nz)]) dX2_takeSizes_99 (by decide) rfl) (mpp 100 rfl ?_)
      refine mp_a (a_iinc (v := ((nI j) - 1)) (L' := [(4, .int ((nI j) - 1)), (3, .int (nI (w / 10))), (0, .ref 298), (1, .int kd), (2, .int nz)]) dX2_takeSizes_100 (by decide) rfl (i_m1 (nI j)) rfl) (mpp 103 rfl ?_)
      refine mp_a (a_goto (t := 68) dX2_takeSizes_103 (by decide)) ?_
      refine ih (w / 10) _ _ (by omega) (by omega) (List.length_set.trans hA) (mset_ne hQ (by decide)) (mset_eq hR) (fun ho Q' z4 z3 hf hg => kOK (hz'.trans ho) Q' z4 z3 (fun t ht => (hf t ht).trans (List.getElem?_set_ne (Ne.symm ht))) hg) (fun ho Q' hf => kNo (hz'.trans ho) Q' (fun t ht => (hf t ht).trans (List.getElem?_set_ne (Ne.symm ht))))

set_option maxHeartbeats 4000000 in
theorem x_sum_loop {P : mP} {kd : Int32} {n : Nat} {A : List Value} (hn : n ≤ 8) (hA : A.length = 8) (hQ : P[298]? = some (2, [.int kd, .int (nI n), .int 0, .ref 299, .ref 300])) (hR : P[299]? = some (8, A)) : ∀ m i : Nat, i + m = n → MEvP 1 none q_23 4 [(2, .int (nI i)), (1, .int (sm A i)), (0, .ref 298)] [] P 0 0 (fun r P' => r = some (.int (sm A n)) ∧ P' = P) := by
  intro m
  induction m with
  | zero =>
    intro i hi
    have hi : i = n := by omega
    subst hi
    refine mp_a (a_iload_n dX2_sum_4 rfl) (mpp 5 rfl ?_)
    refine mp_a (a_aload_n dX2_sum_5 rfl) (mpp 6 rfl ?_)
    refine mp_get (i := 26) (v := .int (nI i)) dX2_sum_6 rfl hQ rfl (mpp 9 rfl ?_)
    refine mp_Tt (t := 29) (j_icmp_ge dX2_sum_9) (((nI_leI (a := i) (b := i) (by omega) (by omega)).mpr (by omega))) (by decide) ?_
    refine mp_a (a_iload_n dX2_sum_29 rfl) (mpp 30 rfl ?_)
    exact mp_iret (⟨rfl, rfl⟩) dX2_sum_30 (Or.inl rfl)
  | succ m ih =>
    intro i hi
    refine mp_a (a_iload_n dX2_sum_4 rfl) (mpp 5 rfl ?_)
    refine mp_a (a_aload_n dX2_sum_5 rfl) (mpp 6 rfl ?_)
    refine mp_get (i := 26) (v := .int (nI n)) dX2_sum_6 rfl hQ rfl (mpp 9 rfl ?_)
    refine mp_Tf (t := 29) (j_icmp_ge dX2_sum_9) (fun q => absurd ((nI_leI (a := n) (b := i) (by omega) (by omega)).mp q) (by omega)) (by decide) (mpp 12 rfl ?_)
    refine mp_a (a_iload_n dX2_sum_12 rfl) (mpp 13 rfl ?_)
    refine mp_a (a_aload_n dX2_sum_13 rfl) (mpp 14 rfl ?_)
    refine mp_get (i := 9) (v := .ref 299) dX2_sum_14 rfl hQ rfl (mpp 17 rfl ?_)
    refine mp_a (a_iload_n dX2_sum_17 rfl) (mpp 18 rfl ?_)
    refine mp_calls (i := 48) (q' := q_12) (As := [.ref 299, .int (nI i)]) (rest := [.int (sm A i)]) dX2_sum_18 rfl qm_12 (by decide) rfl (Nat.le_of_ble_eq_true rfl) rfl ⟨rfl, rfl⟩ ⟨Nat.le_of_ble_eq_true rfl, Nat.le_of_ble_eq_true rfl⟩ (EvP.mono (by decide) (x_atN (j := i) hR hA (by omega))) (fun r1 P1 g1 => mpp 21 rfl ?_)
    obtain ⟨rfl, rfl⟩ := g1
    show MEvP _ none q_23 21 [(2, .int (nI i)), (1, .int (sm A i)), (0, .ref 298)] [.int (mint (A.getD (i) .null)), .int (sm A i)] _ _ _ _
    refine mp_t (s_iadd (v := (sm A (i + 1))) dX2_sum_21 rfl) (mpp 22 rfl ?_)
    refine mp_a (a_istore_n (L' := [(1, .int (sm A (i + 1))), (2, .int (nI i)), (0, .ref 298)]) dX2_sum_22 (by decide) rfl) (mpp 23 rfl ?_)
    refine mp_a (a_iinc (v := (nI (i + 1))) (L' := [(2, .int (nI (i + 1))), (1, .int (sm A (i + 1))), (0, .ref 298)]) dX2_sum_23 (by decide) rfl (nI_1 (i)) rfl) (mpp 26 rfl ?_)
    refine mp_a (a_goto (t := 4) dX2_sum_26 (by decide)) ?_
    exact ih (i + 1) (by omega)
theorem x_sum {P : mP} {kd : Int32} {n : Nat} {A : List Value} (hn : n ≤ 8) (hA : A.length = 8) (hQ : P[298]? = some (2, [.int kd, .int (nI n), .int 0, .ref 299, .ref 300])) (hR : P[299]? = some (8, A)) : EvP 2 23 [.ref 298] P (fun r P' => r = some (.int (sm A n)) ∧ P' = P) := by
  refine EvP.of qm_23 (Nat.le_of_ble_eq_true rfl) rfl ?_
  show MEvP _ none q_23 0 [(0, .ref 298)] [] _ 0 0 _
  refine mp_a (a_iconst (v := 0) dX2_sum_0 rfl) (mpp 1 rfl ?_)
  refine mp_a (a_istore_n (L' := [(1, .int 0), (0, .ref 298)]) dX2_sum_1 (by decide) rfl) (mpp 2 rfl ?_)
  refine mp_a (a_iconst (v := 0) dX2_sum_2 rfl) (mpp 3 rfl ?_)
  refine mp_a (a_istore_n (L' := [(2, .int 0), (1, .int 0), (0, .ref 298)]) dX2_sum_3 (by decide) rfl) (mpp 4 rfl ?_)
  exact x_sum_loop hn hA hQ hR n 0 (by omega)
def A8 : List Value := List.replicate 8 (.int 0)
def szok (kd : Nat) (w : Nat) : Bool := decide (ndf 10 w ≤ 8) && okS (ndf 10 w) w && (if kd = 0 then decide (2 ≤ ndf 10 w) && decide (ndf 10 w ≤ 7) else (decide (ndf 10 w = 4) || decide (ndf 10 w = 6) || decide (ndf 10 w = 8)) && decide (sm (wr (ndf 10 w) w A8) (ndf 10 w) = 24))
set_option maxRecDepth 100000 in
set_option maxHeartbeats 4000000 in
theorem x_takeSizes0 {P : mP} {w : Nat} (hw : w < 2 ^ 31) (h298 : P[298]? = some (2, [.int 0, .int 0, .int 0, .ref 299, .ref 300])) (h299 : P[299]? = some (8, A8)) : EvP 6 21 [.ref 298, .int 0, .int (nI w)] P (fun r P' => (∀ t : Nat, t ≠ 298 → t ≠ 299 → P'[t]? = P[t]?) ∧ ((r = some (.int 1) ∧ szok 0 w = true ∧ ndf 10 w ≤ 8 ∧ P'[298]? = some (2, [.int 0, .int (nI (ndf 10 w)), .int 0, .ref 299, .ref 300]) ∧ ∃ B : List Value, P'[299]? = some (8, B) ∧ B.length = 8) ∨ (r = some (.int 0) ∧ szok 0 w = false))) := by
  refine EvP.of qm_21 (Nat.le_of_ble_eq_true rfl) rfl ?_
  show MEvP _ none q_21 0 [(0, .ref 298), (1, .int 0), (2, .int (nI w))] [] _ 0 0 _
  refine mp_a (a_aload_n dX2_takeSizes_0 rfl) (mpp 1 rfl ?_)
  refine mp_a (a_iload_n dX2_takeSizes_1 rfl) (mpp 2 rfl ?_)
  refine mp_put (i := 18) dX2_takeSizes_2 rfl h298 (Nat.le_of_ble_eq_true rfl) rfl (Or.inl rfl) (mpp 5 rfl ?_)
  refine mp_a (a_aload_n dX2_takeSizes_5 rfl) (mpp 6 rfl ?_)
  refine mp_a (a_iconst (v := 0) dX2_takeSizes_6 rfl) (mpp 7 rfl ?_)
  refine mp_put (i := 22) dX2_takeSizes_7 rfl (mset_eq h298) (Nat.le_of_ble_eq_true rfl) rfl (Or.inl rfl) (mpp 10 rfl ?_)
  refine mp_a (a_aload_n dX2_takeSizes_10 rfl) (mpp 11 rfl ?_)
  refine mp_a (a_iconst (v := 0) dX2_takeSizes_11 rfl) (mpp 12 rfl ?_)
  refine mp_put (i := 26) dX2_takeSizes_12 rfl (mset_eq (mset_eq h298)) (Nat.le_of_ble_eq_true rfl) rfl (Or.inl rfl) (mpp 15 rfl ?_)
  refine mp_a (a_iload_n dX2_takeSizes_15 rfl) (mpp 16 rfl ?_)
  refine mp_a (a_istore_n (L' := [(3, .int (nI w)), (0, .ref 298), (1, .int 0), (2, .int (nI w))]) dX2_takeSizes_16 (by decide) rfl) (mpp 17 rfl ?_)
  refine mp_a (a_iconst (v := 0) dX2_takeSizes_17 rfl) (mpp 18 rfl ?_)
  refine mp_a (a_istore (L' := [(4, .int 0), (3, .int (nI w)), (0, .ref 298), (1, .int 0), (2, .int (nI w))]) dX2_takeSizes_18 (by decide) rfl) (mpp 20 rfl ?_)
  refine x_ts1 10 w 0 _ (by omega) hw (by omega) (mset_eq (mset_eq (mset_eq h298))) (fun Q' n' w' z4 hf hw' hn' hrel hQ' => ?_)
  by_cases h0 : w' = 0
  · have hn : n' = ndf 10 w := by omega
    subst hn
    have hw0 : w' < 2 ^ 31 := hw'
    refine mp_a (a_iload_n dX2_takeSizes_52 rfl) (mpp 53 rfl ?_)
    refine mp_Tt (t := 58) (j_if_eq dX2_takeSizes_53) (((nI_eq (a := w') (b := 0) (by omega) (by omega)).mpr (by omega))) (by decide) ?_
    refine mp_a (a_iload_n dX2_takeSizes_58 rfl) (mpp 59 rfl ?_)
    refine mp_a (a_istore_n (L' := [(3, .int (nI w)), (4, z4), (0, .ref 298), (1, .int 0), (2, .int (nI w))]) dX2_takeSizes_59 (by decide) rfl) (mpp 60 rfl ?_)
    refine mp_a (a_aload_n dX2_takeSizes_60 rfl) (mpp 61 rfl ?_)
    refine mp_get (i := 26) (v := .int (nI (ndf 10 w))) dX2_takeSizes_61 rfl hQ' rfl (mpp 64 rfl ?_)
    refine mp_a (a_iconst (v := 1) dX2_takeSizes_64 rfl) (mpp 65 rfl ?_)
    refine mp_t (s_isub (v := ((nI (ndf 10 w)) - 1)) dX2_takeSizes_65 rfl) (mpp 66 rfl ?_)
    refine mp_a (a_istore (L' := [(4, .int ((nI (ndf 10 w)) - 1)), (3, .int (nI w)), (0, .ref 298), (1, .int 0), (2, .int (nI w))]) dX2_takeSizes_66 (by decide) rfl) (mpp 68 rfl ?_)
    refine x_ts2 (ndf 10 w) w A8 Q' hn' hw rfl hQ' ((hf 299 (by decide)).trans (mset_ne (mset_ne (mset_ne h299 (by decide)) (by decide)) (by decide))) (fun ho Q2 z4b z3b hf2 hR2 => ?_) (fun ho Q2 hf2 => ?_)
    · have hQ2 := (hf2 298 (by decide)).trans hQ'
      by_cases h2 : ndf 10 w < 2
      · have hs : szok 0 w = false := by
          have : ¬ 2 ≤ ndf 10 w := by omega
          simp [szok, this]
        refine mp_a (a_aload_n dX2_takeSizes_106 rfl) (mpp 107 rfl ?_)
        refine mp_get (i := 18) (v := .int 0) dX2_takeSizes_107 rfl hQ2 rfl (mpp 110 rfl ?_)
        refine mp_Tf (t := 136) (j_if_ne dX2_takeSizes_110) (by decide) (by decide) (mpp 113 rfl ?_)
        refine mp_a (a_aload_n dX2_takeSizes_113 rfl) (mpp 114 rfl ?_)
        refine mp_get (i := 26) (v := .int (nI (ndf 10 w))) dX2_takeSizes_114 rfl hQ2 rfl (mpp 117 rfl ?_)
        refine mp_a (a_iconst (v := 2) dX2_takeSizes_117 rfl) (mpp 118 rfl ?_)
        refine mp_Tt (t := 134) (j_icmp_lt dX2_takeSizes_118) (((nI_ltI (a := (ndf 10 w)) (b := 2) (by omega) (by omega)).mpr (by omega))) (by decide) ?_
        refine mp_a (a_iconst (v := 0) dX2_takeSizes_134 rfl) (mpp 135 rfl ?_)
        exact mp_iret (⟨fun t h1 h2 => (hf2 t h2).trans ((hf t h1).trans (by repeat rw [List.getElem?_set_ne (Ne.symm h1)])), Or.inr ⟨rfl, hs⟩⟩) dX2_takeSizes_135 (Or.inr ⟨rfl, by decide⟩)
      · by_cases h7 : 7 < ndf 10 w
        · have hs : szok 0 w = false := by
            have : ¬ ndf 10 w ≤ 7 := by omega
            simp [szok, this]
          refine mp_a (a_aload_n dX2_takeSizes_106 rfl) (mpp 107 rfl ?_)
          refine mp_get (i := 18) (v := .int 0) dX2_takeSizes_107 rfl hQ2 rfl (mpp 110 rfl ?_)
          refine mp_Tf (t := 136) (j_if_ne dX2_takeSizes_110) (by decide) (by decide) (mpp 113 rfl ?_)
          refine mp_a (a_aload_n dX2_takeSizes_113 rfl) (mpp 114 rfl ?_)
          refine mp_get (i := 26) (v := .int (nI (ndf 10 w))) dX2_takeSizes_114 rfl hQ2 rfl (mpp 117 rfl ?_)
          refine mp_a (a_iconst (v := 2) dX2_takeSizes_117 rfl) (mpp 118 rfl ?_)
          refine mp_Tf (t := 134) (j_icmp_lt dX2_takeSizes_118) (fun q => absurd ((nI_ltI (a := (ndf 10 w)) (b := 2) (by omega) (by omega)).mp q) (by omega)) (by decide) (mpp 121 rfl ?_)
          refine mp_a (a_aload_n dX2_takeSizes_121 rfl) (mpp 122 rfl ?_)
          refine mp_get (i := 26) (v := .int (nI (ndf 10 w))) dX2_takeSizes_122 rfl hQ2 rfl (mpp 125 rfl ?_)
          refine mp_a (a_bipush (v := 7) dX2_takeSizes_125 rfl) (mpp 127 rfl ?_)
          refine mp_Tt (t := 134) (j_icmp_gt dX2_takeSizes_127) (((nI_ltI (a := 7) (b := (ndf 10 w)) (by omega) (by omega)).mpr (by omega))) (by decide) ?_
          refine mp_a (a_iconst (v := 0) dX2_takeSizes_134 rfl) (mpp 135 rfl ?_)
          exact mp_iret (⟨fun t h1 h2 => (hf2 t h2).trans ((hf t h1).trans (by repeat rw [List.getElem?_set_ne (Ne.symm h1)])), Or.inr ⟨rfl, hs⟩⟩) dX2_takeSizes_135 (Or.inr ⟨rfl, by decide⟩)
        · have hs : szok 0 w = true := by
            have e1 : ndf 10 w ≤ 8 := by omega
            have e2 : 2 ≤ ndf 10 w := by omega
            have e3 : ndf 10 w ≤ 7 := by omega
            simp [szok, e1, e2, e3, ho]
          refine mp_a (a_aload_n dX2_takeSizes_106 rfl) (mpp 107 rfl ?_)
          refine mp_get (i := 18) (v := .int 0) dX2_takeSizes_107 rfl hQ2 rfl (mpp 110 rfl ?_)
          refine mp_Tf (t := 136) (j_if_ne dX2_takeSizes_110) (by decide) (by decide) (mpp 113 rfl ?_)
          refine mp_a (a_aload_n dX2_takeSizes_113 rfl) (mpp 114 rfl ?_)
          refine mp_get (i := 26) (v := .int (nI (ndf 10 w))) dX2_takeSizes_114 rfl hQ2 rfl (mpp 117 rfl ?_)
          refine mp_a (a_iconst (v := 2) dX2_takeSizes_117 rfl) (mpp 118 rfl ?_)
          refine mp_Tf (t := 134) (j_icmp_lt dX2_takeSizes_118) (fun q => absurd ((nI_ltI (a := (ndf 10 w)) (b := 2) (by omega) (by omega)).mp q) (by omega)) (by decide) (mpp 121 rfl ?_)
          refine mp_a (a_aload_n dX2_takeSizes_121 rfl) (mpp 122 rfl ?_)
          refine mp_get (i := 26) (v := .int (nI (ndf 10 w))) dX2_takeSizes_122 rfl hQ2 rfl (mpp 125 rfl ?_)
          refine mp_a (a_bipush (v := 7) dX2_takeSizes_125 rfl) (mpp 127 rfl ?_)
          refine mp_Tf (t := 134) (j_icmp_gt dX2_takeSizes_127) (fun q => absurd ((nI_ltI (a := 7) (b := (ndf 10 w)) (by omega) (by omega)).mp q) (by omega)) (by decide) (mpp 130 rfl ?_)
          refine mp_a (a_iconst (v := 1) dX2_takeSizes_130 rfl) (mpp 131 rfl ?_)
          refine mp_a (a_goto (t := 135) dX2_takeSizes_131 (by decide)) ?_
          exact mp_iret (⟨fun t h1 h2 => (hf2 t h2).trans ((hf t h1).trans (by repeat rw [List.getElem?_set_ne (Ne.symm h1)])), Or.inl ⟨rfl, hs, by omega, hQ2, _, hR2, (wr_len _ _ _).trans rfl⟩⟩) dX2_takeSizes_135 (Or.inr ⟨rfl, by decide⟩)
    · have hs : szok 0 w = false := by simp [szok, ho]
      exact ⟨fun t h1 h2 => (hf2 t h2).trans ((hf t h1).trans (by repeat rw [List.getElem?_set_ne (Ne.symm h1)])), Or.inr ⟨rfl, hs⟩⟩
  · have hs : szok 0 w = false := by
      have : ¬ ndf 10 w ≤ 8 := by omega
      simp [szok, this]
    refine mp_a (a_iload_n dX2_takeSizes_52 rfl) (mpp 53 rfl ?_)
    refine mp_Tf (t := 58) (j_if_eq dX2_takeSizes_53) (fun q => absurd ((nI_eq (a := w') (b := 0) (by omega) (by omega)).mp q) (by omega)) (by decide) (mpp 56 rfl ?_)
    refine mp_a (a_iconst (v := 0) dX2_takeSizes_56 rfl) (mpp 57 rfl ?_)
    exact mp_iret (⟨fun t h1 h2 => (hf t h1).trans (by repeat rw [List.getElem?_set_ne (Ne.symm h1)]), Or.inr ⟨rfl, hs⟩⟩) dX2_takeSizes_57 (Or.inr ⟨rfl, by decide⟩)

set_option maxRecDepth 100000 in
set_option maxHeartbeats 4000000 in
theorem x_takeSizesN0 {P : mP} {nz : Int32} (hn : nz < 0) (hl : nz ≤ 0) (hz : ¬ nz = 0) (h298 : P[298]? = some (2, [.int 0, .int 0, .int 0, .ref 299, .ref 300])) : EvP 6 21 [.ref 298, .int 0, .int nz] P (fun r P' => r = some (.int 0) ∧ ∀ t : Nat, t ≠ 298 → P'[t]? = P[t]?) := by
  refine EvP.of qm_21 (Nat.le_of_ble_eq_true rfl) rfl ?_
  show MEvP _ none q_21 0 [(0, .ref 298), (1, .int 0), (2, .int nz)] [] _ 0 0 _
  refine mp_a (a_aload_n dX2_takeSizes_0 rfl) (mpp 1 rfl ?_)
  refine mp_a (a_iload_n dX2_takeSizes_1 rfl) (mpp 2 rfl ?_)
  refine mp_put (i := 18) dX2_takeSizes_2 rfl h298 (Nat.le_of_ble_eq_true rfl) rfl (Or.inl rfl) (mpp 5 rfl ?_)
  refine mp_a (a_aload_n dX2_takeSizes_5 rfl) (mpp 6 rfl ?_)
  refine mp_a (a_iconst (v := 0) dX2_takeSizes_6 rfl) (mpp 7 rfl ?_)
  refine mp_put (i := 22) dX2_takeSizes_7 rfl (mset_eq h298) (Nat.le_of_ble_eq_true rfl) rfl (Or.inl rfl) (mpp 10 rfl ?_)
  refine mp_a (a_aload_n dX2_takeSizes_10 rfl) (mpp 11 rfl ?_)
  refine mp_a (a_iconst (v := 0) dX2_takeSizes_11 rfl) (mpp 12 rfl ?_)
  refine mp_put (i := 26) dX2_takeSizes_12 rfl (mset_eq (mset_eq h298)) (Nat.le_of_ble_eq_true rfl) rfl (Or.inl rfl) (mpp 15 rfl ?_)
  refine mp_a (a_iload_n dX2_takeSizes_15 rfl) (mpp 16 rfl ?_)
  refine mp_a (a_istore_n (L' := [(3, .int nz), (0, .ref 298), (1, .int 0), (2, .int nz)]) dX2_takeSizes_16 (by decide) rfl) (mpp 17 rfl ?_)
  refine mp_a (a_iconst (v := 0) dX2_takeSizes_17 rfl) (mpp 18 rfl ?_)
  refine mp_a (a_istore (L' := [(4, .int 0), (3, .int nz), (0, .ref 298), (1, .int 0), (2, .int nz)]) dX2_takeSizes_18 (by decide) rfl) (mpp 20 rfl ?_)
  refine mp_a (a_iload dX2_takeSizes_20 rfl) (mpp 22 rfl ?_)
  refine mp_a (a_bipush (v := 8) dX2_takeSizes_22 rfl) (mpp 24 rfl ?_)
  refine mp_Tf (t := 52) (j_icmp_ge dX2_takeSizes_24) (by decide) (by decide) (mpp 27 rfl ?_)
  refine mp_a (a_iload_n dX2_takeSizes_27 rfl) (mpp 28 rfl ?_)
  refine mp_Tt (t := 52) (j_if_le dX2_takeSizes_28) hl (by decide) ?_
  refine mp_a (a_iload_n dX2_takeSizes_52 rfl) (mpp 53 rfl ?_)
  refine mp_Tf (t := 58) (j_if_eq dX2_takeSizes_53) hz (by decide) (mpp 56 rfl ?_)
  refine mp_a (a_iconst (v := 0) dX2_takeSizes_56 rfl) (mpp 57 rfl ?_)
  exact mp_iret (⟨rfl, fun t h1 => by repeat rw [List.getElem?_set_ne (Ne.symm h1)]⟩) dX2_takeSizes_57 (Or.inr ⟨rfl, by decide⟩)

set_option maxRecDepth 100000 in
set_option maxHeartbeats 4000000 in
theorem x_takeSizes1 {P : mP} {w : Nat} (hw : w < 2 ^ 31) (h298 : P[298]? = some (2, [.int 0, .int 0, .int 0, .ref 299, .ref 300])) (h299 : P[299]? = some (8, A8)) : EvP 6 21 [.ref 298, .int 1, .int (nI w)] P (fun r P' => (∀ t : Nat, t ≠ 298 → t ≠ 299 → P'[t]? = P[t]?) ∧ ((r = some (.int 1) ∧ szok 1 w = true ∧ ndf 10 w ≤ 8 ∧ P'[298]? = some (2, [.int 1, .int (nI (ndf 10 w)), .int 0, .ref 299, .ref 300]) ∧ ∃ B : List Value, P'[299]? = some (8, B) ∧ B.length = 8) ∨ (r = some (.int 0) ∧ szok 1 w = false))) := by
  refine EvP.of qm_21 (Nat.le_of_ble_eq_true rfl) rfl ?_
  show MEvP _ none q_21 0 [(0, .ref 298), (1, .int 1), (2, .int (nI w))] [] _ 0 0 _
  refine mp_a (a_aload_n dX2_takeSizes_0 rfl) (mpp 1 rfl ?_)
  refine mp_a (a_iload_n dX2_takeSizes_1 rfl) (mpp 2 rfl ?_)
  refine mp_put (i := 18) dX2_takeSizes_2 rfl h298 (Nat.le_of_ble_eq_true rfl) rfl (Or.inl rfl) (mpp 5 rfl ?_)
  refine mp_a (a_aload_n dX2_takeSizes_5 rfl) (mpp 6 rfl ?_)
  refine mp_a (a_iconst (v := 0) dX2_takeSizes_6 rfl) (mpp 7 rfl ?_)
  refine mp_put (i := 22) dX2_takeSizes_7 rfl (mset_eq h298) (Nat.le_of_ble_eq_true rfl) rfl (Or.inl rfl) (mpp 10 rfl ?_)
  refine mp_a (a_aload_n dX2_takeSizes_10 rfl) (mpp 11 rfl ?_)
  refine mp_a (a_iconst (v := 0) dX2_takeSizes_11 rfl) (mpp 12 rfl ?_)
  refine mp_put (i := 26) dX2_takeSizes_12 rfl (mset_eq (mset_eq h298)) (Nat.le_of_ble_eq_true rfl) rfl (Or.inl rfl) (mpp 15 rfl ?_)
  refine mp_a (a_iload_n dX2_takeSizes_15 rfl) (mpp 16 rfl ?_)
  refine mp_a (a_istore_n (L' := [(3, .int (nI w)), (0, .ref 298), (1, .int 1), (2, .int (nI w))]) dX2_takeSizes_16 (by decide) rfl) (mpp 17 rfl ?_)
  refine mp_a (a_iconst (v := 0) dX2_takeSizes_17 rfl) (mpp 18 rfl ?_)
  refine mp_a (a_istore (L' := [(4, .int 0), (3, .int (nI w)), (0, .ref 298), (1, .int 1), (2, .int (nI w))]) dX2_takeSizes_18 (by decide) rfl) (mpp 20 rfl ?_)
  refine x_ts1 10 w 0 _ (by omega) hw (by omega) (mset_eq (mset_eq (mset_eq h298))) (fun Q' n' w' z4 hf hw' hn' hrel hQ' => ?_)
  by_cases h0 : w' = 0
  · have hn : n' = ndf 10 w := by omega
    subst hn
    have hw0 : w' < 2 ^ 31 := hw'
    refine mp_a (a_iload_n dX2_takeSizes_52 rfl) (mpp 53 rfl ?_)
    refine mp_Tt (t := 58) (j_if_eq dX2_takeSizes_53) (((nI_eq (a := w') (b := 0) (by omega) (by omega)).mpr (by omega))) (by decide) ?_
    refine mp_a (a_iload_n dX2_takeSizes_58 rfl) (mpp 59 rfl ?_)
    refine mp_a (a_istore_n (L' := [(3, .int (nI w)), (4, z4), (0, .ref 298), (1, .int 1), (2, .int (nI w))]) dX2_takeSizes_59 (by decide) rfl) (mpp 60 rfl ?_)
    refine mp_a (a_aload_n dX2_takeSizes_60 rfl) (mpp 61 rfl ?_)
    refine mp_get (i := 26) (v := .int (nI (ndf 10 w))) dX2_takeSizes_61 rfl hQ' rfl (mpp 64 rfl ?_)
    refine mp_a (a_iconst (v := 1) dX2_takeSizes_64 rfl) (mpp 65 rfl ?_)
    refine mp_t (s_isub (v := ((nI (ndf 10 w)) - 1)) dX2_takeSizes_65 rfl) (mpp 66 rfl ?_)
    refine mp_a (a_istore (L' := [(4, .int ((nI (ndf 10 w)) - 1)), (3, .int (nI w)), (0, .ref 298), (1, .int 1), (2, .int (nI w))]) dX2_takeSizes_66 (by decide) rfl) (mpp 68 rfl ?_)
    refine x_ts2 (ndf 10 w) w A8 Q' hn' hw rfl hQ' ((hf 299 (by decide)).trans (mset_ne (mset_ne (mset_ne h299 (by decide)) (by decide)) (by decide))) (fun ho Q2 z4b z3b hf2 hR2 => ?_) (fun ho Q2 hf2 => ?_)
    · have hQ2 := (hf2 298 (by decide)).trans hQ'
      by_cases h4 : ndf 10 w = 4
      · have hx := h4
        by_cases h24 : sm (wr (ndf 10 w) w A8) (ndf 10 w) = 24
        · have hs : szok 1 w = true := by
            have e1 : ndf 10 w ≤ 8 := by omega
            simp [szok, h4, ho, h24]
            try (rw [h4] at ho h24; simp [ho, h24])
          refine mp_a (a_aload_n dX2_takeSizes_106 rfl) (mpp 107 rfl ?_)
          refine mp_get (i := 18) (v := .int 1) dX2_takeSizes_107 rfl hQ2 rfl (mpp 110 rfl ?_)
          refine mp_Tt (t := 136) (j_if_ne dX2_takeSizes_110) (by decide) (by decide) ?_
          refine mp_a (a_aload_n dX2_takeSizes_136 rfl) (mpp 137 rfl ?_)
          refine mp_get (i := 26) (v := .int (nI (ndf 10 w))) dX2_takeSizes_137 rfl hQ2 rfl (mpp 140 rfl ?_)
          refine mp_a (a_iconst (v := 4) dX2_takeSizes_140 rfl) (mpp 141 rfl ?_)
          refine mp_Tt (t := 162) (j_icmp_eq dX2_takeSizes_141) (((nI_eq (a := (ndf 10 w)) (b := 4) (by omega) (by omega)).mpr (by omega))) (by decide) ?_
          refine mp_a (a_aload_n dX2_takeSizes_162 rfl) (mpp 163 rfl ?_)
          refine mp_callv (i := 33) (q' := q_23) (As := []) (rest := []) dX2_takeSizes_163 rfl qm_23 (by decide) rfl hQ2 (by decide) (Nat.le_of_ble_eq_true rfl) rfl ⟨rfl, rfl⟩ ⟨Nat.le_of_ble_eq_true rfl, Nat.le_of_ble_eq_true rfl⟩ (EvP.mono (by decide) (x_sum (A := wr (ndf 10 w) w A8) (by omega) ((wr_len _ _ _).trans rfl) hQ2 hR2)) (fun r1 P1 g1 => mpp 166 rfl ?_)
          obtain ⟨rfl, rfl⟩ := g1
          show MEvP _ none q_21 166 [(4, .int z4b), (3, .int z3b), (0, .ref 298), (1, .int 1), (2, .int (nI w))] [.int (sm (wr (ndf 10 w) w A8) (ndf 10 w))] _ _ _ _
          refine mp_a (a_bipush (v := 24) dX2_takeSizes_166 rfl) (mpp 168 rfl ?_)
          refine mp_Tf (t := 175) (j_icmp_ne dX2_takeSizes_168) (fun q => q h24) (by decide) (mpp 171 rfl ?_)
          refine mp_a (a_iconst (v := 1) dX2_takeSizes_171 rfl) (mpp 172 rfl ?_)
          refine mp_a (a_goto (t := 176) dX2_takeSizes_172 (by decide)) ?_
          exact mp_iret (⟨fun t h1 h2 => (hf2 t h2).trans ((hf t h1).trans (by repeat rw [List.getElem?_set_ne (Ne.symm h1)])), Or.inl ⟨rfl, hs, by omega, hQ2, _, hR2, (wr_len _ _ _).trans rfl⟩⟩) dX2_takeSizes_176 (Or.inr ⟨rfl, by decide⟩)
        · have hs : szok 1 w = false := by
            simp [szok, h24]
          refine mp_a (a_aload_n dX2_takeSizes_106 rfl) (mpp 107 rfl ?_)
          refine mp_get (i := 18) (v := .int 1) dX2_takeSizes_107 rfl hQ2 rfl (mpp 110 rfl ?_)
          refine mp_Tt (t := 136) (j_if_ne dX2_takeSizes_110) (by decide) (by decide) ?_
          refine mp_a (a_aload_n dX2_takeSizes_136 rfl) (mpp 137 rfl ?_)
          refine mp_get (i := 26) (v := .int (nI (ndf 10 w))) dX2_takeSizes_137 rfl hQ2 rfl (mpp 140 rfl ?_)
          refine mp_a (a_iconst (v := 4) dX2_takeSizes_140 rfl) (mpp 141 rfl ?_)
          refine mp_Tt (t := 162) (j_icmp_eq dX2_takeSizes_141) (((nI_eq (a := (ndf 10 w)) (b := 4) (by omega) (by omega)).mpr (by omega))) (by decide) ?_
          refine mp_a (a_aload_n dX2_takeSizes_162 rfl) (mpp 163 rfl ?_)
          refine mp_callv (i := 33) (q' := q_23) (As := []) (rest := []) dX2_takeSizes_163 rfl qm_23 (by decide) rfl hQ2 (by decide) (Nat.le_of_ble_eq_true rfl) rfl ⟨rfl, rfl⟩ ⟨Nat.le_of_ble_eq_true rfl, Nat.le_of_ble_eq_true rfl⟩ (EvP.mono (by decide) (x_sum (A := wr (ndf 10 w) w A8) (by omega) ((wr_len _ _ _).trans rfl) hQ2 hR2)) (fun r1 P1 g1 => mpp 166 rfl ?_)
          obtain ⟨rfl, rfl⟩ := g1
          show MEvP _ none q_21 166 [(4, .int z4b), (3, .int z3b), (0, .ref 298), (1, .int 1), (2, .int (nI w))] [.int (sm (wr (ndf 10 w) w A8) (ndf 10 w))] _ _ _ _
          refine mp_a (a_bipush (v := 24) dX2_takeSizes_166 rfl) (mpp 168 rfl ?_)
          refine mp_Tt (t := 175) (j_icmp_ne dX2_takeSizes_168) h24 (by decide) ?_
          refine mp_a (a_iconst (v := 0) dX2_takeSizes_175 rfl) (mpp 176 rfl ?_)
          exact mp_iret (⟨fun t h1 h2 => (hf2 t h2).trans ((hf t h1).trans (by repeat rw [List.getElem?_set_ne (Ne.symm h1)])), Or.inr ⟨rfl, hs⟩⟩) dX2_takeSizes_176 (Or.inr ⟨rfl, by decide⟩)
      · by_cases h6 : ndf 10 w = 6
        · have hx := h6
          by_cases h24 : sm (wr (ndf 10 w) w A8) (ndf 10 w) = 24
          · have hs : szok 1 w = true := by
              have e1 : ndf 10 w ≤ 8 := by omega
              simp [szok, h6, ho, h24]
              try (rw [h6] at ho h24; simp [ho, h24])
            refine mp_a (a_aload_n dX2_takeSizes_106 rfl) (mpp 107 rfl ?_)
            refine mp_get (i := 18) (v := .int 1) dX2_takeSizes_107 rfl hQ2 rfl (mpp 110 rfl ?_)
            refine mp_Tt (t := 136) (j_if_ne dX2_takeSizes_110) (by decide) (by decide) ?_
            refine mp_a (a_aload_n dX2_takeSizes_136 rfl) (mpp 137 rfl ?_)
            refine mp_get (i := 26) (v := .int (nI (ndf 10 w))) dX2_takeSizes_137 rfl hQ2 rfl (mpp 140 rfl ?_)
            refine mp_a (a_iconst (v := 4) dX2_takeSizes_140 rfl) (mpp 141 rfl ?_)
            refine mp_Tf (t := 162) (j_icmp_eq dX2_takeSizes_141) (fun q => absurd ((nI_eq (a := (ndf 10 w)) (b := 4) (by omega) (by omega)).mp q) (by omega)) (by decide) (mpp 144 rfl ?_)
            refine mp_a (a_aload_n dX2_takeSizes_144 rfl) (mpp 145 rfl ?_)
            refine mp_get (i := 26) (v := .int (nI (ndf 10 w))) dX2_takeSizes_145 rfl hQ2 rfl (mpp 148 rfl ?_)
            refine mp_a (a_bipush (v := 6) dX2_takeSizes_148 rfl) (mpp 150 rfl ?_)
            refine mp_Tt (t := 162) (j_icmp_eq dX2_takeSizes_150) (((nI_eq (a := (ndf 10 w)) (b := 6) (by omega) (by omega)).mpr (by omega))) (by decide) ?_
            refine mp_a (a_aload_n dX2_takeSizes_162 rfl) (mpp 163 rfl ?_)
            refine mp_callv (i := 33) (q' := q_23) (As := []) (rest := []) dX2_takeSizes_163 rfl qm_23 (by decide) rfl hQ2 (by decide) (Nat.le_of_ble_eq_true rfl) rfl ⟨rfl, rfl⟩ ⟨Nat.le_of_ble_eq_true rfl, Nat.le_of_ble_eq_true rfl⟩ (EvP.mono (by decide) (x_sum (A := wr (ndf 10 w) w A8) (by omega) ((wr_len _ _ _).trans rfl) hQ2 hR2)) (fun r1 P1 g1 => mpp 166 rfl ?_)
            obtain ⟨rfl, rfl⟩ := g1
            show MEvP _ none q_21 166 [(4, .int z4b), (3, .int z3b), (0, .ref 298), (1, .int 1), (2, .int (nI w))] [.int (sm (wr (ndf 10 w) w A8) (ndf 10 w))] _ _ _ _
            refine mp_a (a_bipush (v := 24) dX2_takeSizes_166 rfl) (mpp 168 rfl ?_)
            refine mp_Tf (t := 175) (j_icmp_ne dX2_takeSizes_168) (fun q => q h24) (by decide) (mpp 171 rfl ?_)
            refine mp_a (a_iconst (v := 1) dX2_takeSizes_171 rfl) (mpp 172 rfl ?_)
            refine mp_a (a_goto (t := 176) dX2_takeSizes_172 (by decide)) ?_
            exact mp_iret (⟨fun t h1 h2 => (hf2 t h2).trans ((hf t h1).trans (by repeat rw [List.getElem?_set_ne (Ne.symm h1)])), Or.inl ⟨rfl, hs, by omega, hQ2, _, hR2, (wr_len _ _ _).trans rfl⟩⟩) dX2_takeSizes_176 (Or.inr ⟨rfl, by decide⟩)
          · have hs : szok 1 w = false := by
              simp [szok, h24]
            refine mp_a (a_aload_n dX2_takeSizes_106 rfl) (mpp 107 rfl ?_)
            refine mp_get (i := 18) (v := .int 1) dX2_takeSizes_107 rfl hQ2 rfl (mpp 110 rfl ?_)
            refine mp_Tt (t := 136) (j_if_ne dX2_takeSizes_110) (by decide) (by decide) ?_
            refine mp_a (a_aload_n dX2_takeSizes_136 rfl) (mpp 137 rfl ?_)
            refine mp_get (i := 26) (v := .int (nI (ndf 10 w))) dX2_takeSizes_137 rfl hQ2 rfl (mpp 140 rfl ?_)
            refine mp_a (a_iconst (v := 4) dX2_takeSizes_140 rfl) (mpp 141 rfl ?_)
            refine mp_Tf (t := 162) (j_icmp_eq dX2_takeSizes_141) (fun q => absurd ((nI_eq (a := (ndf 10 w)) (b := 4) (by omega) (by omega)).mp q) (by omega)) (by decide) (mpp 144 rfl ?_)
            refine mp_a (a_aload_n dX2_takeSizes_144 rfl) (mpp 145 rfl ?_)
            refine mp_get (i := 26) (v := .int (nI (ndf 10 w))) dX2_takeSizes_145 rfl hQ2 rfl (mpp 148 rfl ?_)
            refine mp_a (a_bipush (v := 6) dX2_takeSizes_148 rfl) (mpp 150 rfl ?_)
            refine mp_Tt (t := 162) (j_icmp_eq dX2_takeSizes_150) (((nI_eq (a := (ndf 10 w)) (b := 6) (by omega) (by omega)).mpr (by omega))) (by decide) ?_
            refine mp_a (a_aload_n dX2_takeSizes_162 rfl) (mpp 163 rfl ?_)
            refine mp_callv (i := 33) (q' := q_23) (As := []) (rest := []) dX2_takeSizes_163 rfl qm_23 (by decide) rfl hQ2 (by decide) (Nat.le_of_ble_eq_true rfl) rfl ⟨rfl, rfl⟩ ⟨Nat.le_of_ble_eq_true rfl, Nat.le_of_ble_eq_true rfl⟩ (EvP.mono (by decide) (x_sum (A := wr (ndf 10 w) w A8) (by omega) ((wr_len _ _ _).trans rfl) hQ2 hR2)) (fun r1 P1 g1 => mpp 166 rfl ?_)
            obtain ⟨rfl, rfl⟩ := g1
            show MEvP _ none q_21 166 [(4, .int z4b), (3, .int z3b), (0, .ref 298), (1, .int 1), (2, .int (nI w))] [.int (sm (wr (ndf 10 w) w A8) (ndf 10 w))] _ _ _ _
            refine mp_a (a_bipush (v := 24) dX2_takeSizes_166 rfl) (mpp 168 rfl ?_)
            refine mp_Tt (t := 175) (j_icmp_ne dX2_takeSizes_168) h24 (by decide) ?_
            refine mp_a (a_iconst (v := 0) dX2_takeSizes_175 rfl) (mpp 176 rfl ?_)
            exact mp_iret (⟨fun t h1 h2 => (hf2 t h2).trans ((hf t h1).trans (by repeat rw [List.getElem?_set_ne (Ne.symm h1)])), Or.inr ⟨rfl, hs⟩⟩) dX2_takeSizes_176 (Or.inr ⟨rfl, by decide⟩)
        · by_cases h8 : ndf 10 w = 8
          · have hx := h8
            by_cases h24 : sm (wr (ndf 10 w) w A8) (ndf 10 w) = 24
            · have hs : szok 1 w = true := by
                have e1 : ndf 10 w ≤ 8 := by omega
                simp [szok, h8, ho, h24]
                try (rw [h8] at ho h24; simp [ho, h24])
              refine mp_a (a_aload_n dX2_takeSizes_106 rfl) (mpp 107 rfl ?_)
              refine mp_get (i := 18) (v := .int 1) dX2_takeSizes_107 rfl hQ2 rfl (mpp 110 rfl ?_)
              refine mp_Tt (t := 136) (j_if_ne dX2_takeSizes_110) (by decide) (by decide) ?_
              refine mp_a (a_aload_n dX2_takeSizes_136 rfl) (mpp 137 rfl ?_)
              refine mp_get (i := 26) (v := .int (nI (ndf 10 w))) dX2_takeSizes_137 rfl hQ2 rfl (mpp 140 rfl ?_)
              refine mp_a (a_iconst (v := 4) dX2_takeSizes_140 rfl) (mpp 141 rfl ?_)
              refine mp_Tf (t := 162) (j_icmp_eq dX2_takeSizes_141) (fun q => absurd ((nI_eq (a := (ndf 10 w)) (b := 4) (by omega) (by omega)).mp q) (by omega)) (by decide) (mpp 144 rfl ?_)
              refine mp_a (a_aload_n dX2_takeSizes_144 rfl) (mpp 145 rfl ?_)
              refine mp_get (i := 26) (v := .int (nI (ndf 10 w))) dX2_takeSizes_145 rfl hQ2 rfl (mpp 148 rfl ?_)
              refine mp_a (a_bipush (v := 6) dX2_takeSizes_148 rfl) (mpp 150 rfl ?_)
              refine mp_Tf (t := 162) (j_icmp_eq dX2_takeSizes_150) (fun q => absurd ((nI_eq (a := (ndf 10 w)) (b := 6) (by omega) (by omega)).mp q) (by omega)) (by decide) (mpp 153 rfl ?_)
              refine mp_a (a_aload_n dX2_takeSizes_153 rfl) (mpp 154 rfl ?_)
              refine mp_get (i := 26) (v := .int (nI (ndf 10 w))) dX2_takeSizes_154 rfl hQ2 rfl (mpp 157 rfl ?_)
              refine mp_a (a_bipush (v := 8) dX2_takeSizes_157 rfl) (mpp 159 rfl ?_)
              refine mp_Tf (t := 175) (j_icmp_ne dX2_takeSizes_159) (fun q => q (((nI_eq (a := (ndf 10 w)) (b := 8) (by omega) (by omega)).mpr (by omega)))) (by decide) (mpp 162 rfl ?_)
              refine mp_a (a_aload_n dX2_takeSizes_162 rfl) (mpp 163 rfl ?_)
              refine mp_callv (i := 33) (q' := q_23) (As := []) (rest := []) dX2_takeSizes_163 rfl qm_23 (by decide) rfl hQ2 (by decide) (Nat.le_of_ble_eq_true rfl) rfl ⟨rfl, rfl⟩ ⟨Nat.le_of_ble_eq_true rfl, Nat.le_of_ble_eq_true rfl⟩ (EvP.mono (by decide) (x_sum (A := wr (ndf 10 w) w A8) (by omega) ((wr_len _ _ _).trans rfl) hQ2 hR2)) (fun r1 P1 g1 => mpp 166 rfl ?_)
              obtain ⟨rfl, rfl⟩ := g1
              show MEvP _ none q_21 166 [(4, .int z4b), (3, .int z3b), (0, .ref 298), (1, .int 1), (2, .int (nI w))] [.int (sm (wr (ndf 10 w) w A8) (ndf 10 w))] _ _ _ _
              refine mp_a (a_bipush (v := 24) dX2_takeSizes_166 rfl) (mpp 168 rfl ?_)
              refine mp_Tf (t := 175) (j_icmp_ne dX2_takeSizes_168) (fun q => q h24) (by decide) (mpp 171 rfl ?_)
              refine mp_a (a_iconst (v := 1) dX2_takeSizes_171 rfl) (mpp 172 rfl ?_)
              refine mp_a (a_goto (t := 176) dX2_takeSizes_172 (by decide)) ?_
              exact mp_iret (⟨fun t h1 h2 => (hf2 t h2).trans ((hf t h1).trans (by repeat rw [List.getElem?_set_ne (Ne.symm h1)])), Or.inl ⟨rfl, hs, by omega, hQ2, _, hR2, (wr_len _ _ _).trans rfl⟩⟩) dX2_takeSizes_176 (Or.inr ⟨rfl, by decide⟩)
            · have hs : szok 1 w = false := by
                simp [szok, h24]
              refine mp_a (a_aload_n dX2_takeSizes_106 rfl) (mpp 107 rfl ?_)
              refine mp_get (i := 18) (v := .int 1) dX2_takeSizes_107 rfl hQ2 rfl (mpp 110 rfl ?_)
              refine mp_Tt (t := 136) (j_if_ne dX2_takeSizes_110) (by decide) (by decide) ?_
              refine mp_a (a_aload_n dX2_takeSizes_136 rfl) (mpp 137 rfl ?_)
              refine mp_get (i := 26) (v := .int (nI (ndf 10 w))) dX2_takeSizes_137 rfl hQ2 rfl (mpp 140 rfl ?_)
              refine mp_a (a_iconst (v := 4) dX2_takeSizes_140 rfl) (mpp 141 rfl ?_)
              refine mp_Tf (t := 162) (j_icmp_eq dX2_takeSizes_141) (fun q => absurd ((nI_eq (a := (ndf 10 w)) (b := 4) (by omega) (by omega)).mp q) (by omega)) (by decide) (mpp 144 rfl ?_)
              refine mp_a (a_aload_n dX2_takeSizes_144 rfl) (mpp 145 rfl ?_)
              refine mp_get (i := 26) (v := .int (nI (ndf 10 w))) dX2_takeSizes_145 rfl hQ2 rfl (mpp 148 rfl ?_)
              refine mp_a (a_bipush (v := 6) dX2_takeSizes_148 rfl) (mpp 150 rfl ?_)
              refine mp_Tf (t := 162) (j_icmp_eq dX2_takeSizes_150) (fun q => absurd ((nI_eq (a := (ndf 10 w)) (b := 6) (by omega) (by omega)).mp q) (by omega)) (by decide) (mpp 153 rfl ?_)
              refine mp_a (a_aload_n dX2_takeSizes_153 rfl) (mpp 154 rfl ?_)
              refine mp_get (i := 26) (v := .int (nI (ndf 10 w))) dX2_takeSizes_154 rfl hQ2 rfl (mpp 157 rfl ?_)
              refine mp_a (a_bipush (v := 8) dX2_takeSizes_157 rfl) (mpp 159 rfl ?_)
              refine mp_Tf (t := 175) (j_icmp_ne dX2_takeSizes_159) (fun q => q (((nI_eq (a := (ndf 10 w)) (b := 8) (by omega) (by omega)).mpr (by omega)))) (by decide) (mpp 162 rfl ?_)
              refine mp_a (a_aload_n dX2_takeSizes_162 rfl) (mpp 163 rfl ?_)
              refine mp_callv (i := 33) (q' := q_23) (As := []) (rest := []) dX2_takeSizes_163 rfl qm_23 (by decide) rfl hQ2 (by decide) (Nat.le_of_ble_eq_true rfl) rfl ⟨rfl, rfl⟩ ⟨Nat.le_of_ble_eq_true rfl, Nat.le_of_ble_eq_true rfl⟩ (EvP.mono (by decide) (x_sum (A := wr (ndf 10 w) w A8) (by omega) ((wr_len _ _ _).trans rfl) hQ2 hR2)) (fun r1 P1 g1 => mpp 166 rfl ?_)
              obtain ⟨rfl, rfl⟩ := g1
              show MEvP _ none q_21 166 [(4, .int z4b), (3, .int z3b), (0, .ref 298), (1, .int 1), (2, .int (nI w))] [.int (sm (wr (ndf 10 w) w A8) (ndf 10 w))] _ _ _ _
              refine mp_a (a_bipush (v := 24) dX2_takeSizes_166 rfl) (mpp 168 rfl ?_)
              refine mp_Tt (t := 175) (j_icmp_ne dX2_takeSizes_168) h24 (by decide) ?_
              refine mp_a (a_iconst (v := 0) dX2_takeSizes_175 rfl) (mpp 176 rfl ?_)
              exact mp_iret (⟨fun t h1 h2 => (hf2 t h2).trans ((hf t h1).trans (by repeat rw [List.getElem?_set_ne (Ne.symm h1)])), Or.inr ⟨rfl, hs⟩⟩) dX2_takeSizes_176 (Or.inr ⟨rfl, by decide⟩)
          · have hs : szok 1 w = false := by
              simp [szok, h4, h6, h8]
            refine mp_a (a_aload_n dX2_takeSizes_106 rfl) (mpp 107 rfl ?_)
            refine mp_get (i := 18) (v := .int 1) dX2_takeSizes_107 rfl hQ2 rfl (mpp 110 rfl ?_)
            refine mp_Tt (t := 136) (j_if_ne dX2_takeSizes_110) (by decide) (by decide) ?_
            refine mp_a (a_aload_n dX2_takeSizes_136 rfl) (mpp 137 rfl ?_)
            refine mp_get (i := 26) (v := .int (nI (ndf 10 w))) dX2_takeSizes_137 rfl hQ2 rfl (mpp 140 rfl ?_)
            refine mp_a (a_iconst (v := 4) dX2_takeSizes_140 rfl) (mpp 141 rfl ?_)
            refine mp_Tf (t := 162) (j_icmp_eq dX2_takeSizes_141) (fun q => absurd ((nI_eq (a := (ndf 10 w)) (b := 4) (by omega) (by omega)).mp q) (by omega)) (by decide) (mpp 144 rfl ?_)
            refine mp_a (a_aload_n dX2_takeSizes_144 rfl) (mpp 145 rfl ?_)
            refine mp_get (i := 26) (v := .int (nI (ndf 10 w))) dX2_takeSizes_145 rfl hQ2 rfl (mpp 148 rfl ?_)
            refine mp_a (a_bipush (v := 6) dX2_takeSizes_148 rfl) (mpp 150 rfl ?_)
            refine mp_Tf (t := 162) (j_icmp_eq dX2_takeSizes_150) (fun q => absurd ((nI_eq (a := (ndf 10 w)) (b := 6) (by omega) (by omega)).mp q) (by omega)) (by decide) (mpp 153 rfl ?_)
            refine mp_a (a_aload_n dX2_takeSizes_153 rfl) (mpp 154 rfl ?_)
            refine mp_get (i := 26) (v := .int (nI (ndf 10 w))) dX2_takeSizes_154 rfl hQ2 rfl (mpp 157 rfl ?_)
            refine mp_a (a_bipush (v := 8) dX2_takeSizes_157 rfl) (mpp 159 rfl ?_)
            refine mp_Tt (t := 175) (j_icmp_ne dX2_takeSizes_159) (fun q => absurd ((nI_eq (a := (ndf 10 w)) (b := 8) (by omega) (by omega)).mp q) (by omega)) (by decide) ?_
            refine mp_a (a_iconst (v := 0) dX2_takeSizes_175 rfl) (mpp 176 rfl ?_)
            exact mp_iret (⟨fun t h1 h2 => (hf2 t h2).trans ((hf t h1).trans (by repeat rw [List.getElem?_set_ne (Ne.symm h1)])), Or.inr ⟨rfl, hs⟩⟩) dX2_takeSizes_176 (Or.inr ⟨rfl, by decide⟩)
    · have hs : szok 1 w = false := by simp [szok, ho]
      exact ⟨fun t h1 h2 => (hf2 t h2).trans ((hf t h1).trans (by repeat rw [List.getElem?_set_ne (Ne.symm h1)])), Or.inr ⟨rfl, hs⟩⟩
  · have hs : szok 1 w = false := by
      have : ¬ ndf 10 w ≤ 8 := by omega
      simp [szok, this]
    refine mp_a (a_iload_n dX2_takeSizes_52 rfl) (mpp 53 rfl ?_)
    refine mp_Tf (t := 58) (j_if_eq dX2_takeSizes_53) (fun q => absurd ((nI_eq (a := w') (b := 0) (by omega) (by omega)).mp q) (by omega)) (by decide) (mpp 56 rfl ?_)
    refine mp_a (a_iconst (v := 0) dX2_takeSizes_56 rfl) (mpp 57 rfl ?_)
    exact mp_iret (⟨fun t h1 h2 => (hf t h1).trans (by repeat rw [List.getElem?_set_ne (Ne.symm h1)]), Or.inr ⟨rfl, hs⟩⟩) dX2_takeSizes_57 (Or.inr ⟨rfl, by decide⟩)

set_option maxRecDepth 100000 in
set_option maxHeartbeats 4000000 in
theorem x_takeSizesN1 {P : mP} {nz : Int32} (hn : nz < 0) (hl : nz ≤ 0) (hz : ¬ nz = 0) (h298 : P[298]? = some (2, [.int 0, .int 0, .int 0, .ref 299, .ref 300])) : EvP 6 21 [.ref 298, .int 1, .int nz] P (fun r P' => r = some (.int 0) ∧ ∀ t : Nat, t ≠ 298 → P'[t]? = P[t]?) := by
  refine EvP.of qm_21 (Nat.le_of_ble_eq_true rfl) rfl ?_
  show MEvP _ none q_21 0 [(0, .ref 298), (1, .int 1), (2, .int nz)] [] _ 0 0 _
  refine mp_a (a_aload_n dX2_takeSizes_0 rfl) (mpp 1 rfl ?_)
  refine mp_a (a_iload_n dX2_takeSizes_1 rfl) (mpp 2 rfl ?_)
  refine mp_put (i := 18) dX2_takeSizes_2 rfl h298 (Nat.le_of_ble_eq_true rfl) rfl (Or.inl rfl) (mpp 5 rfl ?_)
  refine mp_a (a_aload_n dX2_takeSizes_5 rfl) (mpp 6 rfl ?_)
  refine mp_a (a_iconst (v := 0) dX2_takeSizes_6 rfl) (mpp 7 rfl ?_)
  refine mp_put (i := 22) dX2_takeSizes_7 rfl (mset_eq h298) (Nat.le_of_ble_eq_true rfl) rfl (Or.inl rfl) (mpp 10 rfl ?_)
  refine mp_a (a_aload_n dX2_takeSizes_10 rfl) (mpp 11 rfl ?_)
  refine mp_a (a_iconst (v := 0) dX2_takeSizes_11 rfl) (mpp 12 rfl ?_)
  refine mp_put (i := 26) dX2_takeSizes_12 rfl (mset_eq (mset_eq h298)) (Nat.le_of_ble_eq_true rfl) rfl (Or.inl rfl) (mpp 15 rfl ?_)
  refine mp_a (a_iload_n dX2_takeSizes_15 rfl) (mpp 16 rfl ?_)
  refine mp_a (a_istore_n (L' := [(3, .int nz), (0, .ref 298), (1, .int 1), (2, .int nz)]) dX2_takeSizes_16 (by decide) rfl) (mpp 17 rfl ?_)
  refine mp_a (a_iconst (v := 0) dX2_takeSizes_17 rfl) (mpp 18 rfl ?_)
  refine mp_a (a_istore (L' := [(4, .int 0), (3, .int nz), (0, .ref 298), (1, .int 1), (2, .int nz)]) dX2_takeSizes_18 (by decide) rfl) (mpp 20 rfl ?_)
  refine mp_a (a_iload dX2_takeSizes_20 rfl) (mpp 22 rfl ?_)
  refine mp_a (a_bipush (v := 8) dX2_takeSizes_22 rfl) (mpp 24 rfl ?_)
  refine mp_Tf (t := 52) (j_icmp_ge dX2_takeSizes_24) (by decide) (by decide) (mpp 27 rfl ?_)
  refine mp_a (a_iload_n dX2_takeSizes_27 rfl) (mpp 28 rfl ?_)
  refine mp_Tt (t := 52) (j_if_le dX2_takeSizes_28) hl (by decide) ?_
  refine mp_a (a_iload_n dX2_takeSizes_52 rfl) (mpp 53 rfl ?_)
  refine mp_Tf (t := 58) (j_if_eq dX2_takeSizes_53) hz (by decide) (mpp 56 rfl ?_)
  refine mp_a (a_iconst (v := 0) dX2_takeSizes_56 rfl) (mpp 57 rfl ?_)
  exact mp_iret (⟨rfl, fun t h1 => by repeat rw [List.getElem?_set_ne (Ne.symm h1)]⟩) dX2_takeSizes_57 (Or.inr ⟨rfl, by decide⟩)
