set_option maxRecDepth 100000 in
set_option maxHeartbeats 4000000 in
theorem m_adds0_loop {n : Nat} {B C : List Value} (hn8 : n ≤ 8) (hB : B.length = 8) (hC : C.length = 8) : ∀ (m k : Nat) (A : List Value) (Q : mP), k + m = 8 → A.length = 155 → MODE Q → Q[302]? = some (8, A) → Q[306]? = some (8, B) → Q[307]? = some (8, C) → MEvP 4 none q_133 72 [(4, .int (nI k)), (3, .int 0), (0, .ref 301), (1, .int 0), (2, .int (nI n))] [] Q 0 0 (fun r P' => r = some (.int 0) ∧ MODE P') := by
  intro m
  induction m with
  | zero =>
    intro k A Q hk hA hM h2 h6 h7
    have h1 := hM.1
    have hk : k = 8 := by omega
    subst hk
    refine mp_a (a_iload dX7_adds_72 rfl) (mpp 74 rfl ?_)
    refine mp_a (a_bipush (v := 8) dX7_adds_74 rfl) (mpp 76 rfl ?_)
    refine mp_Tt (t := 150) (j_icmp_ge dX7_adds_76) (by decide) (by decide) ?_
    refine mp_a (a_iload_n dX7_adds_150 rfl) (mpp 151 rfl ?_)
    exact mp_iret (⟨rfl, hM⟩) dX7_adds_151 (Or.inl rfl)
  | succ m ih =>
    intro k A Q hk hA hM h2 h6 h7
    have h1 := hM.1
    by_cases hkn : k < n
    · have hkn' := hkn
      refine mp_a (a_iload dX7_adds_72 rfl) (mpp 74 rfl ?_)
      refine mp_a (a_bipush (v := 8) dX7_adds_74 rfl) (mpp 76 rfl ?_)
      refine mp_Tf (t := 150) (j_icmp_ge dX7_adds_76) (fun q => absurd ((nI_leI (a := 8) (b := k) (by omega) (by omega)).mp q) (by omega)) (by decide) (mpp 79 rfl ?_)
      refine mp_a (a_aload_n dX7_adds_79 rfl) (mpp 80 rfl ?_)
      refine mp_get (i := 9) (v := .ref 302) dX7_adds_80 rfl h1 rfl (mpp 83 rfl ?_)
      refine mp_a (a_iload_n dX7_adds_83 rfl) (mpp 84 rfl ?_)
      refine mp_a (a_iconst (v := 3) dX7_adds_84 rfl) (mpp 85 rfl ?_)
      refine mp_a (a_iload dX7_adds_85 rfl) (mpp 87 rfl ?_)
      refine mp_t (s_iadd (v := (nI (3 + k))) dX7_adds_87 (nI_add 3 (k))) (mpp 88 rfl ?_)
      refine mp_calls (i := 74) (q' := q_135) (As := [.int 0, .int (nI (3 + k))]) (rest := [.ref 302]) dX7_adds_88 rfl qm_135 (by decide) rfl (Nat.le_of_ble_eq_true rfl) rfl ⟨rfl, rfl⟩ ⟨Nat.le_of_ble_eq_true rfl, Nat.le_of_ble_eq_true rfl⟩ (EvP.mono (by decide) m_at0) (fun r1 P1 g1 => mpp 91 rfl ?_)
      obtain ⟨rfl, rfl⟩ := g1
      show MEvP _ none q_133 91 [(4, .int (nI k)), (3, .int 0), (0, .ref 301), (1, .int 0), (2, .int (nI n))] [.int (nI (3 + ((3 + k)))), .ref 302] _ _ _ _
      refine mp_a (a_iload dX7_adds_91 rfl) (mpp 93 rfl ?_)
      refine mp_a (a_iload_n dX7_adds_93 rfl) (mpp 94 rfl ?_)
      refine mp_Tf (t := 107) (j_icmp_ge dX7_adds_94) (fun q => absurd ((nI_leI (a := n) (b := k) (by omega) (by omega)).mp q) (by omega)) (by decide) (mpp 97 rfl ?_)
      refine mp_a (a_aload_n dX7_adds_97 rfl) (mpp 98 rfl ?_)
      refine mp_get (i := 22) (v := .ref 306) dX7_adds_98 rfl h1 rfl (mpp 101 rfl ?_)
      refine mp_a (a_iload dX7_adds_101 rfl) (mpp 103 rfl ?_)
      refine mp_ial (N := 8) (v := (mint (B.getD (k) .null))) dX7_adds_103 h6 hB (i_in (by omega) (by decide)) (by rw [nI_clamp (by omega)]) (mpp 104 rfl ?_)
      refine mp_a (a_goto (t := 108) dX7_adds_104 (by decide)) ?_
      refine mp_ias (N := 155) dX7_adds_108 h2 hA (i_in (by omega) (by decide)) (mpp 109 rfl ?_)
      rw [show (nI (3 + ((3 + k)))).toNatClampNeg = 3 + ((3 + k)) from nI_clamp (by omega)]
      refine mp_a (a_aload_n dX7_adds_109 rfl) (mpp 110 rfl ?_)
      refine mp_get (i := 9) (v := .ref 302) dX7_adds_110 rfl (mset_ne h1 (by decide)) rfl (mpp 113 rfl ?_)
      refine mp_a (a_iload_n dX7_adds_113 rfl) (mpp 114 rfl ?_)
      refine mp_a (a_bipush (v := 11) dX7_adds_114 rfl) (mpp 116 rfl ?_)
      refine mp_a (a_iload dX7_adds_116 rfl) (mpp 118 rfl ?_)
      refine mp_t (s_iadd (v := (nI (11 + k))) dX7_adds_118 (nI_add 11 (k))) (mpp 119 rfl ?_)
      refine mp_calls (i := 74) (q' := q_135) (As := [.int 0, .int (nI (11 + k))]) (rest := [.ref 302]) dX7_adds_119 rfl qm_135 (by decide) rfl (Nat.le_of_ble_eq_true rfl) rfl ⟨rfl, rfl⟩ ⟨Nat.le_of_ble_eq_true rfl, Nat.le_of_ble_eq_true rfl⟩ (EvP.mono (by decide) m_at0) (fun r1 P1 g2 => mpp 122 rfl ?_)
      obtain ⟨rfl, rfl⟩ := g2
      show MEvP _ none q_133 122 [(4, .int (nI k)), (3, .int 0), (0, .ref 301), (1, .int 0), (2, .int (nI n))] [.int (nI (3 + ((11 + k)))), .ref 302] _ _ _ _
      refine mp_a (a_iload dX7_adds_122 rfl) (mpp 124 rfl ?_)
      refine mp_a (a_aload_n dX7_adds_124 rfl) (mpp 125 rfl ?_)
      refine mp_a (a_iload_n dX7_adds_125 rfl) (mpp 126 rfl ?_)
      refine mp_callv (i := 88) (q' := q_136) (As := [.int 0]) (rest := [.int (nI k), .int (nI (3 + ((11 + k)))), .ref 302]) dX7_adds_126 rfl qm_136 (by decide) rfl (mset_ne h1 (by decide)) (by decide) (Nat.le_of_ble_eq_true rfl) rfl ⟨rfl, rfl⟩ ⟨Nat.le_of_ble_eq_true rfl, Nat.le_of_ble_eq_true rfl⟩ (EvP.mono (by decide) (m_creasesU (mset_ne h1 (by decide)) (mset_eq h2) (List.length_set.trans hA))) (fun r1 P1 g3 => mpp 129 rfl ?_)
      obtain ⟨c, rfl, rfl⟩ := g3
      show MEvP _ none q_133 129 [(4, .int (nI k)), (3, .int 0), (0, .ref 301), (1, .int 0), (2, .int (nI n))] [.int c, .int (nI k), .int (nI (3 + ((11 + k)))), .ref 302] _ _ _ _
      refine mp_Tb (t := 142) (j_icmp_ge dX7_adds_129) (by decide) (fun c4 => ?_) (fun c4 => mpp 132 rfl ?_)
      · refine mp_a (a_iconst (v := 0) dX7_adds_142 rfl) (mpp 143 rfl ?_)
        refine mp_ias (N := 155) dX7_adds_143 (mset_eq h2) (List.length_set.trans hA) (i_in (by omega) (by decide)) (mpp 144 rfl ?_)
        rw [show (nI (3 + ((11 + k)))).toNatClampNeg = 3 + ((11 + k)) from nI_clamp (by omega)]
        refine mp_a (a_iinc (v := (nI (k + 1))) (L' := [(4, .int (nI (k + 1))), (3, .int 0), (0, .ref 301), (1, .int 0), (2, .int (nI n))]) dX7_adds_144 (by decide) rfl (nI_1 (k)) rfl) (mpp 147 rfl ?_)
        refine mp_a (a_goto (t := 72) dX7_adds_147 (by decide)) ?_
        exact ih (k + 1) _ _ (by omega) (List.length_set.trans (List.length_set.trans hA)) ((hM.set (by decide) (by decide) (by decide)).set (by decide) (by decide) (by decide)) (mset_eq (mset_eq h2)) (mset_ne (mset_ne h6 (by decide)) (by decide)) (mset_ne (mset_ne h7 (by decide)) (by decide))
      · refine mp_a (a_aload_n dX7_adds_132 rfl) (mpp 133 rfl ?_)
        refine mp_get (i := 25) (v := .ref 307) dX7_adds_133 rfl (mset_ne h1 (by decide)) rfl (mpp 136 rfl ?_)
        refine mp_a (a_iload dX7_adds_136 rfl) (mpp 138 rfl ?_)
        refine mp_ial (N := 8) (v := (mint (C.getD (k) .null))) dX7_adds_138 (mset_ne h7 (by decide)) hC (i_in (by omega) (by decide)) (by rw [nI_clamp (by omega)]) (mpp 139 rfl ?_)
        refine mp_a (a_goto (t := 143) dX7_adds_139 (by decide)) ?_
        refine mp_ias (N := 155) dX7_adds_143 (mset_eq h2) (List.length_set.trans hA) (i_in (by omega) (by decide)) (mpp 144 rfl ?_)
        rw [show (nI (3 + ((11 + k)))).toNatClampNeg = 3 + ((11 + k)) from nI_clamp (by omega)]
        refine mp_a (a_iinc (v := (nI (k + 1))) (L' := [(4, .int (nI (k + 1))), (3, .int 0), (0, .ref 301), (1, .int 0), (2, .int (nI n))]) dX7_adds_144 (by decide) rfl (nI_1 (k)) rfl) (mpp 147 rfl ?_)
        refine mp_a (a_goto (t := 72) dX7_adds_147 (by decide)) ?_
        exact ih (k + 1) _ _ (by omega) (List.length_set.trans (List.length_set.trans hA)) ((hM.set (by decide) (by decide) (by decide)).set (by decide) (by decide) (by decide)) (mset_eq (mset_eq h2)) (mset_ne (mset_ne h6 (by decide)) (by decide)) (mset_ne (mset_ne h7 (by decide)) (by decide))
    · have hkn' := hkn
      refine mp_a (a_iload dX7_adds_72 rfl) (mpp 74 rfl ?_)
      refine mp_a (a_bipush (v := 8) dX7_adds_74 rfl) (mpp 76 rfl ?_)
      refine mp_Tf (t := 150) (j_icmp_ge dX7_adds_76) (fun q => absurd ((nI_leI (a := 8) (b := k) (by omega) (by omega)).mp q) (by omega)) (by decide) (mpp 79 rfl ?_)
      refine mp_a (a_aload_n dX7_adds_79 rfl) (mpp 80 rfl ?_)
      refine mp_get (i := 9) (v := .ref 302) dX7_adds_80 rfl h1 rfl (mpp 83 rfl ?_)
      refine mp_a (a_iload_n dX7_adds_83 rfl) (mpp 84 rfl ?_)
      refine mp_a (a_iconst (v := 3) dX7_adds_84 rfl) (mpp 85 rfl ?_)
      refine mp_a (a_iload dX7_adds_85 rfl) (mpp 87 rfl ?_)
      refine mp_t (s_iadd (v := (nI (3 + k))) dX7_adds_87 (nI_add 3 (k))) (mpp 88 rfl ?_)
      refine mp_calls (i := 74) (q' := q_135) (As := [.int 0, .int (nI (3 + k))]) (rest := [.ref 302]) dX7_adds_88 rfl qm_135 (by decide) rfl (Nat.le_of_ble_eq_true rfl) rfl ⟨rfl, rfl⟩ ⟨Nat.le_of_ble_eq_true rfl, Nat.le_of_ble_eq_true rfl⟩ (EvP.mono (by decide) m_at0) (fun r1 P1 g1 => mpp 91 rfl ?_)
      obtain ⟨rfl, rfl⟩ := g1
      show MEvP _ none q_133 91 [(4, .int (nI k)), (3, .int 0), (0, .ref 301), (1, .int 0), (2, .int (nI n))] [.int (nI (3 + ((3 + k)))), .ref 302] _ _ _ _
      refine mp_a (a_iload dX7_adds_91 rfl) (mpp 93 rfl ?_)
      refine mp_a (a_iload_n dX7_adds_93 rfl) (mpp 94 rfl ?_)
      refine mp_Tt (t := 107) (j_icmp_ge dX7_adds_94) (((nI_leI (a := n) (b := k) (by omega) (by omega)).mpr (by omega))) (by decide) ?_
      refine mp_a (a_iconst (v := 0) dX7_adds_107 rfl) (mpp 108 rfl ?_)
      refine mp_ias (N := 155) dX7_adds_108 h2 hA (i_in (by omega) (by decide)) (mpp 109 rfl ?_)
      rw [show (nI (3 + ((3 + k)))).toNatClampNeg = 3 + ((3 + k)) from nI_clamp (by omega)]
      refine mp_a (a_aload_n dX7_adds_109 rfl) (mpp 110 rfl ?_)
      refine mp_get (i := 9) (v := .ref 302) dX7_adds_110 rfl (mset_ne h1 (by decide)) rfl (mpp 113 rfl ?_)
      refine mp_a (a_iload_n dX7_adds_113 rfl) (mpp 114 rfl ?_)
      refine mp_a (a_bipush (v := 11) dX7_adds_114 rfl) (mpp 116 rfl ?_)
      refine mp_a (a_iload dX7_adds_116 rfl) (mpp 118 rfl ?_)
      refine mp_t (s_iadd (v := (nI (11 + k))) dX7_adds_118 (nI_add 11 (k))) (mpp 119 rfl ?_)
      refine mp_calls (i := 74) (q' := q_135) (As := [.int 0, .int (nI (11 + k))]) (rest := [.ref 302]) dX7_adds_119 rfl qm_135 (by decide) rfl (Nat.le_of_ble_eq_true rfl) rfl ⟨rfl, rfl⟩ ⟨Nat.le_of_ble_eq_true rfl, Nat.le_of_ble_eq_true rfl⟩ (EvP.mono (by decide) m_at0) (fun r1 P1 g2 => mpp 122 rfl ?_)
      obtain ⟨rfl, rfl⟩ := g2
      show MEvP _ none q_133 122 [(4, .int (nI k)), (3, .int 0), (0, .ref 301), (1, .int 0), (2, .int (nI n))] [.int (nI (3 + ((11 + k)))), .ref 302] _ _ _ _
      refine mp_a (a_iload dX7_adds_122 rfl) (mpp 124 rfl ?_)
      refine mp_a (a_aload_n dX7_adds_124 rfl) (mpp 125 rfl ?_)
      refine mp_a (a_iload_n dX7_adds_125 rfl) (mpp 126 rfl ?_)
      refine mp_callv (i := 88) (q' := q_136) (As := [.int 0]) (rest := [.int (nI k), .int (nI (3 + ((11 + k)))), .ref 302]) dX7_adds_126 rfl qm_136 (by decide) rfl (mset_ne h1 (by decide)) (by decide) (Nat.le_of_ble_eq_true rfl) rfl ⟨rfl, rfl⟩ ⟨Nat.le_of_ble_eq_true rfl, Nat.le_of_ble_eq_true rfl⟩ (EvP.mono (by decide) (m_creasesU (mset_ne h1 (by decide)) (mset_eq h2) (List.length_set.trans hA))) (fun r1 P1 g3 => mpp 129 rfl ?_)
      obtain ⟨c, rfl, rfl⟩ := g3
      show MEvP _ none q_133 129 [(4, .int (nI k)), (3, .int 0), (0, .ref 301), (1, .int 0), (2, .int (nI n))] [.int c, .int (nI k), .int (nI (3 + ((11 + k)))), .ref 302] _ _ _ _
      refine mp_Tb (t := 142) (j_icmp_ge dX7_adds_129) (by decide) (fun c4 => ?_) (fun c4 => mpp 132 rfl ?_)
      · refine mp_a (a_iconst (v := 0) dX7_adds_142 rfl) (mpp 143 rfl ?_)
        refine mp_ias (N := 155) dX7_adds_143 (mset_eq h2) (List.length_set.trans hA) (i_in (by omega) (by decide)) (mpp 144 rfl ?_)
        rw [show (nI (3 + ((11 + k)))).toNatClampNeg = 3 + ((11 + k)) from nI_clamp (by omega)]
        refine mp_a (a_iinc (v := (nI (k + 1))) (L' := [(4, .int (nI (k + 1))), (3, .int 0), (0, .ref 301), (1, .int 0), (2, .int (nI n))]) dX7_adds_144 (by decide) rfl (nI_1 (k)) rfl) (mpp 147 rfl ?_)
        refine mp_a (a_goto (t := 72) dX7_adds_147 (by decide)) ?_
        exact ih (k + 1) _ _ (by omega) (List.length_set.trans (List.length_set.trans hA)) ((hM.set (by decide) (by decide) (by decide)).set (by decide) (by decide) (by decide)) (mset_eq (mset_eq h2)) (mset_ne (mset_ne h6 (by decide)) (by decide)) (mset_ne (mset_ne h7 (by decide)) (by decide))
      · refine mp_a (a_aload_n dX7_adds_132 rfl) (mpp 133 rfl ?_)
        refine mp_get (i := 25) (v := .ref 307) dX7_adds_133 rfl (mset_ne h1 (by decide)) rfl (mpp 136 rfl ?_)
        refine mp_a (a_iload dX7_adds_136 rfl) (mpp 138 rfl ?_)
        refine mp_ial (N := 8) (v := (mint (C.getD (k) .null))) dX7_adds_138 (mset_ne h7 (by decide)) hC (i_in (by omega) (by decide)) (by rw [nI_clamp (by omega)]) (mpp 139 rfl ?_)
        refine mp_a (a_goto (t := 143) dX7_adds_139 (by decide)) ?_
        refine mp_ias (N := 155) dX7_adds_143 (mset_eq h2) (List.length_set.trans hA) (i_in (by omega) (by decide)) (mpp 144 rfl ?_)
        rw [show (nI (3 + ((11 + k)))).toNatClampNeg = 3 + ((11 + k)) from nI_clamp (by omega)]
        refine mp_a (a_iinc (v := (nI (k + 1))) (L' := [(4, .int (nI (k + 1))), (3, .int 0), (0, .ref 301), (1, .int 0), (2, .int (nI n))]) dX7_adds_144 (by decide) rfl (nI_1 (k)) rfl) (mpp 147 rfl ?_)
        refine mp_a (a_goto (t := 72) dX7_adds_147 (by decide)) ?_
        exact ih (k + 1) _ _ (by omega) (List.length_set.trans (List.length_set.trans hA)) ((hM.set (by decide) (by decide) (by decide)).set (by decide) (by decide) (by decide)) (mset_eq (mset_eq h2)) (mset_ne (mset_ne h6 (by decide)) (by decide)) (mset_ne (mset_ne h7 (by decide)) (by decide))

set_option maxRecDepth 100000 in
set_option maxHeartbeats 4000000 in
theorem m_at_0_2 {P : mP}  : EvP 1 135 [.int 0, .int 2] P (fun r P' => r = some (.int 5) ∧ P' = P) := by
  refine EvP.of qm_135 (Nat.le_of_ble_eq_true rfl) rfl ?_
  show MEvP _ none q_135 0 [(0, .int 0), (1, .int 2)] [] _ 0 0 _
  refine mp_a (a_iconst (v := 3) dX7_at_0 rfl) (mpp 1 rfl ?_)
  refine mp_a (a_bipush (v := 19) dX7_at_1 rfl) (mpp 3 rfl ?_)
  refine mp_a (a_iload_n dX7_at_3 rfl) (mpp 4 rfl ?_)
  refine mp_t (s_imul (v := 0) dX7_at_4 rfl) (mpp 5 rfl ?_)
  refine mp_t (s_iadd (v := 3) dX7_at_5 rfl) (mpp 6 rfl ?_)
  refine mp_a (a_iload_n dX7_at_6 rfl) (mpp 7 rfl ?_)
  refine mp_t (s_iadd (v := 5) dX7_at_7 rfl) (mpp 8 rfl ?_)
  exact mp_iret (⟨rfl, rfl⟩) dX7_at_8 (Or.inl rfl)

set_option maxRecDepth 100000 in
set_option maxHeartbeats 4000000 in
theorem m_adds0 {P : mP} {n : Nat} {B C : List Value} (hn8 : n ≤ 8) (hM : MODE P) (h302 : P[302]? = some (8, (List.replicate 155 (.int 0)).set 1 (.int 30))) (h306 : P[306]? = some (8, B)) (hB : B.length = 8) (h307 : P[307]? = some (8, C)) (hC : C.length = 8) : EvP 5 133 [.ref 301, .int 0, .int (nI n)] P (fun r P' => r = some (.int 0) ∧ MODE P') := by
  have h301 := hM.1
  refine EvP.of qm_133 (Nat.le_of_ble_eq_true rfl) rfl ?_
  show MEvP _ none q_133 0 [(0, .ref 301), (1, .int 0), (2, .int (nI n))] [] _ 0 0 _
  refine mp_a (a_aload_n dX7_adds_0 rfl) (mpp 1 rfl ?_)
  refine mp_get (i := 9) (v := .ref 302) dX7_adds_1 rfl h301 rfl (mpp 4 rfl ?_)
  refine mp_a (a_iconst (v := 0) dX7_adds_4 rfl) (mpp 5 rfl ?_)
  refine mp_ial (N := 155) (v := 0) dX7_adds_5 h302 rfl (by decide) rfl (mpp 6 rfl ?_)
  refine mp_a (a_bipush (v := 8) dX7_adds_6 rfl) (mpp 8 rfl ?_)
  refine mp_Tt (t := 19) (j_icmp_ne dX7_adds_8) (by decide) (by decide) ?_
  refine mp_a (a_aload_n dX7_adds_19 rfl) (mpp 20 rfl ?_)
  refine mp_get (i := 9) (v := .ref 302) dX7_adds_20 rfl h301 rfl (mpp 23 rfl ?_)
  refine mp_a (a_iconst (v := 0) dX7_adds_23 rfl) (mpp 24 rfl ?_)
  refine mp_ial (N := 155) (v := 0) dX7_adds_24 h302 rfl (by decide) rfl (mpp 25 rfl ?_)
  refine mp_a (a_istore_n (L' := [(3, .int 0), (0, .ref 301), (1, .int 0), (2, .int (nI n))]) dX7_adds_25 (by decide) rfl) (mpp 26 rfl ?_)
  refine mp_a (a_aload_n dX7_adds_26 rfl) (mpp 27 rfl ?_)
  refine mp_get (i := 9) (v := .ref 302) dX7_adds_27 rfl h301 rfl (mpp 30 rfl ?_)
  refine mp_a (a_iconst (v := 0) dX7_adds_30 rfl) (mpp 31 rfl ?_)
  refine mp_t (s_dup2 dX7_adds_31 ⟨rfl, rfl⟩) (mpp 32 rfl ?_)
  refine mp_ial (N := 155) (v := 0) dX7_adds_32 h302 rfl (by decide) rfl (mpp 33 rfl ?_)
  refine mp_a (a_iconst (v := 1) dX7_adds_33 rfl) (mpp 34 rfl ?_)
  refine mp_t (s_iadd (v := 1) dX7_adds_34 rfl) (mpp 35 rfl ?_)
  refine mp_ias (N := 155) dX7_adds_35 h302 rfl (by decide) (mpp 36 rfl ?_)
  refine mp_a (a_aload_n dX7_adds_36 rfl) (mpp 37 rfl ?_)
  refine mp_get (i := 9) (v := .ref 302) dX7_adds_37 rfl (mset_ne h301 (by decide)) rfl (mpp 40 rfl ?_)
  refine mp_a (a_iload_n dX7_adds_40 rfl) (mpp 41 rfl ?_)
  refine mp_a (a_iconst (v := 0) dX7_adds_41 rfl) (mpp 42 rfl ?_)
  refine mp_calls (i := 74) (q' := q_135) (As := [.int 0, .int 0]) (rest := [.ref 302]) dX7_adds_42 rfl qm_135 (by decide) rfl (Nat.le_of_ble_eq_true rfl) rfl ⟨rfl, rfl⟩ ⟨Nat.le_of_ble_eq_true rfl, Nat.le_of_ble_eq_true rfl⟩ (EvP.mono (by decide) m_at_0_0) (fun r1 P1 g1 => mpp 45 rfl ?_)
  obtain ⟨rfl, rfl⟩ := g1
  show MEvP _ none q_133 45 [(3, .int 0), (0, .ref 301), (1, .int 0), (2, .int (nI n))] [.int 3, .ref 302] _ _ _ _
  refine mp_a (a_iload_n dX7_adds_45 rfl) (mpp 46 rfl ?_)
  refine mp_ias (N := 155) dX7_adds_46 (mset_eq h302) rfl (by decide) (mpp 47 rfl ?_)
  refine mp_a (a_aload_n dX7_adds_47 rfl) (mpp 48 rfl ?_)
  refine mp_get (i := 9) (v := .ref 302) dX7_adds_48 rfl (mset_ne (mset_ne h301 (by decide)) (by decide)) rfl (mpp 51 rfl ?_)
  refine mp_a (a_iload_n dX7_adds_51 rfl) (mpp 52 rfl ?_)
  refine mp_a (a_iconst (v := 1) dX7_adds_52 rfl) (mpp 53 rfl ?_)
  refine mp_calls (i := 74) (q' := q_135) (As := [.int 0, .int 1]) (rest := [.ref 302]) dX7_adds_53 rfl qm_135 (by decide) rfl (Nat.le_of_ble_eq_true rfl) rfl ⟨rfl, rfl⟩ ⟨Nat.le_of_ble_eq_true rfl, Nat.le_of_ble_eq_true rfl⟩ (EvP.mono (by decide) m_at_0_1) (fun r1 P1 g2 => mpp 56 rfl ?_)
  obtain ⟨rfl, rfl⟩ := g2
  show MEvP _ none q_133 56 [(3, .int 0), (0, .ref 301), (1, .int 0), (2, .int (nI n))] [.int 4, .ref 302] _ _ _ _
  refine mp_a (a_iload_n dX7_adds_56 rfl) (mpp 57 rfl ?_)
  refine mp_ias (N := 155) dX7_adds_57 (mset_eq (mset_eq h302)) rfl (by decide) (mpp 58 rfl ?_)
  refine mp_a (a_aload_n dX7_adds_58 rfl) (mpp 59 rfl ?_)
  refine mp_get (i := 9) (v := .ref 302) dX7_adds_59 rfl (mset_ne (mset_ne (mset_ne h301 (by decide)) (by decide)) (by decide)) rfl (mpp 62 rfl ?_)
  refine mp_a (a_iload_n dX7_adds_62 rfl) (mpp 63 rfl ?_)
  refine mp_a (a_iconst (v := 2) dX7_adds_63 rfl) (mpp 64 rfl ?_)
  refine mp_calls (i := 74) (q' := q_135) (As := [.int 0, .int 2]) (rest := [.ref 302]) dX7_adds_64 rfl qm_135 (by decide) rfl (Nat.le_of_ble_eq_true rfl) rfl ⟨rfl, rfl⟩ ⟨Nat.le_of_ble_eq_true rfl, Nat.le_of_ble_eq_true rfl⟩ (EvP.mono (by decide) m_at_0_2) (fun r1 P1 g3 => mpp 67 rfl ?_)
  obtain ⟨rfl, rfl⟩ := g3
  show MEvP _ none q_133 67 [(3, .int 0), (0, .ref 301), (1, .int 0), (2, .int (nI n))] [.int 5, .ref 302] _ _ _ _
  refine mp_a (a_iconst (v := 0) dX7_adds_67 rfl) (mpp 68 rfl ?_)
  refine mp_ias (N := 155) dX7_adds_68 (mset_eq (mset_eq (mset_eq h302))) rfl (by decide) (mpp 69 rfl ?_)
  refine mp_a (a_iconst (v := 0) dX7_adds_69 rfl) (mpp 70 rfl ?_)
  refine mp_a (a_istore (L' := [(4, .int 0), (3, .int 0), (0, .ref 301), (1, .int 0), (2, .int (nI n))]) dX7_adds_70 (by decide) rfl) (mpp 72 rfl ?_)
  exact m_adds0_loop hn8 hB hC 8 0 _ _ (by omega) (by simp only [List.length_set, List.length_replicate]) ((((hM.set (by decide) (by decide) (by decide)).set (by decide) (by decide) (by decide)).set (by decide) (by decide) (by decide)).set (by decide) (by decide) (by decide)) (mset_eq (mset_eq (mset_eq (mset_eq h302)))) (mset_ne (mset_ne (mset_ne (mset_ne h306 (by decide)) (by decide)) (by decide)) (by decide)) (mset_ne (mset_ne (mset_ne (mset_ne h307 (by decide)) (by decide)) (by decide)) (by decide))
set_option maxRecDepth 100000 in
set_option maxHeartbeats 4000000 in
theorem m_adds1_loop {n : Nat} {B C : List Value} (hn8 : n ≤ 8) (hB : B.length = 8) (hC : C.length = 8) : ∀ (m k : Nat) (A : List Value) (Q : mP), k + m = 8 → A.length = 155 → MODE Q → Q[302]? = some (8, A) → Q[306]? = some (8, B) → Q[307]? = some (8, C) → MEvP 4 none q_133 72 [(4, .int (nI k)), (3, .int 0), (0, .ref 301), (1, .int 1), (2, .int (nI n))] [] Q 0 0 (fun r P' => r = some (.int 0) ∧ MODE P') := by
  intro m
  induction m with
  | zero =>
    intro k A Q hk hA hM h2 h6 h7
    have h1 := hM.1
    have hk : k = 8 := by omega
    subst hk
    refine mp_a (a_iload dX7_adds_72 rfl) (mpp 74 rfl ?_)
    refine mp_a (a_bipush (v := 8) dX7_adds_74 rfl) (mpp 76 rfl ?_)
    refine mp_Tt (t := 150) (j_icmp_ge dX7_adds_76) (by decide) (by decide) ?_
    refine mp_a (a_iload_n dX7_adds_150 rfl) (mpp 151 rfl ?_)
    exact mp_iret (⟨rfl, hM⟩) dX7_adds_151 (Or.inl rfl)
  | succ m ih =>
    intro k A Q hk hA hM h2 h6 h7
    have h1 := hM.1
    by_cases hkn : k < n
    · have hkn' := hkn
      refine mp_a (a_iload dX7_adds_72 rfl) (mpp 74 rfl ?_)
      refine mp_a (a_bipush (v := 8) dX7_adds_74 rfl) (mpp 76 rfl ?_)
      refine mp_Tf (t := 150) (j_icmp_ge dX7_adds_76) (fun q => absurd ((nI_leI (a := 8) (b := k) (by omega) (by omega)).mp q) (by omega)) (by decide) (mpp 79 rfl ?_)
      refine mp_a (a_aload_n dX7_adds_79 rfl) (mpp 80 rfl ?_)
      refine mp_get (i := 9) (v := .ref 302) dX7_adds_80 rfl h1 rfl (mpp 83 rfl ?_)
      refine mp_a (a_iload_n dX7_adds_83 rfl) (mpp 84 rfl ?_)
      refine mp_a (a_iconst (v := 3) dX7_adds_84 rfl) (mpp 85 rfl ?_)
      refine mp_a (a_iload dX7_adds_85 rfl) (mpp 87 rfl ?_)
      refine mp_t (s_iadd (v := (nI (3 + k))) dX7_adds_87 (nI_add 3 (k))) (mpp 88 rfl ?_)
      refine mp_calls (i := 74) (q' := q_135) (As := [.int 0, .int (nI (3 + k))]) (rest := [.ref 302]) dX7_adds_88 rfl qm_135 (by decide) rfl (Nat.le_of_ble_eq_true rfl) rfl ⟨rfl, rfl⟩ ⟨Nat.le_of_ble_eq_true rfl, Nat.le_of_ble_eq_true rfl⟩ (EvP.mono (by decide) m_at0) (fun r1 P1 g1 => mpp 91 rfl ?_)
      obtain ⟨rfl, rfl⟩ := g1
      show MEvP _ none q_133 91 [(4, .int (nI k)), (3, .int 0), (0, .ref 301), (1, .int 1), (2, .int (nI n))] [.int (nI (3 + ((3 + k)))), .ref 302] _ _ _ _
      refine mp_a (a_iload dX7_adds_91 rfl) (mpp 93 rfl ?_)
      refine mp_a (a_iload_n dX7_adds_93 rfl) (mpp 94 rfl ?_)
      refine mp_Tf (t := 107) (j_icmp_ge dX7_adds_94) (fun q => absurd ((nI_leI (a := n) (b := k) (by omega) (by omega)).mp q) (by omega)) (by decide) (mpp 97 rfl ?_)
      refine mp_a (a_aload_n dX7_adds_97 rfl) (mpp 98 rfl ?_)
      refine mp_get (i := 22) (v := .ref 306) dX7_adds_98 rfl h1 rfl (mpp 101 rfl ?_)
      refine mp_a (a_iload dX7_adds_101 rfl) (mpp 103 rfl ?_)
      refine mp_ial (N := 8) (v := (mint (B.getD (k) .null))) dX7_adds_103 h6 hB (i_in (by omega) (by decide)) (by rw [nI_clamp (by omega)]) (mpp 104 rfl ?_)
      refine mp_a (a_goto (t := 108) dX7_adds_104 (by decide)) ?_
      refine mp_ias (N := 155) dX7_adds_108 h2 hA (i_in (by omega) (by decide)) (mpp 109 rfl ?_)
      rw [show (nI (3 + ((3 + k)))).toNatClampNeg = 3 + ((3 + k)) from nI_clamp (by omega)]
      refine mp_a (a_aload_n dX7_adds_109 rfl) (mpp 110 rfl ?_)
      refine mp_get (i := 9) (v := .ref 302) dX7_adds_110 rfl (mset_ne h1 (by decide)) rfl (mpp 113 rfl ?_)
      refine mp_a (a_iload_n dX7_adds_113 rfl) (mpp 114 rfl ?_)
      refine mp_a (a_bipush (v := 11) dX7_adds_114 rfl) (mpp 116 rfl ?_)
      refine mp_a (a_iload dX7_adds_116 rfl) (mpp 118 rfl ?_)
      refine mp_t (s_iadd (v := (nI (11 + k))) dX7_adds_118 (nI_add 11 (k))) (mpp 119 rfl ?_)
      refine mp_calls (i := 74) (q' := q_135) (As := [.int 0, .int (nI (11 + k))]) (rest := [.ref 302]) dX7_adds_119 rfl qm_135 (by decide) rfl (Nat.le_of_ble_eq_true rfl) rfl ⟨rfl, rfl⟩ ⟨Nat.le_of_ble_eq_true rfl, Nat.le_of_ble_eq_true rfl⟩ (EvP.mono (by decide) m_at0) (fun r1 P1 g2 => mpp 122 rfl ?_)
      obtain ⟨rfl, rfl⟩ := g2
      show MEvP _ none q_133 122 [(4, .int (nI k)), (3, .int 0), (0, .ref 301), (1, .int 1), (2, .int (nI n))] [.int (nI (3 + ((11 + k)))), .ref 302] _ _ _ _
      refine mp_a (a_iload dX7_adds_122 rfl) (mpp 124 rfl ?_)
      refine mp_a (a_aload_n dX7_adds_124 rfl) (mpp 125 rfl ?_)
      refine mp_a (a_iload_n dX7_adds_125 rfl) (mpp 126 rfl ?_)
      refine mp_callv (i := 88) (q' := q_136) (As := [.int 0]) (rest := [.int (nI k), .int (nI (3 + ((11 + k)))), .ref 302]) dX7_adds_126 rfl qm_136 (by decide) rfl (mset_ne h1 (by decide)) (by decide) (Nat.le_of_ble_eq_true rfl) rfl ⟨rfl, rfl⟩ ⟨Nat.le_of_ble_eq_true rfl, Nat.le_of_ble_eq_true rfl⟩ (EvP.mono (by decide) (m_creasesU (mset_ne h1 (by decide)) (mset_eq h2) (List.length_set.trans hA))) (fun r1 P1 g3 => mpp 129 rfl ?_)
      obtain ⟨c, rfl, rfl⟩ := g3
      show MEvP _ none q_133 129 [(4, .int (nI k)), (3, .int 0), (0, .ref 301), (1, .int 1), (2, .int (nI n))] [.int c, .int (nI k), .int (nI (3 + ((11 + k)))), .ref 302] _ _ _ _
      refine mp_Tb (t := 142) (j_icmp_ge dX7_adds_129) (by decide) (fun c4 => ?_) (fun c4 => mpp 132 rfl ?_)
      · refine mp_a (a_iconst (v := 0) dX7_adds_142 rfl) (mpp 143 rfl ?_)
        refine mp_ias (N := 155) dX7_adds_143 (mset_eq h2) (List.length_set.trans hA) (i_in (by omega) (by decide)) (mpp 144 rfl ?_)
        rw [show (nI (3 + ((11 + k)))).toNatClampNeg = 3 + ((11 + k)) from nI_clamp (by omega)]
        refine mp_a (a_iinc (v := (nI (k + 1))) (L' := [(4, .int (nI (k + 1))), (3, .int 0), (0, .ref 301), (1, .int 1), (2, .int (nI n))]) dX7_adds_144 (by decide) rfl (nI_1 (k)) rfl) (mpp 147 rfl ?_)
        refine mp_a (a_goto (t := 72) dX7_adds_147 (by decide)) ?_
        exact ih (k + 1) _ _ (by omega) (List.length_set.trans (List.length_set.trans hA)) ((hM.set (by decide) (by decide) (by decide)).set (by decide) (by decide) (by decide)) (mset_eq (mset_eq h2)) (mset_ne (mset_ne h6 (by decide)) (by decide)) (mset_ne (mset_ne h7 (by decide)) (by decide))
      · refine mp_a (a_aload_n dX7_adds_132 rfl) (mpp 133 rfl ?_)
        refine mp_get (i := 25) (v := .ref 307) dX7_adds_133 rfl (mset_ne h1 (by decide)) rfl (mpp 136 rfl ?_)
        refine mp_a (a_iload dX7_adds_136 rfl) (mpp 138 rfl ?_)
        refine mp_ial (N := 8) (v := (mint (C.getD (k) .null))) dX7_adds_138 (mset_ne h7 (by decide)) hC (i_in (by omega) (by decide)) (by rw [nI_clamp (by omega)]) (mpp 139 rfl ?_)
        refine mp_a (a_goto (t := 143) dX7_adds_139 (by decide)) ?_
        refine mp_ias (N := 155) dX7_adds_143 (mset_eq h2) (List.length_set.trans hA) (i_in (by omega) (by decide)) (mpp 144 rfl ?_)
        rw [show (nI (3 + ((11 + k)))).toNatClampNeg = 3 + ((11 + k)) from nI_clamp (by omega)]
        refine mp_a (a_iinc (v := (nI (k + 1))) (L' := [(4, .int (nI (k + 1))), (3, .int 0), (0, .ref 301), (1, .int 1), (2, .int (nI n))]) dX7_adds_144 (by decide) rfl (nI_1 (k)) rfl) (mpp 147 rfl ?_)
        refine mp_a (a_goto (t := 72) dX7_adds_147 (by decide)) ?_
        exact ih (k + 1) _ _ (by omega) (List.length_set.trans (List.length_set.trans hA)) ((hM.set (by decide) (by decide) (by decide)).set (by decide) (by decide) (by decide)) (mset_eq (mset_eq h2)) (mset_ne (mset_ne h6 (by decide)) (by decide)) (mset_ne (mset_ne h7 (by decide)) (by decide))
    · have hkn' := hkn
      refine mp_a (a_iload dX7_adds_72 rfl) (mpp 74 rfl ?_)
      refine mp_a (a_bipush (v := 8) dX7_adds_74 rfl) (mpp 76 rfl ?_)
      refine mp_Tf (t := 150) (j_icmp_ge dX7_adds_76) (fun q => absurd ((nI_leI (a := 8) (b := k) (by omega) (by omega)).mp q) (by omega)) (by decide) (mpp 79 rfl ?_)
      refine mp_a (a_aload_n dX7_adds_79 rfl) (mpp 80 rfl ?_)
      refine mp_get (i := 9) (v := .ref 302) dX7_adds_80 rfl h1 rfl (mpp 83 rfl ?_)
      refine mp_a (a_iload_n dX7_adds_83 rfl) (mpp 84 rfl ?_)
      refine mp_a (a_iconst (v := 3) dX7_adds_84 rfl) (mpp 85 rfl ?_)
      refine mp_a (a_iload dX7_adds_85 rfl) (mpp 87 rfl ?_)
      refine mp_t (s_iadd (v := (nI (3 + k))) dX7_adds_87 (nI_add 3 (k))) (mpp 88 rfl ?_)
      refine mp_calls (i := 74) (q' := q_135) (As := [.int 0, .int (nI (3 + k))]) (rest := [.ref 302]) dX7_adds_88 rfl qm_135 (by decide) rfl (Nat.le_of_ble_eq_true rfl) rfl ⟨rfl, rfl⟩ ⟨Nat.le_of_ble_eq_true rfl, Nat.le_of_ble_eq_true rfl⟩ (EvP.mono (by decide) m_at0) (fun r1 P1 g1 => mpp 91 rfl ?_)
      obtain ⟨rfl, rfl⟩ := g1
      show MEvP _ none q_133 91 [(4, .int (nI k)), (3, .int 0), (0, .ref 301), (1, .int 1), (2, .int (nI n))] [.int (nI (3 + ((3 + k)))), .ref 302] _ _ _ _
      refine mp_a (a_iload dX7_adds_91 rfl) (mpp 93 rfl ?_)
      refine mp_a (a_iload_n dX7_adds_93 rfl) (mpp 94 rfl ?_)
      refine mp_Tt (t := 107) (j_icmp_ge dX7_adds_94) (((nI_leI (a := n) (b := k) (by omega) (by omega)).mpr (by omega))) (by decide) ?_
      refine mp_a (a_iconst (v := 0) dX7_adds_107 rfl) (mpp 108 rfl ?_)
      refine mp_ias (N := 155) dX7_adds_108 h2 hA (i_in (by omega) (by decide)) (mpp 109 rfl ?_)
      rw [show (nI (3 + ((3 + k)))).toNatClampNeg = 3 + ((3 + k)) from nI_clamp (by omega)]
      refine mp_a (a_aload_n dX7_adds_109 rfl) (mpp 110 rfl ?_)
      refine mp_get (i := 9) (v := .ref 302) dX7_adds_110 rfl (mset_ne h1 (by decide)) rfl (mpp 113 rfl ?_)
      refine mp_a (a_iload_n dX7_adds_113 rfl) (mpp 114 rfl ?_)
      refine mp_a (a_bipush (v := 11) dX7_adds_114 rfl) (mpp 116 rfl ?_)
      refine mp_a (a_iload dX7_adds_116 rfl) (mpp 118 rfl ?_)
      refine mp_t (s_iadd (v := (nI (11 + k))) dX7_adds_118 (nI_add 11 (k))) (mpp 119 rfl ?_)
      refine mp_calls (i := 74) (q' := q_135) (As := [.int 0, .int (nI (11 + k))]) (rest := [.ref 302]) dX7_adds_119 rfl qm_135 (by decide) rfl (Nat.le_of_ble_eq_true rfl) rfl ⟨rfl, rfl⟩ ⟨Nat.le_of_ble_eq_true rfl, Nat.le_of_ble_eq_true rfl⟩ (EvP.mono (by decide) m_at0) (fun r1 P1 g2 => mpp 122 rfl ?_)
      obtain ⟨rfl, rfl⟩ := g2
      show MEvP _ none q_133 122 [(4, .int (nI k)), (3, .int 0), (0, .ref 301), (1, .int 1), (2, .int (nI n))] [.int (nI (3 + ((11 + k)))), .ref 302] _ _ _ _
      refine mp_a (a_iload dX7_adds_122 rfl) (mpp 124 rfl ?_)
      refine mp_a (a_aload_n dX7_adds_124 rfl) (mpp 125 rfl ?_)
      refine mp_a (a_iload_n dX7_adds_125 rfl) (mpp 126 rfl ?_)
      refine mp_callv (i := 88) (q' := q_136) (As := [.int 0]) (rest := [.int (nI k), .int (nI (3 + ((11 + k)))), .ref 302]) dX7_adds_126 rfl qm_136 (by decide) rfl (mset_ne h1 (by decide)) (by decide) (Nat.le_of_ble_eq_true rfl) rfl ⟨rfl, rfl⟩ ⟨Nat.le_of_ble_eq_true rfl, Nat.le_of_ble_eq_true rfl⟩ (EvP.mono (by decide) (m_creasesU (mset_ne h1 (by decide)) (mset_eq h2) (List.length_set.trans hA))) (fun r1 P1 g3 => mpp 129 rfl ?_)
      obtain ⟨c, rfl, rfl⟩ := g3
      show MEvP _ none q_133 129 [(4, .int (nI k)), (3, .int 0), (0, .ref 301), (1, .int 1), (2, .int (nI n))] [.int c, .int (nI k), .int (nI (3 + ((11 + k)))), .ref 302] _ _ _ _
      refine mp_Tb (t := 142) (j_icmp_ge dX7_adds_129) (by decide) (fun c4 => ?_) (fun c4 => mpp 132 rfl ?_)
      · refine mp_a (a_iconst (v := 0) dX7_adds_142 rfl) (mpp 143 rfl ?_)
        refine mp_ias (N := 155) dX7_adds_143 (mset_eq h2) (List.length_set.trans hA) (i_in (by omega) (by decide)) (mpp 144 rfl ?_)
        rw [show (nI (3 + ((11 + k)))).toNatClampNeg = 3 + ((11 + k)) from nI_clamp (by omega)]
        refine mp_a (a_iinc (v := (nI (k + 1))) (L' := [(4, .int (nI (k + 1))), (3, .int 0), (0, .ref 301), (1, .int 1), (2, .int (nI n))]) dX7_adds_144 (by decide) rfl (nI_1 (k)) rfl) (mpp 147 rfl ?_)
        refine mp_a (a_goto (t := 72) dX7_adds_147 (by decide)) ?_
        exact ih (k + 1) _ _ (by omega) (List.length_set.trans (List.length_set.trans hA)) ((hM.set (by decide) (by decide) (by decide)).set (by decide) (by decide) (by decide)) (mset_eq (mset_eq h2)) (mset_ne (mset_ne h6 (by decide)) (by decide)) (mset_ne (mset_ne h7 (by decide)) (by decide))
      · refine mp_a (a_aload_n dX7_adds_132 rfl) (mpp 133 rfl ?_)
        refine mp_get (i := 25) (v := .ref 307) dX7_adds_133 rfl (mset_ne h1 (by decide)) rfl (mpp 136 rfl ?_)
        refine mp_a (a_iload dX7_adds_136 rfl) (mpp 138 rfl ?_)
        refine mp_ial (N := 8) (v := (mint (C.getD (k) .null))) dX7_adds_138 (mset_ne h7 (by decide)) hC (i_in (by omega) (by decide)) (by rw [nI_clamp (by omega)]) (mpp 139 rfl ?_)
        refine mp_a (a_goto (t := 143) dX7_adds_139 (by decide)) ?_
        refine mp_ias (N := 155) dX7_adds_143 (mset_eq h2) (List.length_set.trans hA) (i_in (by omega) (by decide)) (mpp 144 rfl ?_)
        rw [show (nI (3 + ((11 + k)))).toNatClampNeg = 3 + ((11 + k)) from nI_clamp (by omega)]
        refine mp_a (a_iinc (v := (nI (k + 1))) (L' := [(4, .int (nI (k + 1))), (3, .int 0), (0, .ref 301), (1, .int 1), (2, .int (nI n))]) dX7_adds_144 (by decide) rfl (nI_1 (k)) rfl) (mpp 147 rfl ?_)
        refine mp_a (a_goto (t := 72) dX7_adds_147 (by decide)) ?_
        exact ih (k + 1) _ _ (by omega) (List.length_set.trans (List.length_set.trans hA)) ((hM.set (by decide) (by decide) (by decide)).set (by decide) (by decide) (by decide)) (mset_eq (mset_eq h2)) (mset_ne (mset_ne h6 (by decide)) (by decide)) (mset_ne (mset_ne h7 (by decide)) (by decide))

set_option maxRecDepth 100000 in
set_option maxHeartbeats 4000000 in
theorem m_adds1 {P : mP} {n : Nat} {B C : List Value} (hn8 : n ≤ 8) (hM : MODE P) (h302 : P[302]? = some (8, (List.replicate 155 (.int 0)).set 1 (.int 30))) (h306 : P[306]? = some (8, B)) (hB : B.length = 8) (h307 : P[307]? = some (8, C)) (hC : C.length = 8) : EvP 5 133 [.ref 301, .int 1, .int (nI n)] P (fun r P' => r = some (.int 0) ∧ MODE P') := by
  have h301 := hM.1
  refine EvP.of qm_133 (Nat.le_of_ble_eq_true rfl) rfl ?_
  show MEvP _ none q_133 0 [(0, .ref 301), (1, .int 1), (2, .int (nI n))] [] _ 0 0 _
  refine mp_a (a_aload_n dX7_adds_0 rfl) (mpp 1 rfl ?_)
  refine mp_get (i := 9) (v := .ref 302) dX7_adds_1 rfl h301 rfl (mpp 4 rfl ?_)
  refine mp_a (a_iconst (v := 0) dX7_adds_4 rfl) (mpp 5 rfl ?_)
  refine mp_ial (N := 155) (v := 0) dX7_adds_5 h302 rfl (by decide) rfl (mpp 6 rfl ?_)
  refine mp_a (a_bipush (v := 8) dX7_adds_6 rfl) (mpp 8 rfl ?_)
  refine mp_Tt (t := 19) (j_icmp_ne dX7_adds_8) (by decide) (by decide) ?_
  refine mp_a (a_aload_n dX7_adds_19 rfl) (mpp 20 rfl ?_)
  refine mp_get (i := 9) (v := .ref 302) dX7_adds_20 rfl h301 rfl (mpp 23 rfl ?_)
  refine mp_a (a_iconst (v := 0) dX7_adds_23 rfl) (mpp 24 rfl ?_)
  refine mp_ial (N := 155) (v := 0) dX7_adds_24 h302 rfl (by decide) rfl (mpp 25 rfl ?_)
  refine mp_a (a_istore_n (L' := [(3, .int 0), (0, .ref 301), (1, .int 1), (2, .int (nI n))]) dX7_adds_25 (by decide) rfl) (mpp 26 rfl ?_)
  refine mp_a (a_aload_n dX7_adds_26 rfl) (mpp 27 rfl ?_)
  refine mp_get (i := 9) (v := .ref 302) dX7_adds_27 rfl h301 rfl (mpp 30 rfl ?_)
  refine mp_a (a_iconst (v := 0) dX7_adds_30 rfl) (mpp 31 rfl ?_)
  refine mp_t (s_dup2 dX7_adds_31 ⟨rfl, rfl⟩) (mpp 32 rfl ?_)
  refine mp_ial (N := 155) (v := 0) dX7_adds_32 h302 rfl (by decide) rfl (mpp 33 rfl ?_)
  refine mp_a (a_iconst (v := 1) dX7_adds_33 rfl) (mpp 34 rfl ?_)
  refine mp_t (s_iadd (v := 1) dX7_adds_34 rfl) (mpp 35 rfl ?_)
  refine mp_ias (N := 155) dX7_adds_35 h302 rfl (by decide) (mpp 36 rfl ?_)
  refine mp_a (a_aload_n dX7_adds_36 rfl) (mpp 37 rfl ?_)
  refine mp_get (i := 9) (v := .ref 302) dX7_adds_37 rfl (mset_ne h301 (by decide)) rfl (mpp 40 rfl ?_)
  refine mp_a (a_iload_n dX7_adds_40 rfl) (mpp 41 rfl ?_)
  refine mp_a (a_iconst (v := 0) dX7_adds_41 rfl) (mpp 42 rfl ?_)
  refine mp_calls (i := 74) (q' := q_135) (As := [.int 0, .int 0]) (rest := [.ref 302]) dX7_adds_42 rfl qm_135 (by decide) rfl (Nat.le_of_ble_eq_true rfl) rfl ⟨rfl, rfl⟩ ⟨Nat.le_of_ble_eq_true rfl, Nat.le_of_ble_eq_true rfl⟩ (EvP.mono (by decide) m_at_0_0) (fun r1 P1 g1 => mpp 45 rfl ?_)
  obtain ⟨rfl, rfl⟩ := g1
  show MEvP _ none q_133 45 [(3, .int 0), (0, .ref 301), (1, .int 1), (2, .int (nI n))] [.int 3, .ref 302] _ _ _ _
  refine mp_a (a_iload_n dX7_adds_45 rfl) (mpp 46 rfl ?_)
  refine mp_ias (N := 155) dX7_adds_46 (mset_eq h302) rfl (by decide) (mpp 47 rfl ?_)
  refine mp_a (a_aload_n dX7_adds_47 rfl) (mpp 48 rfl ?_)
  refine mp_get (i := 9) (v := .ref 302) dX7_adds_48 rfl (mset_ne (mset_ne h301 (by decide)) (by decide)) rfl (mpp 51 rfl ?_)
  refine mp_a (a_iload_n dX7_adds_51 rfl) (mpp 52 rfl ?_)
  refine mp_a (a_iconst (v := 1) dX7_adds_52 rfl) (mpp 53 rfl ?_)
  refine mp_calls (i := 74) (q' := q_135) (As := [.int 0, .int 1]) (rest := [.ref 302]) dX7_adds_53 rfl qm_135 (by decide) rfl (Nat.le_of_ble_eq_true rfl) rfl ⟨rfl, rfl⟩ ⟨Nat.le_of_ble_eq_true rfl, Nat.le_of_ble_eq_true rfl⟩ (EvP.mono (by decide) m_at_0_1) (fun r1 P1 g2 => mpp 56 rfl ?_)
  obtain ⟨rfl, rfl⟩ := g2
  show MEvP _ none q_133 56 [(3, .int 0), (0, .ref 301), (1, .int 1), (2, .int (nI n))] [.int 4, .ref 302] _ _ _ _
  refine mp_a (a_iload_n dX7_adds_56 rfl) (mpp 57 rfl ?_)
  refine mp_ias (N := 155) dX7_adds_57 (mset_eq (mset_eq h302)) rfl (by decide) (mpp 58 rfl ?_)
  refine mp_a (a_aload_n dX7_adds_58 rfl) (mpp 59 rfl ?_)
  refine mp_get (i := 9) (v := .ref 302) dX7_adds_59 rfl (mset_ne (mset_ne (mset_ne h301 (by decide)) (by decide)) (by decide)) rfl (mpp 62 rfl ?_)
  refine mp_a (a_iload_n dX7_adds_62 rfl) (mpp 63 rfl ?_)
  refine mp_a (a_iconst (v := 2) dX7_adds_63 rfl) (mpp 64 rfl ?_)
  refine mp_calls (i := 74) (q' := q_135) (As := [.int 0, .int 2]) (rest := [.ref 302]) dX7_adds_64 rfl qm_135 (by decide) rfl (Nat.le_of_ble_eq_true rfl) rfl ⟨rfl, rfl⟩ ⟨Nat.le_of_ble_eq_true rfl, Nat.le_of_ble_eq_true rfl⟩ (EvP.mono (by decide) m_at_0_2) (fun r1 P1 g3 => mpp 67 rfl ?_)
  obtain ⟨rfl, rfl⟩ := g3
  show MEvP _ none q_133 67 [(3, .int 0), (0, .ref 301), (1, .int 1), (2, .int (nI n))] [.int 5, .ref 302] _ _ _ _
  refine mp_a (a_iconst (v := 0) dX7_adds_67 rfl) (mpp 68 rfl ?_)
  refine mp_ias (N := 155) dX7_adds_68 (mset_eq (mset_eq (mset_eq h302))) rfl (by decide) (mpp 69 rfl ?_)
  refine mp_a (a_iconst (v := 0) dX7_adds_69 rfl) (mpp 70 rfl ?_)
  refine mp_a (a_istore (L' := [(4, .int 0), (3, .int 0), (0, .ref 301), (1, .int 1), (2, .int (nI n))]) dX7_adds_70 (by decide) rfl) (mpp 72 rfl ?_)
  exact m_adds1_loop hn8 hB hC 8 0 _ _ (by omega) (by simp only [List.length_set, List.length_replicate]) ((((hM.set (by decide) (by decide) (by decide)).set (by decide) (by decide) (by decide)).set (by decide) (by decide) (by decide)).set (by decide) (by decide) (by decide)) (mset_eq (mset_eq (mset_eq (mset_eq h302)))) (mset_ne (mset_ne (mset_ne (mset_ne h306 (by decide)) (by decide)) (by decide)) (by decide)) (mset_ne (mset_ne (mset_ne (mset_ne h307 (by decide)) (by decide)) (by decide)) (by decide))
