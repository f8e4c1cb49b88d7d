/-! add: the class and the reference answer alike on a fresh object -/
theorem pair_add0 (a2 a3 : Int32) : ∃ v : Int32, EvP 10 20 [.ref 0, .int 0, .int a2, .int a3] P0 (fun r P' => r = some (.int v) ∧ MOD P') ∧ ∀ P : mP, MOD P → EvP 10 123 [.ref 301, .int 0, .int a2, .int a3] P (fun r _ => r = some (.int v)) := by
  by_cases h2 : a2 < 0
  · exact ⟨_, xo_add_n0 h2, fun P h => mo_add_n0 h h2⟩
  · obtain ⟨w, hw, rfl⟩ := nI_of h2
    cases hs : szok 0 w with
    | false =>
      by_cases hA : 1 ≤ ndf 10 w ∧ ndf 10 w ≤ 8 ∧ okS (ndf 10 w) w = true
      · exact ⟨_, xo_add_s0 hw hs, fun P h => mo_add_a0 h hw hA hs⟩
      · exact ⟨_, xo_add_s0 hw hs, fun P h => mo_add_s0 h hw hA⟩
    | true =>
      have hA := szok_ok hs
      have hA1 := hA.1
      have hA2 := hA.2.1
      obtain ⟨m, hm⟩ : ∃ m : Nat, ndf 10 w = m + 1 := ⟨ndf 10 w - 1, by omega⟩
      have hm8 : m ≤ 8 := by omega
      by_cases h3 : a3 < 0
      · exact ⟨_, xo_add_c0 hw hs hm hm8 h3, fun P h => mo_add_c0 h hw hs hm h3⟩
      · obtain ⟨v, hv, rfl⟩ := nI_of h3
        cases hk : crok m v with
        | false => exact ⟨_, xo_add_f0 hw hs hm hm8 hv hk, fun P h => mo_add_f0 h hw hs hm hv hk⟩
        | true => exact ⟨_, xo_add_t0 hw hs hm hm8 hv hk, fun P h => mo_add_t0 h hw hs hm hv hk⟩
theorem pair_add1 (a2 a3 : Int32) : ∃ v : Int32, EvP 10 20 [.ref 0, .int 1, .int a2, .int a3] P0 (fun r P' => r = some (.int v) ∧ MOD P') ∧ ∀ P : mP, MOD P → EvP 10 123 [.ref 301, .int 1, .int a2, .int a3] P (fun r _ => r = some (.int v)) := by
  by_cases h2 : a2 < 0
  · exact ⟨_, xo_add_n1 h2, fun P h => mo_add_n1 h h2⟩
  · obtain ⟨w, hw, rfl⟩ := nI_of h2
    cases hs : szok 1 w with
    | false =>
      by_cases hA : 1 ≤ ndf 10 w ∧ ndf 10 w ≤ 8 ∧ okS (ndf 10 w) w = true
      · exact ⟨_, xo_add_s1 hw hs, fun P h => mo_add_a1 h hw hA hs⟩
      · exact ⟨_, xo_add_s1 hw hs, fun P h => mo_add_s1 h hw hA⟩
    | true =>
      have hA := szok_ok hs
      have hA1 := hA.1
      have hA2 := hA.2.1
      obtain ⟨m, hm⟩ : ∃ m : Nat, ndf 10 w = m := ⟨ndf 10 w, rfl⟩
      have hm8 : m ≤ 8 := by omega
      by_cases h3 : a3 < 0
      · exact ⟨_, xo_add_c1 hw hs hm hm8 h3, fun P h => mo_add_c1 h hw hs hm h3⟩
      · obtain ⟨v, hv, rfl⟩ := nI_of h3
        cases hk : crok m v with
        | false => exact ⟨_, xo_add_f1 hw hs hm hm8 hv hk, fun P h => mo_add_f1 h hw hs hm hv hk⟩
        | true => exact ⟨_, xo_add_t1 hw hs hm hm8 hv hk, fun P h => mo_add_t1 h hw hs hm hv hk⟩
theorem pair_add (a1 a2 a3 : Int32) : ∃ v : Int32, EvP 10 20 [.ref 0, .int a1, .int a2, .int a3] P0 (fun r P' => r = some (.int v) ∧ MOD P') ∧ ∀ P : mP, MOD P → EvP 10 123 [.ref 301, .int a1, .int a2, .int a3] P (fun r _ => r = some (.int v)) := by
  by_cases h0 : a1 = 0
  · subst h0
    exact pair_add0 a2 a3
  · by_cases h1 : a1 = 1
    · subst h1
      exact pair_add1 a2 a3
    · by_cases hl : a1 < 0
      · exact ⟨_, xo_add_k h0 h1, fun P h => mo_add_k1 h hl⟩
      · by_cases hg : 1 < a1
        · exact ⟨_, xo_add_k h0 h1, fun P h => mo_add_k2 h hl hg⟩
        · exfalso
          have k0 : (0 : Int32).toInt = 0 := rfl
          have k1 : (1 : Int32).toInt = 1 := rfl
          simp only [Int32.lt_iff_toInt_lt, ← Int32.toInt_inj] at h0 h1 hl hg
          omega
