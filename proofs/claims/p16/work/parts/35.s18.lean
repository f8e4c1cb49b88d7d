/-! account and reflected: class and reference answer alike -/
theorem SN.atn {P : mP} {s : Nat → Int32} (hN : SN P s) (hG : GS s) {k : Nat} (h1 : (k : Int) < (s 0).toInt) : (fv P (rv P 2 k) 0 = s (3 + 19 * k) ∧ fv P (rv P 2 k) 1 = s (4 + 19 * k) ∧ fv P (rv P 2 k) 2 = s (5 + 19 * k) ∧ (∀ j : Nat, (j : Int) < (s (4 + 19 * k)).toInt → fv P (rv P 2 k + 1) j = s (6 + 19 * k + j)) ∧ ∀ j : Nat, j < nC (s (3 + 19 * k)).toInt (s (4 + 19 * k)).toInt → fv P (rv P 2 k + 2) j = s (14 + 19 * k + j)) ∧ (0 ≤ (s (3 + 19 * k)).toInt ∧ (s (3 + 19 * k)).toInt ≤ 1) ∧ 0 ≤ (s (5 + 19 * k)).toInt ∧ (s (5 + 19 * k)).toInt ≤ 1 := by
  have q := hN.at hG (a := (k : Int)) (by omega) h1
  rw [Int.toNat_natCast] at q
  have g := GP.n.mp (hG.2.2.2 k h1)
  exact ⟨q.1, by rcases g.1 with g | g <;> omega, g.2.1⟩
theorem siF_0 {K : Nat → Int} {n : Nat} (h : ∀ j : Nat, j < n → 0 ≤ K j ∧ K j ≤ 1) : siF (fun k => isI (K k) 0) n = (n : Int) - siF K n := by
  induction n with
  | zero => rfl
  | succ n ih =>
    have h1 := ih (fun j hj => h j (by omega))
    have h2 := h n (by omega)
    show siF (fun k => isI (K k) 0) n + isI (K n) 0 = ((n + 1 : Nat) : Int) - (siF K n + K n)
    by_cases e : K n = 0
    · rw [isI.yes e]
      omega
    · rw [isI.no e]
      omega
theorem siF_1 {K : Nat → Int} {n : Nat} (h : ∀ j : Nat, j < n → 0 ≤ K j ∧ K j ≤ 1) : siF (fun k => isI (K k) 1) n = siF K n ∧ 0 ≤ siF K n ∧ siF K n ≤ n := by
  induction n with
  | zero => exact ⟨rfl, Int.le_refl 0, Int.le_refl 0⟩
  | succ n ih =>
    have h1 := ih (fun j hj => h j (by omega))
    have h2 := h n (by omega)
    show siF (fun k => isI (K k) 1) n + isI (K n) 1 = siF K n + K n ∧ 0 ≤ siF K n + K n ∧ siF K n + K n ≤ ((n + 1 : Nat) : Int)
    by_cases e : K n = 1
    · rw [isI.yes e]
      omega
    · rw [isI.no e]
      omega
theorem smF_si {f : Nat → Int32} {n : Nat} (h8 : n ≤ 8) (h : ∀ j : Nat, j < n → 0 ≤ (f j).toInt ∧ (f j).toInt ≤ 1) : (smF f n).toInt = siF (fun k => (f k).toInt) n := by
  induction n with
  | zero => rfl
  | succ n ih =>
    have h1 := ih (by omega) (fun j hj => h j (by omega))
    have h2 := h n (by omega)
    have h3 := siF_1 (K := fun k => (f k).toInt) (n := n) (fun j hj => h j (by omega))
    show (smF f n + f n).toInt = siF (fun k => (f k).toInt) n + (f n).toInt
    rw [← h1]
    exact ti_add rfl rfl (by omega) (by omega)
theorem account_eq {P : mP} {x y a : Int} (hS : SIM P) (hc : accountC P x a) (hm : accountmC P y a) : x = y := by
  have hN := hS.1
  have hG := hS.2.2.2.2.2.1
  have b := hG.1
  have hn : (fv P 1 1).toInt.toNat = (fv P 302 0).toInt.toNat := by rw [hN.1]
  have e0 : (fv P 1 1).toInt = (fv P 302 0).toInt := congrArg Int32.toInt hN.1
  have e1 : (fv P 1 2).toInt = (fv P 302 1).toInt := congrArg Int32.toInt hN.2.1
  have e2 : (fv P 1 3).toInt = (fv P 302 2).toInt := congrArg Int32.toInt hN.2.2.1
  have e3 : (fv P 79 2).toInt = (fv P 301 4).toInt := hS.2.1.1
  have e4 : (fv P 289 1).toInt = (fv P 301 23).toInt := hS.2.2.2.1.1
  have b0 : 0 ≤ (fv P 302 0).toInt ∧ (fv P 302 0).toInt ≤ 8 := b
  have pt : ∀ k : Nat, k < (fv P 302 0).toInt.toNat → (k : Int) < (sr P 0).toInt := fun k hk => by show (k : Int) < (fv P 302 0).toInt; omega
  have rK : ∀ j : Nat, j < (fv P 302 0).toInt.toNat → 0 ≤ (fv P 302 (3 + 19 * j)).toInt ∧ (fv P 302 (3 + 19 * j)).toInt ≤ 1 := fun j hj => (hN.atn hG (pt j hj)).2.1
  have rF : ∀ j : Nat, j < (fv P 302 0).toInt.toNat → 0 ≤ (fv P 302 (5 + 19 * j)).toInt ∧ (fv P 302 (5 + 19 * j)).toInt ≤ 1 := fun j hj => (hN.atn hG (pt j hj)).2.2
  have sK : ∀ c : Int, siF (fun k : Nat => isI (fv P (rv P 2 k) 0).toInt c) (fv P 302 0).toInt.toNat = siF (fun k : Nat => isI (fv P 302 (3 + 19 * k)).toInt c) (fv P 302 0).toInt.toNat := fun c => siF_congr (fun k hk => by show isI (fv P (rv P 2 k) 0).toInt c = _; rw [(hN.atn hG (pt k hk)).1.1])
  have k0 : siF (fun k : Nat => isI (fv P 302 (3 + 19 * k)).toInt 0) (fv P 302 0).toInt.toNat = ((fv P 302 0).toInt.toNat : Int) - siF (fun k : Nat => (fv P 302 (3 + 19 * k)).toInt) (fv P 302 0).toInt.toNat := siF_0 (K := fun k : Nat => (fv P 302 (3 + 19 * k)).toInt) rK
  have k1 : siF (fun k : Nat => isI (fv P 302 (3 + 19 * k)).toInt 1) (fv P 302 0).toInt.toNat = siF (fun k : Nat => (fv P 302 (3 + 19 * k)).toInt) (fv P 302 0).toInt.toNat := (siF_1 (K := fun k : Nat => (fv P 302 (3 + 19 * k)).toInt) rK).1
  have sF : siF (fun k : Nat => isI (fv P (rv P 2 k) 2).toInt 1) (fv P 302 0).toInt.toNat = (smF (fun k : Nat => fv P 302 (5 + 19 * k)) (fv P 302 0).toInt.toNat).toInt := by
    rw [smF_si (by omega) rF, ← (siF_1 (K := fun k : Nat => (fv P 302 (5 + 19 * k)).toInt) rF).1]
    exact siF_congr (fun k hk => by show isI (fv P (rv P 2 k) 2).toInt 1 = _; rw [(hN.atn hG (pt k hk)).1.2.2.1])
  have sP : siF (fun k : Nat => pnI (fv P (rv P 2 k) 0).toInt (fv P (rv P 2 k) 1).toInt) (fv P 302 0).toInt.toNat = siF (fun k : Nat => pnI (fv P 302 (3 + 19 * k)).toInt (fv P 302 (4 + 19 * k)).toInt) (fv P 302 0).toInt.toNat := siF_congr (fun k hk => by show pnI (fv P (rv P 2 k) 0).toInt (fv P (rv P 2 k) 1).toInt = _; rw [(hN.atn hG (pt k hk)).1.1, (hN.atn hG (pt k hk)).1.2.1])
  have sC : ∀ c : Int, siF (fun k : Nat => cntF (fun j : Nat => fv P (rv P 2 k + 2) j) c (nC (fv P (rv P 2 k) 0).toInt (fv P (rv P 2 k) 1).toInt)) (fv P 302 0).toInt.toNat = siF (fun k : Nat => cntF (fun j : Nat => fv P 302 (14 + 19 * k + j)) c (nC (fv P 302 (3 + 19 * k)).toInt (fv P 302 (4 + 19 * k)).toInt)) (fv P 302 0).toInt.toNat := fun c => siF_congr (fun k hk => by
    have q := (hN.atn hG (pt k hk)).1
    show cntF (fun j : Nat => fv P (rv P 2 k + 2) j) c (nC (fv P (rv P 2 k) 0).toInt (fv P (rv P 2 k) 1).toInt) = _
    rw [q.1, q.2.1]
    exact cntF_congr q.2.2.2.2)
  have sO : (fv P 1 2 - smF (fun k : Nat => wpC P (rv P 2 k)) (fv P 302 0).toInt.toNat).toInt = (fv P 302 1 - smF (fun k : Nat => wpM (sr P) k) (fv P 302 0).toInt.toNat).toInt := by
    rw [occ_eq hN hG (n := (fv P 302 0).toInt.toNat) rfl, hN.2.1]
  unfold accountC at hc
  unfold accountmC at hm
  rw [hn, sK, sK, sF, sP, sC, sC, sC, sO] at hc
  have c1 := sC 1
  clear sC c1 sP sO sF sK rK rF pt hN hG hS
  rcases hc with h | h | h | h | h | h | h | h | h | h | h | h | h | h <;> omega
theorem reflected_eq {P : mP} {s : Nat → Int32} {x y a : Int} (hN : SN P s) (hG : GS s) (hc : reflectedC P x a) (hm : reflectedM s y a) : x = y := by
  have n0 := hN.n0 hG
  have pc := hN.pc hG a
  rcases hc with ⟨x1, x2⟩ | ⟨x1, x2, x3⟩ | ⟨x1, x2, x3⟩ <;> rcases hm with ⟨y1, y2⟩ | ⟨y1, y2, y3⟩ | ⟨y1, y2, y3⟩
  all_goals try omega
  obtain ⟨q, g, -⟩ := hN.at hG (a := a) (by omega) (by omega)
  rw [x3, y3, q.2.1]
  exact rfF_congr (fun j hj => q.2.2.2.1 j (by omega))
