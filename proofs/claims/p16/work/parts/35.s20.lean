/-! share: class and reference answer alike -/
def boOK (q : UInt32) : Bool := decide (fl q q = 0) && decide (boF q = UInt32.toInt32 q)
def qqN (d a : Nat) : UInt32 := FP.fdiv (FP.i2f (Int32.ofNat d)) (FP.i2f (Int32.ofNat a))
theorem bo_all : (List.range 64).all (fun a => (List.range 65).all (fun d => decide (a + 1 < d) || boOK (qqN d (a + 1)))) = true := by decide +kernel
theorem bo_one {D A : Int32} (h0 : 0 ≤ D.toInt) (h1 : D.toInt ≤ A.toInt) (h2 : 1 ≤ A.toInt) (h3 : A.toInt ≤ 64) : fl (FP.fdiv (FP.i2f D) (FP.i2f A)) (FP.fdiv (FP.i2f D) (FP.i2f A)) = 0 ∧ boF (FP.fdiv (FP.i2f D) (FP.i2f A)) = UInt32.toInt32 (FP.fdiv (FP.i2f D) (FP.i2f A)) := by
  have eD : D = Int32.ofNat D.toInt.toNat := (nI_ti h0).symm
  have eA : A = Int32.ofNat (A.toInt.toNat - 1 + 1) := by
    rw [show A.toInt.toNat - 1 + 1 = A.toInt.toNat by omega]
    exact (nI_ti (by omega)).symm
  have q := List.all_eq_true.mp (List.all_eq_true.mp bo_all (A.toInt.toNat - 1) (List.mem_range.mpr (by omega))) D.toInt.toNat (List.mem_range.mpr (by omega))
  rw [decide_eq_false (by omega), Bool.false_or] at q
  unfold boOK qqN at q
  rw [← eD, ← eA, Bool.and_eq_true] at q
  exact ⟨of_decide_eq_true q.1, of_decide_eq_true q.2⟩
theorem cnt3 {g : Nat → Int32} {n : Nat} (h : ∀ j : Nat, j < n → 0 ≤ (g j).toInt ∧ (g j).toInt ≤ 2) : cntF g 0 n + cntF g 1 n + cntF g 2 n = n ∧ 0 ≤ cntF g 0 n ∧ 0 ≤ cntF g 1 n ∧ 0 ≤ cntF g 2 n := by
  induction n with
  | zero => exact ⟨rfl, Int.le_refl 0, Int.le_refl 0, Int.le_refl 0⟩
  | succ n ih =>
    have h1 := ih (fun j hj => h j (by omega))
    have h2 := h n (by omega)
    have e : ∀ c : Int, cntF g c (n + 1) = if (g n).toInt = c then cntF g c n + 1 else cntF g c n := fun _ => rfl
    rw [e 0, e 1, e 2]
    have k : (g n).toInt = 0 ∨ (g n).toInt = 1 ∨ (g n).toInt = 2 := by omega
    rcases k with k | k | k
    · rw [if_pos k, if_neg (by omega), if_neg (by omega)]
      omega
    · rw [if_neg (by omega), if_pos k, if_neg (by omega)]
      omega
    · rw [if_neg (by omega), if_neg (by omega), if_pos k]
      omega
theorem siF_3 {a b c d : Nat → Int} {n : Nat} (h : ∀ j : Nat, j < n → a j + b j + c j = d j ∧ 0 ≤ a j ∧ 0 ≤ b j ∧ 0 ≤ c j ∧ 1 ≤ d j ∧ d j ≤ 8) : siF a n + siF b n + siF c n = siF d n ∧ 0 ≤ siF a n ∧ 0 ≤ siF b n ∧ 0 ≤ siF c n ∧ (n : Int) ≤ siF d n ∧ siF d n ≤ 8 * n := by
  induction n with
  | zero => exact ⟨rfl, Int.le_refl 0, Int.le_refl 0, Int.le_refl 0, Int.le_refl 0, Int.le_refl 0⟩
  | succ n ih =>
    have h1 := ih (fun j hj => h j (by omega))
    have h2 := h n (by omega)
    show siF a n + a n + (siF b n + b n) + (siF c n + c n) = siF d n + d n ∧ 0 ≤ siF a n + a n ∧ 0 ≤ siF b n + b n ∧ 0 ≤ siF c n + c n ∧ ((n + 1 : Nat) : Int) ≤ siF d n + d n ∧ siF d n + d n ≤ 8 * ((n + 1 : Nat) : Int)
    omega
theorem share_eq {P : mP} {x y : Int} (hS : SIM P) (hc : shareC P x) (hm : sharemC P y) : x = y := by
  have hN := hS.1
  have hG := hS.2.2.2.2.2.1
  have b0 : 0 ≤ (fv P 302 0).toInt ∧ (fv P 302 0).toInt ≤ 8 := hG.1
  have hn : (fv P 1 1).toInt.toNat = (fv P 302 0).toInt.toNat := by rw [hN.1]
  have pt : ∀ k : Nat, k < (fv P 302 0).toInt.toNat → (k : Int) < (sr P 0).toInt := fun k hk => by show (k : Int) < (fv P 302 0).toInt; omega
  have sC : ∀ c : Int, siF (fun k : Nat => cntF (fun j : Nat => fv P (rv P 2 k + 2) j) c (nC (fv P (rv P 2 k) 0).toInt (fv P (rv P 2 k) 1).toInt)) (fv P 302 0).toInt.toNat = siF (fun k : Nat => cntF (fun j : Nat => fv P 302 (14 + 19 * k + j)) c (nC (fv P 302 (3 + 19 * k)).toInt (fv P 302 (4 + 19 * k)).toInt)) (fv P 302 0).toInt.toNat := fun c => siF_congr (fun k hk => by
    have q := (hN.atn hG (pt k hk)).1
    show cntF (fun j : Nat => fv P (rv P 2 k + 2) j) c (nC (fv P (rv P 2 k) 0).toInt (fv P (rv P 2 k) 1).toInt) = _
    rw [q.1, q.2.1]
    exact cntF_congr q.2.2.2.2)
  have s3 := siF_3 (n := (fv P 302 0).toInt.toNat) (a := fun k : Nat => cntF (fun j : Nat => fv P 302 (14 + 19 * k + j)) 0 (nC (fv P 302 (3 + 19 * k)).toInt (fv P 302 (4 + 19 * k)).toInt)) (b := fun k : Nat => cntF (fun j : Nat => fv P 302 (14 + 19 * k + j)) 1 (nC (fv P 302 (3 + 19 * k)).toInt (fv P 302 (4 + 19 * k)).toInt)) (c := fun k : Nat => cntF (fun j : Nat => fv P 302 (14 + 19 * k + j)) 2 (nC (fv P 302 (3 + 19 * k)).toInt (fv P 302 (4 + 19 * k)).toInt)) (d := fun k : Nat => crI (fv P 302 (3 + 19 * k)).toInt (fv P 302 (4 + 19 * k)).toInt) (fun k hk => by
    try dsimp only
    have g := GP.n.mp (hG.2.2.2 k (pt k hk))
    have g1 : ((fv P 302 (3 + 19 * k)).toInt = 0 ∧ 2 ≤ (fv P 302 (4 + 19 * k)).toInt ∧ (fv P 302 (4 + 19 * k)).toInt ≤ 7) ∨ ((fv P 302 (3 + 19 * k)).toInt = 1 ∧ 2 ≤ (fv P 302 (4 + 19 * k)).toInt ∧ (fv P 302 (4 + 19 * k)).toInt ≤ 8) := g.1
    have nc : ((nC (fv P 302 (3 + 19 * k)).toInt (fv P 302 (4 + 19 * k)).toInt : Nat) : Int) = crI (fv P 302 (3 + 19 * k)).toInt (fv P 302 (4 + 19 * k)).toInt := by
      unfold nC crI
      split <;> split <;> omega
    have cb : 1 ≤ crI (fv P 302 (3 + 19 * k)).toInt (fv P 302 (4 + 19 * k)).toInt ∧ crI (fv P 302 (3 + 19 * k)).toInt (fv P 302 (4 + 19 * k)).toInt ≤ 8 := by
      unfold crI
      split <;> omega
    have c3 := cnt3 (g := fun j : Nat => fv P 302 (14 + 19 * k + j)) (n := nC (fv P 302 (3 + 19 * k)).toInt (fv P 302 (4 + 19 * k)).toInt) (fun j hj => g.2.2.2 j (by
      have e := ncS_nC g
      have e2 : (j : Int) < ((nC (sr P (3 + 19 * k)).toInt (sr P (4 + 19 * k)).toInt : Nat) : Int) := Int.ofNat_lt.mpr hj
      omega))
    exact ⟨by rw [← nc]; exact c3.1, c3.2.1, c3.2.2.1, c3.2.2.2, cb.1, cb.2⟩)
  unfold shareC at hc
  unfold sharemC at hm
  rw [hn, sC, sC, sC] at hc
  clear sC pt hN hG hS
  obtain ⟨D, A, d1, d2, d3⟩ := hc
  rcases hm with ⟨m1, m2⟩ | ⟨m1, D', A', k1, k2, k3⟩
  · rw [show (fv P 302 0).toInt.toNat = 0 from by omega] at d2
    have z : A.toInt = 0 := d2
    omega
  · have eD : D' = D := Int32.toInt_inj.mp (by omega)
    have eA : A' = A := Int32.toInt_inj.mp (by omega)
    subst eD eA
    rcases d3 with ⟨d3, d4⟩ | ⟨d3, d4⟩
    · omega
    · have bo := bo_one (D := D') (A := A') (by omega) (by omega) (by omega) (by omega)
      rw [bo.2] at d4
      rcases k3 with ⟨k3, k4⟩ | ⟨k3, k4⟩
      · rw [d4, k4]
      · exact absurd bo.1 k3
