/-! the snapshot -/
def SNAP (P : mP) : Prop := (fv P 0 8).toInt = (fv P 301 8).toInt ∧ ((fv P 301 8).toInt = 1 → SRs P 53 304 0)
theorem snap0 : SNAP P0 := ⟨by decide +kernel, fun h => by
  rw [show (fv P0 301 8).toInt = 0 by decide +kernel] at h
  omega⟩
theorem SNAP.same {P Q : mP} (h : SNAP P) (f1 : fv Q 0 8 = fv P 0 8) (f2 : fv Q 301 8 = fv P 301 8) (f3 : ∀ x j : Nat, 53 ≤ x → x < 79 → fv Q x j = fv P x j) (f4 : ∀ j : Nat, fv Q 304 j = fv P 304 j) : SNAP Q := by
  unfold SNAP
  rw [f1, f2]
  exact ⟨h.1, fun hz => (h.2 hz).move (SCs.same (fun x j h1 h2 => f3 x j h1 (by omega))) (fun j hj => f4 _)⟩
theorem SNAP.save {P Q : mP} (hs : SRn P) (e1 : (fv Q 0 8).toInt = 1) (e2 : (fv Q 301 8).toInt = 1) (hS : SCn Q 53 P) (g : ∀ j : Nat, j < 155 → fv Q 304 j = fv P 302 j) : SNAP Q := ⟨e1.trans e2.symm, fun _ => hs.save hS (fun j hj => by rw [Nat.zero_add]; exact g j hj)⟩
theorem SNAP.load {P Q : mP} (h : SNAP P) (hz : (fv P 301 8).toInt = 1) (hS : SCi Q P 53) (g : ∀ j : Nat, j < 155 → fv Q 302 j = fv P 304 j) (hr : ∀ k : Nat, rv Q 2 k = rv P 2 k) : SRn Q := (h.2 hz).load hS (fun j hj => by rw [Nat.zero_add]; exact g j hj) hr
theorem HR.clear {Q : mP} (h1 : (fv Q 79 2).toInt = 0) (h2 : (fv Q 301 4).toInt = 0) : HR Q := ⟨h1.trans h2.symm, fun i _ hz => by omega⟩
