/-! the stage's own state against a row; what is good of a row -/
def ncS (s : Nat → Int32) (o : Nat) : Int := (s (o + 1)).toInt - (if (s o).toInt = 1 then 0 else 1)
def PS (P : mP) (b : Nat) (s : Nat → Int32) (o : Nat) : Prop := fv P b 0 = s o ∧ fv P b 1 = s (o + 1) ∧ fv P b 2 = s (o + 2) ∧ (∀ j : Nat, j < 8 → (j : Int) < (s (o + 1)).toInt → fv P (b + 1) j = s (o + 3 + j)) ∧ ∀ j : Nat, j < 8 → (j : Int) < ncS s o → fv P (b + 2) j = s (o + 11 + j)
def SN (P : mP) (s : Nat → Int32) : Prop := fv P 1 1 = s 0 ∧ fv P 1 2 = s 1 ∧ fv P 1 3 = s 2 ∧ ∀ k : Nat, k < 8 → (k : Int) < (s 0).toInt → PS P (rv P 2 k) s (3 + 19 * k)
theorem srn_iff {P : mP} : SRn P ↔ SN P (sr P) := Iff.rfl
theorem PS.row {P P1 : mP} {b b' : Nat} {s s' : Nat → Int32} {o o' : Nat} (h : PS P b s o) (e : PE P1 b' P b) (g : ∀ j : Nat, j < 19 → s' (o' + j) = s (o + j)) : PS P1 b' s' o' := by
  have g0 : s' o' = s o := g 0 (by omega)
  have g1 := g 1 (by omega)
  have g2 := g 2 (by omega)
  have hn : ncS s' o' = ncS s o := by unfold ncS; rw [g0, g1]
  refine ⟨e.1.trans (h.1.trans g0.symm), e.2.1.trans (h.2.1.trans g1.symm), e.2.2.1.trans (h.2.2.1.trans g2.symm), fun j hj hz => ?_, fun j hj hz => ?_⟩
  · rw [g1] at hz
    rw [e.2.2.2.1 j hj, h.2.2.2.1 j hj hz, Nat.add_assoc, Nat.add_assoc, g (3 + j) (by omega)]
  · rw [hn] at hz
    rw [e.2.2.2.2 j hj, h.2.2.2.2 j hj hz, Nat.add_assoc, Nat.add_assoc, g (11 + j) (by omega)]
/-- a piece as it may stand -/
def GP (s : Nat → Int32) (o : Nat) : Prop := (((s o).toInt = 0 ∧ 2 ≤ (s (o + 1)).toInt ∧ (s (o + 1)).toInt ≤ 7) ∨ ((s o).toInt = 1 ∧ 2 ≤ (s (o + 1)).toInt ∧ (s (o + 1)).toInt ≤ 8)) ∧ (0 ≤ (s (o + 2)).toInt ∧ (s (o + 2)).toInt ≤ 1) ∧ (∀ j : Nat, (j : Int) < (s (o + 1)).toInt → 0 ≤ (s (o + 3 + j)).toInt ∧ (s (o + 3 + j)).toInt ≤ 9) ∧ ∀ j : Nat, (j : Int) < ncS s o → 0 ≤ (s (o + 11 + j)).toInt ∧ (s (o + 11 + j)).toInt ≤ 2
theorem ncS_le {s : Nat → Int32} {o : Nat} : ncS s o ≤ (s (o + 1)).toInt := by
  unfold ncS
  split <;> omega
theorem GP.row {s s' : Nat → Int32} {o o' : Nat} (h : GP s o) (g : ∀ j : Nat, j < 19 → s' (o' + j) = s (o + j)) : GP s' o' := by
  have g0 : s' o' = s o := g 0 (by omega)
  have g1 := g 1 (by omega)
  have g2 := g 2 (by omega)
  have hn : ncS s' o' = ncS s o := by unfold ncS; rw [g0, g1]
  obtain ⟨h1, h2, h3, h4⟩ := h
  have hl := ncS_le (s := s) (o := o)
  refine ⟨by rw [g0, g1]; exact h1, by rw [g2]; exact h2, fun j hj => ?_, fun j hj => ?_⟩
  · rw [g1] at hj
    rw [Nat.add_assoc, g (3 + j) (by omega), ← Nat.add_assoc]
    exact h3 j hj
  · rw [hn] at hj
    rw [Nat.add_assoc, g (11 + j) (by omega), ← Nat.add_assoc]
    exact h4 j hj
theorem wpM_row {s s' : Nat → Int32} {k k' : Nat} (h8 : (s (4 + 19 * k)).toInt ≤ 8) (g : ∀ j : Nat, j < 19 → s' (3 + 19 * k' + j) = s (3 + 19 * k + j)) : wpM s' k' = wpM s k := by
  have e0 : s' (3 + 19 * k') = s (3 + 19 * k) := g 0 (by omega)
  have e1 : s' (4 + 19 * k') = s (4 + 19 * k) := by have := g 1 (by omega); rwa [show 3 + 19 * k' + 1 = 4 + 19 * k' by omega, show 3 + 19 * k + 1 = 4 + 19 * k by omega] at this
  have e2 : s' (5 + 19 * k') = s (5 + 19 * k) := by have := g 2 (by omega); rwa [show 3 + 19 * k' + 2 = 5 + 19 * k' by omega, show 3 + 19 * k + 2 = 5 + 19 * k by omega] at this
  unfold wpM
  rw [e0, e1, e2, wdF_congr rfl rfl (fun j hj => ?_)]
  have := g (3 + j) (by omega)
  rwa [show 3 + 19 * k' + (3 + j) = 6 + 19 * k' + j by omega, show 3 + 19 * k + (3 + j) = 6 + 19 * k + j by omega] at this
theorem wpM_0 {s : Nat → Int32} {k : Nat} (h : ¬ (s (5 + 19 * k)).toInt = 1) : wpM s k = 0 := if_neg h
/-- bounds -/
theorem plF_bnd {f : Nat → Int32} {n : Nat} (h8 : n ≤ 8) (h : ∀ j : Nat, j < n → 0 ≤ (f j).toInt ∧ (f j).toInt ≤ 9) : -(9 * n : Int) ≤ (plF f n).toInt ∧ (plF f n).toInt ≤ 9 * n := by
  induction n with
  | zero =>
    have q : (plF f 0).toInt = 0 := rfl
    omega
  | succ n ih =>
    have i := ih (by omega) (fun j hj => h j (by omega))
    have b := h n (by omega)
    have e1 : (plF f n + f n).toInt = (plF f n).toInt + (f n).toInt := ti_add rfl rfl (by omega) (by omega)
    have e2 : (plF f n + -f n).toInt = (plF f n).toInt - (f n).toInt := by rw [← Int32.sub_eq_add_neg]; exact ti_sub rfl rfl (by omega) (by omega)
    show _ ≤ (if n % 2 = 0 then plF f n + f n else plF f n + -f n).toInt ∧ (if n % 2 = 0 then plF f n + f n else plF f n + -f n).toInt ≤ _
    split <;> omega
theorem mxI_ti {x y : Int32} : (mxI x y).toInt = max x.toInt y.toInt := by
  unfold mxI
  split
  · rename_i c
    have := ti_lt c
    omega
  · rename_i c
    have := ti_lt_n c
    omega
theorem mnI_ti {x y : Int32} : (mnI x y).toInt = min x.toInt y.toInt := by
  unfold mnI
  split
  · rename_i c
    have := ti_lt c
    omega
  · rename_i c
    have := ti_lt_n c
    omega
theorem mxF_bnd {f : Nat → Int32} {n : Nat} (h : ∀ j : Nat, j < n → 0 ≤ (f j).toInt ∧ (f j).toInt ≤ 9) : 0 ≤ (mxF f n).toInt ∧ (mxF f n).toInt ≤ 9 := by
  induction n with
  | zero =>
    have q : (mxF f 0).toInt = 0 := rfl
    omega
  | succ n ih =>
    have i := ih (fun j hj => h j (by omega))
    have b := h n (by omega)
    show 0 ≤ (mxI _ _).toInt ∧ (mxI _ _).toInt ≤ 9
    rw [mxI_ti]
    omega
theorem hiF_bnd {f : Nat → Int32} {n : Nat} (h8 : n ≤ 8) (h : ∀ j : Nat, j < n → 0 ≤ (f j).toInt ∧ (f j).toInt ≤ 9) : 0 ≤ (hiF f n).toInt ∧ (hiF f n).toInt ≤ 72 := by
  induction n with
  | zero =>
    have q : (hiF f 0).toInt = 0 := rfl
    omega
  | succ n ih =>
    have i := ih (by omega) (fun j hj => h j (by omega))
    have b := plF_bnd h8 h
    show 0 ≤ (mxI _ _).toInt ∧ (mxI _ _).toInt ≤ 72
    rw [mxI_ti]
    omega
theorem loF_bnd {f : Nat → Int32} {n : Nat} (h8 : n ≤ 8) (h : ∀ j : Nat, j < n → 0 ≤ (f j).toInt ∧ (f j).toInt ≤ 9) : -72 ≤ (loF f n).toInt ∧ (loF f n).toInt ≤ 0 := by
  induction n with
  | zero =>
    have q : (loF f 0).toInt = 0 := rfl
    omega
  | succ n ih =>
    have i := ih (by omega) (fun j hj => h j (by omega))
    have b := plF_bnd h8 h
    show -72 ≤ (mnI _ _).toInt ∧ (mnI _ _).toInt ≤ 0
    rw [mnI_ti]
    omega
theorem wdF_bnd {kd : Int} {f : Nat → Int32} {n : Nat} (h8 : n ≤ 8) (h : ∀ j : Nat, j < n → 0 ≤ (f j).toInt ∧ (f j).toInt ≤ 9) : 0 ≤ (wdF kd f n).toInt ∧ (wdF kd f n).toInt ≤ 144 := by
  unfold wdF
  split
  · have := mxF_bnd h
    omega
  · have a := hiF_bnd h8 h
    have b := loF_bnd h8 h
    have e : (hiF f n - loF f n).toInt = (hiF f n).toInt - (loF f n).toInt := ti_sub rfl rfl (by omega) (by omega)
    omega
theorem GP.wd {s : Nat → Int32} {k : Nat} (h : GP s (3 + 19 * k)) : 0 ≤ (wdF (s (3 + 19 * k)).toInt (fun j => s (6 + 19 * k + j)) (s (4 + 19 * k)).toInt.toNat).toInt ∧ (wdF (s (3 + 19 * k)).toInt (fun j => s (6 + 19 * k + j)) (s (4 + 19 * k)).toInt.toNat).toInt ≤ 144 := by
  obtain ⟨h1, -, h3, -⟩ := h
  rw [show 3 + 19 * k + 1 = 4 + 19 * k by omega] at h1 h3
  refine wdF_bnd (by omega) (fun j hj => ?_)
  have := h3 j (by omega)
  rwa [show 3 + 19 * k + 3 + j = 6 + 19 * k + j by omega] at this
theorem GP.wp {s : Nat → Int32} {k : Nat} (h : GP s (3 + 19 * k)) : 0 ≤ (wpM s k).toInt ∧ (wpM s k).toInt ≤ 144 := by
  unfold wpM
  split
  · exact h.wd
  · exact ⟨by decide, by decide⟩
theorem smF_bnd {f : Nat → Int32} {n : Nat} (h8 : n ≤ 8) (h : ∀ j : Nat, j < n → 0 ≤ (f j).toInt ∧ (f j).toInt ≤ 144) : 0 ≤ (smF f n).toInt ∧ (smF f n).toInt ≤ 144 * n := by
  induction n with
  | zero =>
    have q : (smF f 0).toInt = 0 := rfl
    omega
  | succ n ih =>
    have i := ih (by omega) (fun j hj => h j (by omega))
    have b := h n (by omega)
    have e : (smF f n + f n).toInt = (smF f n).toInt + (f n).toInt := ti_add rfl rfl (by omega) (by omega)
    show 0 ≤ (smF f n + f n).toInt ∧ (smF f n + f n).toInt ≤ _
    omega
/-- one entry of a sum is another -/
theorem smF_upd {f g : Nat → Int32} {n p : Nat} (h8 : n ≤ 8) (hf : ∀ j : Nat, j < n → 0 ≤ (f j).toInt ∧ (f j).toInt ≤ 144) (hg : ∀ j : Nat, j < n → 0 ≤ (g j).toInt ∧ (g j).toInt ≤ 144) (hp : p < n) (h : ∀ j : Nat, j < n → ¬ j = p → g j = f j) : (smF g n).toInt = (smF f n).toInt + (g p).toInt - (f p).toInt := by
  induction n with
  | zero => omega
  | succ n ih =>
    have bf := smF_bnd (f := f) (n := n) (by omega) (fun j hj => hf j (by omega))
    have bg := smF_bnd (f := g) (n := n) (by omega) (fun j hj => hg j (by omega))
    have b1 := hf n (by omega)
    have b2 := hg n (by omega)
    have e1 : (smF f n + f n).toInt = (smF f n).toInt + (f n).toInt := ti_add rfl rfl (by omega) (by omega)
    have e2 : (smF g n + g n).toInt = (smF g n).toInt + (g n).toInt := ti_add rfl rfl (by omega) (by omega)
    show (smF g n + g n).toInt = (smF f n + f n).toInt + _ - _
    by_cases e : p = n
    · subst e
      rw [e1, e2, smF_congr (f := g) (g := f) (fun j hj => h j (by omega) (by omega))]
      omega
    · have i := ih (by omega) (fun j hj => hf j (by omega)) (fun j hj => hg j (by omega)) (by omega) (fun j hj hn => h j (by omega) hn)
      rw [e1, e2, h n (by omega) (fun q => e q.symm)]
      omega
/-- one entry of a sum is gone -/
theorem smF_del {f g : Nat → Int32} {n p : Nat} (h8 : n + 1 ≤ 8) (hf : ∀ j : Nat, j < n + 1 → 0 ≤ (f j).toInt ∧ (f j).toInt ≤ 144) (hp : p < n + 1) (h : ∀ j : Nat, j < n → g j = if p ≤ j then f (j + 1) else f j) : (smF g n).toInt = (smF f (n + 1)).toInt - (f p).toInt := by
  induction n with
  | zero =>
    have e : p = 0 := by omega
    subst e
    have b := hf 0 (by omega)
    have e1 : (smF f 0 + f 0).toInt = (smF f 0).toInt + (f 0).toInt := ti_add rfl rfl (by have : (smF f 0).toInt = 0 := rfl; omega) (by have : (smF f 0).toInt = 0 := rfl; omega)
    show (0 : Int32).toInt = (smF f 0 + f 0).toInt - _
    rw [e1]
    have : (smF f 0).toInt = 0 := rfl
    have h0 : (0 : Int32).toInt = 0 := rfl
    omega
  | succ n ih =>
    have bf := smF_bnd (f := f) (n := n + 1) (by omega) (fun j hj => hf j (by omega))
    have b1 := hf (n + 1) (by omega)
    have e1 : (smF f (n + 1) + f (n + 1)).toInt = (smF f (n + 1)).toInt + (f (n + 1)).toInt := ti_add rfl rfl (by omega) (by omega)
    show (smF g n + g n).toInt = (smF f (n + 1) + f (n + 1)).toInt - _
    by_cases e : p = n + 1
    · subst e
      have q : smF g (n + 1) = smF f (n + 1) := smF_congr (fun j hj => by rw [h j (by omega), if_neg (by omega)])
      have q2 : smF g (n + 1) = smF g n + g n := rfl
      rw [← q2, q, e1]
      omega
    · have i := ih (by omega) (fun j hj => hf j (by omega)) (by omega) (fun j hj => h j (by omega))
      have gn := h n (by omega)
      rw [if_pos (by omega)] at gn
      have bp := hf p (by omega)
      have bg : 0 ≤ (smF g n).toInt ∧ (smF g n).toInt ≤ 144 * n := by
        refine smF_bnd (by omega) (fun j hj => ?_)
        rw [h j (by omega)]
        split
        · exact hf _ (by omega)
        · exact hf _ (by omega)
      have e2 : (smF g n + g n).toInt = (smF g n).toInt + (g n).toInt := ti_add rfl rfl (by rw [gn]; omega) (by rw [gn]; omega)
      rw [e2, e1, gn]
      omega
