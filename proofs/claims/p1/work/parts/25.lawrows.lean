/-! the law's own rows -/
section ML
variable {d : Nat} {q : mQ} {pc : Nat} {L : List (Nat × Value)} {st rest : List Value} {P : mP} {cz sz : Nat} {Φ : Option Value → mP → Prop} {xs : List Int32}
theorem mp_slen {z : Int64} {n : Int32} (hd : decode q.2.1 pc = .ok (.arraylength, 1)) (hn : Int32.ofNat xs.length = n) (kk : MEvP d (some xs) q (pc + 1) L (.int n :: rest) P cz sz Φ) : MEvP d (some xs) q pc L (.long z :: rest) P cz sz Φ := by
  subst hn
  exact mp_K (z := (pc + 1, _)) (by simp only [mA, hd]) (by simp only [mS, hd]) (by simp only [mB, hd]) (fun call => by simp only [mC, hd]) (by simp only [mN, hd]) (by simp only [mK, hd]) kk
theorem mp_sld {z : Int64} {i v : Int32} {N : Nat} (hd : decode q.2.1 pc = .ok (.iaload, 1)) (hN : xs.length = N) (hi : ¬ (i < 0 ∨ N ≤ i.toNatClampNeg)) (hv : xs.getD i.toNatClampNeg 0 = v) (kk : MEvP d (some xs) q (pc + 1) L (.int v :: rest) P cz sz Φ) : MEvP d (some xs) q pc L (.int i :: .long z :: rest) P cz sz Φ := by
  subst hv
  subst hN
  refine mp_K (z := (pc + 1, _)) (by simp only [mA, hd]) (by simp only [mS, hd]) (by simp only [mB, hd]) (fun call => by simp only [mC, hd]) (by simp only [mN, hd]) ?_ kk
  simp only [mK, hd]
  rw [if_neg hi]
theorem mp_iretS {x : Int32} (hΦ : Φ (some (.int x)) P) (hd : decode q.2.1 pc = .ok (.ireturn, 1)) (hr : q.2.2.2.1 = some .int ∨ (q.2.2.2.1 = some .boolean ∧ (x = 0 ∨ x = 1))) : MEvP d (some xs) q pc L [.int x] P cz sz Φ := by
  refine mp_R hΦ (by simp only [mA, hd]) (by simp only [mS, hd]) (by simp only [mB, hd]) (fun call => by simp only [mC, hd]) (by simp only [mN, hd]) (by simp only [mK, hd]) ?_
  simp only [mret, hd]
  rw [if_pos hr]
end ML
def lawq : mQ := (yL_law, code, 4, some .boolean, 1, 8, 600000, 7302250)
