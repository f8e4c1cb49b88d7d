/-! M's groups, an instruction a row -/
section AR
variable {cc : ByteArray} {nL pc : Nat} {L L' : List (Nat × Value)} {st r : List Value}
theorem a_iload_n {k : Fin 4} {x : Int32} (hd : decode cc pc = .ok (.iload_n k, 1)) (hg : mget L k = some (.int x)) : mA cc nL pc L st = some (pc + 1, L, .int x :: st) := by simp only [mA, hd, mgI, hg, Option.map_some]
theorem a_iload {i : Nat} {x : Int32} (hd : decode cc pc = .ok (.iload i, 2)) (hg : mget L i = some (.int x)) : mA cc nL pc L st = some (pc + 2, L, .int x :: st) := by simp only [mA, hd, mgI, hg, Option.map_some]
theorem a_aload_n {k : Fin 4} {x : Nat} (hd : decode cc pc = .ok (.aload_n k, 1)) (hg : mget L k = some (.ref x)) : mA cc nL pc L st = some (pc + 1, L, .ref x :: st) := by simp only [mA, hd, hg]
theorem a_aload_nN {k : Fin 4} (hd : decode cc pc = .ok (.aload_n k, 1)) (hg : mget L k = some .null) : mA cc nL pc L st = some (pc + 1, L, .null :: st) := by simp only [mA, hd, hg]
theorem a_aload_nT {k : Fin 4} {z : Int64} (hd : decode cc pc = .ok (.aload_n k, 1)) (hg : mget L k = some (.long z)) : mA cc nL pc L st = some (pc + 1, L, .long z :: st) := by simp only [mA, hd, hg]
theorem a_aload {i : Nat} {x : Nat} (hd : decode cc pc = .ok (.aload i, 2)) (hg : mget L i = some (.ref x)) : mA cc nL pc L st = some (pc + 2, L, .ref x :: st) := by simp only [mA, hd, hg]
theorem a_aloadN {i : Nat} (hd : decode cc pc = .ok (.aload i, 2)) (hg : mget L i = some .null) : mA cc nL pc L st = some (pc + 2, L, .null :: st) := by simp only [mA, hd, hg]
theorem a_iconst {n : Int} {v : Int32} (hd : decode cc pc = .ok (.iconst n, 1)) (hv : Int32.ofInt n = v) : mA cc nL pc L st = some (pc + 1, L, .int v :: st) := by simp only [mA, hd, hv]
theorem a_bipush {n : Int} {v : Int32} (hd : decode cc pc = .ok (.bipush n, 2)) (hv : (Int8.ofInt n).toInt32 = v) : mA cc nL pc L st = some (pc + 2, L, .int v :: st) := by simp only [mA, hd, hv]
theorem a_sipush {n : Int} {v : Int32} (hd : decode cc pc = .ok (.sipush n, 3)) (hv : (Int16.ofInt n).toInt32 = v) : mA cc nL pc L st = some (pc + 3, L, .int v :: st) := by simp only [mA, hd, hv]
theorem a_null (hd : decode cc pc = .ok (.aconst_null, 1)) : mA cc nL pc L st = some (pc + 1, L, .null :: st) := by simp only [mA, hd]
theorem a_istore_n {k : Fin 4} {x : Int32} (hd : decode cc pc = .ok (.istore_n k, 1)) (hk : (k : Nat) < nL) (hL : mput k (.int x) L = L') : mA cc nL pc L (.int x :: r) = some (pc + 1, L', r) := by simp only [mA, hd, hL]; rw [if_pos hk]
theorem a_istore {i : Nat} {x : Int32} (hd : decode cc pc = .ok (.istore i, 2)) (hk : i < nL) (hL : mput i (.int x) L = L') : mA cc nL pc L (.int x :: r) = some (pc + 2, L', r) := by simp only [mA, hd, hL]; rw [if_pos hk]
theorem a_astore_n {k : Fin 4} {x : Nat} (hd : decode cc pc = .ok (.astore_n k, 1)) (hk : (k : Nat) < nL) (hL : mput k (.ref x) L = L') : mA cc nL pc L (.ref x :: r) = some (pc + 1, L', r) := by simp only [mA, hd, hL]; rw [if_pos hk]
theorem a_astore_nN {k : Fin 4} (hd : decode cc pc = .ok (.astore_n k, 1)) (hk : (k : Nat) < nL) (hL : mput k .null L = L') : mA cc nL pc L (.null :: r) = some (pc + 1, L', r) := by simp only [mA, hd, hL]; rw [if_pos hk]
theorem a_astore {i : Nat} {x : Nat} (hd : decode cc pc = .ok (.astore i, 2)) (hk : i < nL) (hL : mput i (.ref x) L = L') : mA cc nL pc L (.ref x :: r) = some (pc + 2, L', r) := by simp only [mA, hd, hL]; rw [if_pos hk]
theorem a_astoreN {i : Nat} (hd : decode cc pc = .ok (.astore i, 2)) (hk : i < nL) (hL : mput i .null L = L') : mA cc nL pc L (.null :: r) = some (pc + 2, L', r) := by simp only [mA, hd, hL]; rw [if_pos hk]
theorem a_iinc {i : Nat} {n : Int} {x v : Int32} (hd : decode cc pc = .ok (.iinc i n, 3)) (hk : i < nL) (hg : mget L i = some (.int x)) (hv : x + Int32.ofInt n = v) (hL : mput i (.int v) L = L') : mA cc nL pc L st = some (pc + 3, L', st) := by
  simp only [mA, hd, mgI, hg, Option.map_some, hv, hL]
  rw [if_pos hk]
theorem a_goto {off : Int} {t : Nat} (hd : decode cc pc = .ok (.goto off, 3)) (ht : (pc : Int) + off = (t : Int)) : mA cc nL pc L st = some (t, L, st) := by
  simp only [mA, hd]
  rw [if_pos (by omega)]
  congr 2
  omega
theorem s_iadd {x y v : Int32} (hd : decode cc pc = .ok (.iadd, 1)) (hv : x + y = v) : mA cc nL pc L (.int y :: .int x :: r) = none ∧ mS cc pc (.int y :: .int x :: r) = some (pc + 1, .int v :: r) := ⟨by simp only [mA, hd], by simp only [mS, hd, mbin, hv]⟩
theorem s_isub {x y v : Int32} (hd : decode cc pc = .ok (.isub, 1)) (hv : x - y = v) : mA cc nL pc L (.int y :: .int x :: r) = none ∧ mS cc pc (.int y :: .int x :: r) = some (pc + 1, .int v :: r) := ⟨by simp only [mA, hd], by simp only [mS, hd, mbin, hv]⟩
theorem s_imul {x y v : Int32} (hd : decode cc pc = .ok (.imul, 1)) (hv : x * y = v) : mA cc nL pc L (.int y :: .int x :: r) = none ∧ mS cc pc (.int y :: .int x :: r) = some (pc + 1, .int v :: r) := ⟨by simp only [mA, hd], by simp only [mS, hd, mbin, hv]⟩
theorem s_iand {x y v : Int32} (hd : decode cc pc = .ok (.iand, 1)) (hv : x &&& y = v) : mA cc nL pc L (.int y :: .int x :: r) = none ∧ mS cc pc (.int y :: .int x :: r) = some (pc + 1, .int v :: r) := ⟨by simp only [mA, hd], by simp only [mS, hd, mbin, hv]⟩
theorem s_ishl {x y v : Int32} (hd : decode cc pc = .ok (.ishl, 1)) (hv : x <<< (y &&& 31) = v) : mA cc nL pc L (.int y :: .int x :: r) = none ∧ mS cc pc (.int y :: .int x :: r) = some (pc + 1, .int v :: r) := ⟨by simp only [mA, hd], by simp only [mS, hd, mbin, hv]⟩
theorem s_ishr {x y v : Int32} (hd : decode cc pc = .ok (.ishr, 1)) (hv : x >>> (y &&& 31) = v) : mA cc nL pc L (.int y :: .int x :: r) = none ∧ mS cc pc (.int y :: .int x :: r) = some (pc + 1, .int v :: r) := ⟨by simp only [mA, hd], by simp only [mS, hd, mbin, hv]⟩
theorem s_idiv {x y v : Int32} (hd : decode cc pc = .ok (.idiv, 1)) (hy : ¬ y = 0) (hv : x / y = v) : mA cc nL pc L (.int y :: .int x :: r) = none ∧ mS cc pc (.int y :: .int x :: r) = some (pc + 1, .int v :: r) := ⟨by simp only [mA, hd], by simp only [mS, hd, mbinD, hv]; rw [if_neg hy]⟩
theorem s_irem {x y v : Int32} (hd : decode cc pc = .ok (.irem, 1)) (hy : ¬ y = 0) (hv : x - x / y * y = v) : mA cc nL pc L (.int y :: .int x :: r) = none ∧ mS cc pc (.int y :: .int x :: r) = some (pc + 1, .int v :: r) := ⟨by simp only [mA, hd], by simp only [mS, hd, mbinD, hv]; rw [if_neg hy]⟩
theorem s_ineg {x v : Int32} (hd : decode cc pc = .ok (.ineg, 1)) (hv : -x = v) : mA cc nL pc L (.int x :: r) = none ∧ mS cc pc (.int x :: r) = some (pc + 1, .int v :: r) := ⟨by simp only [mA, hd], by simp only [mS, hd, hv]⟩
theorem s_dup {v : Value} (hd : decode cc pc = .ok (.dup, 1)) (hv : mcat v = 1) : mA cc nL pc L (v :: r) = none ∧ mS cc pc (v :: r) = some (pc + 1, v :: v :: r) := ⟨by simp only [mA, hd], by simp only [mS, hd]; rw [if_pos hv]⟩
theorem s_pop {v : Value} (hd : decode cc pc = .ok (.pop, 1)) (hv : mcat v = 1) : mA cc nL pc L (v :: r) = none ∧ mS cc pc (v :: r) = some (pc + 1, r) := ⟨by simp only [mA, hd], by simp only [mS, hd]; rw [if_pos hv]⟩
theorem s_dup2 {v w : Value} (hd : decode cc pc = .ok (.dup2, 1)) (hv : mcat v = 1 ∧ mcat w = 1) : mA cc nL pc L (v :: w :: r) = none ∧ mS cc pc (v :: w :: r) = some (pc + 1, v :: w :: v :: w :: r) := ⟨by simp only [mA, hd], by simp only [mS, hd]; rw [if_pos hv]⟩
theorem s_ifnullR {a : Nat} {off : Int} (hd : decode cc pc = .ok (.ifnull off, 3)) : mA cc nL pc L (.ref a :: r) = none ∧ mS cc pc (.ref a :: r) = some (pc + 3, r) := ⟨by simp only [mA, hd], by simp only [mS, hd]⟩
theorem s_ifnullN {off : Int} {t : Nat} (hd : decode cc pc = .ok (.ifnull off, 3)) (ht : (pc : Int) + off = (t : Int)) : mA cc nL pc L (.null :: r) = none ∧ mS cc pc (.null :: r) = some (t, r) := ⟨by simp only [mA, hd], by
  simp only [mS, hd]
  rw [if_pos (by omega)]
  congr 2
  omega⟩
theorem s_ifnonnullN {off : Int} (hd : decode cc pc = .ok (.ifnonnull off, 3)) : mA cc nL pc L (.null :: r) = none ∧ mS cc pc (.null :: r) = some (pc + 3, r) := ⟨by simp only [mA, hd], by simp only [mS, hd]⟩
theorem s_ifnonnullR {a : Nat} {off : Int} {t : Nat} (hd : decode cc pc = .ok (.ifnonnull off, 3)) (ht : (pc : Int) + off = (t : Int)) : mA cc nL pc L (.ref a :: r) = none ∧ mS cc pc (.ref a :: r) = some (t, r) := ⟨by simp only [mA, hd], by
  simp only [mS, hd]
  rw [if_pos (by omega)]
  congr 2
  omega⟩
theorem j_if_eq {x : Int32} {off : Int} (hd : decode cc pc = .ok (.ifCond .eq off, 3)) : mA cc nL pc L (.int x :: r) = none ∧ mS cc pc (.int x :: r) = mjmp (x = 0) pc off r := ⟨by simp only [mA, hd], by simp only [mS, hd, mif1]⟩
theorem j_if_ne {x : Int32} {off : Int} (hd : decode cc pc = .ok (.ifCond .ne off, 3)) : mA cc nL pc L (.int x :: r) = none ∧ mS cc pc (.int x :: r) = mjmp (¬ x = 0) pc off r := ⟨by simp only [mA, hd], by simp only [mS, hd, mif1]⟩
theorem j_if_lt {x : Int32} {off : Int} (hd : decode cc pc = .ok (.ifCond .lt off, 3)) : mA cc nL pc L (.int x :: r) = none ∧ mS cc pc (.int x :: r) = mjmp (x < 0) pc off r := ⟨by simp only [mA, hd], by simp only [mS, hd, mif1]⟩
theorem j_if_ge {x : Int32} {off : Int} (hd : decode cc pc = .ok (.ifCond .ge off, 3)) : mA cc nL pc L (.int x :: r) = none ∧ mS cc pc (.int x :: r) = mjmp (0 ≤ x) pc off r := ⟨by simp only [mA, hd], by simp only [mS, hd, mif1]⟩
theorem j_if_gt {x : Int32} {off : Int} (hd : decode cc pc = .ok (.ifCond .gt off, 3)) : mA cc nL pc L (.int x :: r) = none ∧ mS cc pc (.int x :: r) = mjmp (0 < x) pc off r := ⟨by simp only [mA, hd], by simp only [mS, hd, mif1]⟩
theorem j_if_le {x : Int32} {off : Int} (hd : decode cc pc = .ok (.ifCond .le off, 3)) : mA cc nL pc L (.int x :: r) = none ∧ mS cc pc (.int x :: r) = mjmp (x ≤ 0) pc off r := ⟨by simp only [mA, hd], by simp only [mS, hd, mif1]⟩
theorem j_icmp_eq {x y : Int32} {off : Int} (hd : decode cc pc = .ok (.if_icmp .eq off, 3)) : mA cc nL pc L (.int y :: .int x :: r) = none ∧ mS cc pc (.int y :: .int x :: r) = mjmp (x = y) pc off r := ⟨by simp only [mA, hd], by simp only [mS, hd, mif2]⟩
theorem j_icmp_ne {x y : Int32} {off : Int} (hd : decode cc pc = .ok (.if_icmp .ne off, 3)) : mA cc nL pc L (.int y :: .int x :: r) = none ∧ mS cc pc (.int y :: .int x :: r) = mjmp (¬ x = y) pc off r := ⟨by simp only [mA, hd], by simp only [mS, hd, mif2]⟩
theorem j_icmp_lt {x y : Int32} {off : Int} (hd : decode cc pc = .ok (.if_icmp .lt off, 3)) : mA cc nL pc L (.int y :: .int x :: r) = none ∧ mS cc pc (.int y :: .int x :: r) = mjmp (x < y) pc off r := ⟨by simp only [mA, hd], by simp only [mS, hd, mif2]⟩
theorem j_icmp_ge {x y : Int32} {off : Int} (hd : decode cc pc = .ok (.if_icmp .ge off, 3)) : mA cc nL pc L (.int y :: .int x :: r) = none ∧ mS cc pc (.int y :: .int x :: r) = mjmp (y ≤ x) pc off r := ⟨by simp only [mA, hd], by simp only [mS, hd, mif2]⟩
theorem j_icmp_gt {x y : Int32} {off : Int} (hd : decode cc pc = .ok (.if_icmp .gt off, 3)) : mA cc nL pc L (.int y :: .int x :: r) = none ∧ mS cc pc (.int y :: .int x :: r) = mjmp (y < x) pc off r := ⟨by simp only [mA, hd], by simp only [mS, hd, mif2]⟩
theorem j_icmp_le {x y : Int32} {off : Int} (hd : decode cc pc = .ok (.if_icmp .le off, 3)) : mA cc nL pc L (.int y :: .int x :: r) = none ∧ mS cc pc (.int y :: .int x :: r) = mjmp (x ≤ y) pc off r := ⟨by simp only [mA, hd], by simp only [mS, hd, mif2]⟩
theorem s_tabIn {dflt lo hi : Int} {offs : Array Int} {len t : Nat} {x : Int32} {off : Int} (hd : decode cc pc = .ok (.tableswitch dflt lo hi offs, len)) (h1 : ¬ (x.toInt < lo ∨ hi < x.toInt)) (ho : offs[(x.toInt - lo).toNat]? = some off) (ht : (pc : Int) + off = (t : Int)) : mA cc nL pc L (.int x :: r) = none ∧ mS cc pc (.int x :: r) = some (t, r) := ⟨by simp only [mA, hd], by
  simp only [mS, hd, mtab]
  rw [if_neg h1, ho]
  dsimp only
  rw [if_pos (by omega)]
  congr 2
  omega⟩
theorem s_tabOut {dflt lo hi : Int} {offs : Array Int} {len t : Nat} {x : Int32} (hd : decode cc pc = .ok (.tableswitch dflt lo hi offs, len)) (h1 : x.toInt < lo ∨ hi < x.toInt) (ht : (pc : Int) + dflt = (t : Int)) : mA cc nL pc L (.int x :: r) = none ∧ mS cc pc (.int x :: r) = some (t, r) := ⟨by simp only [mA, hd], by
  simp only [mS, hd, mtab]
  rw [if_pos h1, if_pos (by omega)]
  congr 2
  omega⟩
end AR
section MP
variable {d : Nat} {scr : Option (List Int32)} {q : mQ} {pc : Nat} {L : List (Nat × Value)} {st rest : List Value} {P P1 P' : mP} {cz sz : Nat} {r : Option Value} {Φ : Option Value → mP → Prop}
theorem me_T {z : Nat × List Value} (h : mA q.2.1 q.2.2.1 pc L st = none ∧ mS q.2.1 pc st = some z) (kk : MEv d scr q z.1 L z.2 P cz sz r P') : MEv d scr q pc L st P cz sz r P' := me_S h.1 h.2 kk
theorem mp_T {z : Nat × List Value} (h : mA q.2.1 q.2.2.1 pc L st = none ∧ mS q.2.1 pc st = some z) (kk : MEvP d scr q z.1 L z.2 P cz sz Φ) : MEvP d scr q pc L st P cz sz Φ := mp_S h.1 h.2 kk
theorem me_a {pc' : Nat} {L' : List (Nat × Value)} {st' : List Value} (h : mA q.2.1 q.2.2.1 pc L st = some (pc', L', st')) (kk : MEv d scr q pc' L' st' P cz sz r P') : MEv d scr q pc L st P cz sz r P' := me_A h kk
theorem mp_a {pc' : Nat} {L' : List (Nat × Value)} {st' : List Value} (h : mA q.2.1 q.2.2.1 pc L st = some (pc', L', st')) (kk : MEvP d scr q pc' L' st' P cz sz Φ) : MEvP d scr q pc L st P cz sz Φ := mp_A h kk
theorem me_t {pc' : Nat} {st' : List Value} (h : mA q.2.1 q.2.2.1 pc L st = none ∧ mS q.2.1 pc st = some (pc', st')) (kk : MEv d scr q pc' L st' P cz sz r P') : MEv d scr q pc L st P cz sz r P' := me_T h kk
theorem mp_t {pc' : Nat} {st' : List Value} (h : mA q.2.1 q.2.2.1 pc L st = none ∧ mS q.2.1 pc st = some (pc', st')) (kk : MEvP d scr q pc' L st' P cz sz Φ) : MEvP d scr q pc L st P cz sz Φ := mp_T h kk
theorem mpe (n : Nat) (h : pc = n) (kk : MEv d scr q n L st P cz sz r P') : MEv d scr q pc L st P cz sz r P' := h ▸ kk
theorem mpp (n : Nat) (h : pc = n) (kk : MEvP d scr q n L st P cz sz Φ) : MEvP d scr q pc L st P cz sz Φ := h ▸ kk
theorem me_Tt {c : Prop} [Decidable c] {off : Int} {t : Nat} (h : mA q.2.1 q.2.2.1 pc L st = none ∧ mS q.2.1 pc st = mjmp c pc off rest) (hc : c) (ht : (pc : Int) + off = (t : Int)) (kt : MEv d scr q t L rest P cz sz r P') : MEv d scr q pc L st P cz sz r P' := me_S (z := (t, rest)) h.1 (h.2.trans (mjmp_t hc ht)) kt
theorem me_Tf {c : Prop} [Decidable c] {off : Int} {t : Nat} (h : mA q.2.1 q.2.2.1 pc L st = none ∧ mS q.2.1 pc st = mjmp c pc off rest) (hc : ¬ c) (ht : (pc : Int) + off = (t : Int)) (kt : MEv d scr q (pc + 3) L rest P cz sz r P') : MEv d scr q pc L st P cz sz r P' := me_S (z := (pc + 3, rest)) h.1 (h.2.trans (mjmp_f hc ht)) kt
theorem mp_Tb {c : Prop} [Decidable c] {off : Int} {t : Nat} (h : mA q.2.1 q.2.2.1 pc L st = none ∧ mS q.2.1 pc st = mjmp c pc off rest) (ht : (pc : Int) + off = (t : Int)) (kt : c → MEvP d scr q t L rest P cz sz Φ) (kf : ¬ c → MEvP d scr q (pc + 3) L rest P cz sz Φ) : MEvP d scr q pc L st P cz sz Φ := mp_br h.1 h.2 ht kt kf
theorem mp_Tt {c : Prop} [Decidable c] {off : Int} {t : Nat} (h : mA q.2.1 q.2.2.1 pc L st = none ∧ mS q.2.1 pc st = mjmp c pc off rest) (hc : c) (ht : (pc : Int) + off = (t : Int)) (kt : MEvP d scr q t L rest P cz sz Φ) : MEvP d scr q pc L st P cz sz Φ := mp_brt hc h.1 h.2 ht kt
theorem mp_Tf {c : Prop} [Decidable c] {off : Int} {t : Nat} (h : mA q.2.1 q.2.2.1 pc L st = none ∧ mS q.2.1 pc st = mjmp c pc off rest) (hc : ¬ c) (ht : (pc : Int) + off = (t : Int)) (kf : MEvP d scr q (pc + 3) L rest P cz sz Φ) : MEvP d scr q pc L st P cz sz Φ := mp_brf hc h.1 h.2 ht kf
theorem mp_ret (hΦ : Φ none P) (hd : decode q.2.1 pc = .ok (.return_, 1)) (hr : q.2.2.2.1 = none) : MEvP d none q pc L [] P cz sz Φ := by
  refine mp_R hΦ (by simp only [mA, hd]) (by simp only [mS, hd]) (by simp only [mB, hd]) (fun call => by simp only [mC, hd]) (by simp only [mN, hd]) rfl ?_
  simp only [mret, hd, hr]
  rfl
theorem mp_iret {x : Int32} (hΦ : Φ (some (.int x)) P) (hd : decode q.2.1 pc = .ok (.ireturn, 1)) (hr : q.2.2.2.1 = some .int ∨ (q.2.2.2.1 = some .boolean ∧ (x = 0 ∨ x = 1))) : MEvP d none q pc L [.int x] P cz sz Φ := by
  refine mp_R hΦ (by simp only [mA, hd]) (by simp only [mS, hd]) (by simp only [mB, hd]) (fun call => by simp only [mC, hd]) (by simp only [mN, hd]) rfl ?_
  simp only [mret, hd]
  rw [if_pos hr]
theorem mp_aret {a : Nat} {C : String} (hΦ : Φ (some (.ref a)) P) (hd : decode q.2.1 pc = .ok (.areturn, 1)) (hr : q.2.2.2.1 = some (.object C)) : MEvP d none q pc L [.ref a] P cz sz Φ := by
  refine mp_R hΦ (by simp only [mA, hd]) (by simp only [mS, hd]) (by simp only [mB, hd]) (fun call => by simp only [mC, hd]) (by simp only [mN, hd]) rfl ?_
  simp only [mret, hd, hr]
theorem mp_aretN {C : String} (hΦ : Φ (some .null) P) (hd : decode q.2.1 pc = .ok (.areturn, 1)) (hr : q.2.2.2.1 = some (.object C)) : MEvP d none q pc L [.null] P cz sz Φ := by
  refine mp_R hΦ (by simp only [mA, hd]) (by simp only [mS, hd]) (by simp only [mB, hd]) (fun call => by simp only [mC, hd]) (by simp only [mN, hd]) rfl ?_
  simp only [mret, hd, hr]
end MP
