/-! methods on typed pools, 32 (written by a program) -/
set_option maxHeartbeats 4000000 in
theorem c_M_crimped_l30 {Po : mP}  (hT : Typ Po)   : ∀ (n : Nat) (v1 : Int32), ((fv Po 301 14).toInt ≠ 0 ∨ 1 ≤ v1.toInt) → (0 ≤ v1.toInt) → ((fv Po 301 14).toInt = 0 ∨ 3 ≤ (fv Po 301 13).toInt) → (∀ j : Nat, (1 ≤ (j : Int) ∨ (fv Po 301 14).toInt ≠ 0) → (j : Int) < v1.toInt → ¬ CRf cM (fv Po 301 13).toInt.toNat (fun j : Nat => fv Po 308 j) (GM Po) j) → (2147483647 - v1.toInt).toNat = n → MEvP 0 none q_168 30 [(0, .ref 301), (1, .int v1)] [] Po 0 0 (fun r P' => (∃ x : Int32, r = some (.int x) ∧ ((x.toInt = -1 ∨ ((fv Po 301 14).toInt = 1 ∧ 3 ≤ (fv Po 301 13).toInt ∧ 0 ≤ x.toInt ∧ x.toInt + 1 ≤ (fv Po 301 13).toInt) ∨ ((fv Po 301 14).toInt = 0 ∧ 1 ≤ x.toInt ∧ x.toInt + 2 ≤ (fv Po 301 13).toInt)) ∧ CPM (decide ((fv Po 301 14).toInt = 0)) (fv Po 301 13).toInt.toNat (fun j : Nat => fv Po 308 j) (GM Po) x.toInt)) ∧ P' = Po) := by
  intro n
  induction n using Nat.strongRecOn with | _ n ih => ?_
  intro v1 i_0 i_1 i_2 i_3 hm
  have w_v1 := ti_full v1
  have g1 : (0 : Int) ≤ (fv Po 301 14).toInt ∧ (fv Po 301 14).toInt ≤ 1 := Typ.rng hT rl_301 (by decide) (by decide) rfl
  have g2 : (0 : Int) ≤ (fv Po 301 13).toInt ∧ (fv Po 301 13).toInt ≤ 8 := Typ.rng hT rl_301 (by decide) (by decide) rfl
  refine mp_a (a_iload_n dX7_crimped_30 rfl) (mpp 31 rfl ?_)
  refine mp_a (a_aload_n dX7_crimped_31 rfl) (mpp 32 rfl ?_)
  refine mt_getI (i := 161) (k := 14) hT dX7_crimped_32 rfl rl_301 (by decide) rfl (by decide) rfl (fun g3 g4 => mpp 35 rfl ?_)
  refine mp_Tb (t := 45) (j_if_eq dX7_crimped_35) (by decide) (fun c5 => ?_) (fun c5 => mpp 38 rfl ?_)
  · have c5 : (fv Po 301 14).toInt = 0 := ti_eq c5
    refine mp_a (a_aload_n dX7_crimped_45 rfl) (mpp 46 rfl ?_)
    refine mt_getI (i := 165) (k := 13) hT dX7_crimped_46 rfl rl_301 (by decide) rfl (by decide) rfl (fun g6 g7 => mpp 49 rfl ?_)
    refine mp_a (a_iconst (v := 1) dX7_crimped_49 rfl) (mpp 50 rfl ?_)
    obtain ⟨z8, h9⟩ := ti_ex ((fv Po 301 13) - 1 : Int32)
    have wz8 := ti_full z8
    refine mp_t (s_isub (v := z8) dX7_crimped_50 h9) (mpp 51 rfl ?_)
    try have e10 : z8.toInt = (fv Po 301 13).toInt - 1 := ti_subz h9 rfl rfl (by omega) (by omega)
    refine mp_Tb (t := 191) (j_icmp_ge dX7_crimped_51) (by decide) (fun c11 => ?_) (fun c11 => mpp 54 rfl ?_)
    · have c11 : v1.toInt ≥ z8.toInt := ti_ge c11
      refine mp_a (a_iconst (v := -1) dX7_crimped_191 rfl) (mpp 192 rfl ?_)
      have u12 : ((-1 : Int) = -1 ∨ ((fv Po 301 14).toInt = 1 ∧ 3 ≤ (fv Po 301 13).toInt ∧ 0 ≤ (-1 : Int) ∧ (-1 : Int) + 1 ≤ (fv Po 301 13).toInt) ∨ ((fv Po 301 14).toInt = 0 ∧ 1 ≤ (-1 : Int) ∧ (-1 : Int) + 2 ≤ (fv Po 301 13).toInt)) ∧ CPM (decide ((fv Po 301 14).toInt = 0)) (fv Po 301 13).toInt.toNat (fun j : Nat => fv Po 308 j) (GM Po) (-1 : Int) := ⟨by omega, if hk : (fv Po 301 14).toInt = 0 then (by rw [decide_eq_true (show (fv Po 301 14).toInt = 0 from by omega)]; exact Or.inr ⟨fun q => absurd q.1 (by decide), Or.inr ⟨fun j h1 h2 => i_3 j (Or.inl (by have h1 : 1 ≤ j := h1; omega)) (by have h2 : j < (fv Po 301 13).toInt.toNat - 1 := h2; omega), rfl⟩⟩) else (by rw [decide_eq_false (show ¬ (fv Po 301 14).toInt = 0 from by omega)]; exact Or.inr ⟨fun q => by have := q.2; omega, Or.inr ⟨fun j h1 h2 => i_3 j (Or.inr (by omega)) (by have h2 : j < (fv Po 301 13).toInt.toNat := h2; omega), rfl⟩⟩)⟩
      exact mp_iret ⟨⟨_, rfl, u12⟩, rfl⟩ dX7_crimped_192 (Or.inl rfl)
    · have c11 : v1.toInt < z8.toInt := ti_ge_n c11
      refine mp_a (a_iload_n dX7_crimped_54 rfl) (mpp 55 rfl ?_)
      refine mp_a (a_aload_n dX7_crimped_55 rfl) (mpp 56 rfl ?_)
      refine mt_getI (i := 165) (k := 13) hT dX7_crimped_56 rfl rl_301 (by decide) rfl (by decide) rfl (fun g14 g15 => mpp 59 rfl ?_)
      obtain ⟨z16, h17⟩ := ti_ex (v1 + (fv Po 301 13) : Int32)
      have wz16 := ti_full z16
      refine mp_t (s_iadd (v := z16) dX7_crimped_59 h17) (mpp 60 rfl ?_)
      try have e18 : z16.toInt = v1.toInt + (fv Po 301 13).toInt := ti_addz h17 rfl rfl (by omega) (by omega)
      refine mp_a (a_iconst (v := 1) dX7_crimped_60 rfl) (mpp 61 rfl ?_)
      obtain ⟨z19, h20⟩ := ti_ex (z16 - 1 : Int32)
      have wz19 := ti_full z19
      refine mp_t (s_isub (v := z19) dX7_crimped_61 h20) (mpp 62 rfl ?_)
      try have e21 : z19.toInt = z16.toInt - 1 := ti_subz h20 rfl rfl (by omega) (by omega)
      refine mp_a (a_aload_n dX7_crimped_62 rfl) (mpp 63 rfl ?_)
      refine mt_getI (i := 165) (k := 13) hT dX7_crimped_63 rfl rl_301 (by decide) rfl (by decide) rfl (fun g22 g23 => mpp 66 rfl ?_)
      obtain ⟨z24, h25⟩ := ti_ex (z19 - z19 / (fv Po 301 13) * (fv Po 301 13) : Int32)
      have wz24 := ti_full z24
      have n26 : ¬ (fv Po 301 13) = 0 := ti_n0 (by omega)
      try have e28 : z24.toInt = z19.toInt % (fv Po 301 13).toInt := ti_remx h25 (show (0 : Int) ≤ z19.toInt by omega) (show (0 : Int) < (fv Po 301 13).toInt by omega)
      try have e27 : 0 ≤ z24.toInt ∧ z24.toInt < (fv Po 301 13).toInt := ti_rem h25 (show (0 : Int) ≤ z19.toInt by omega) (show (0 : Int) < (fv Po 301 13).toInt by omega)
      refine mp_t (s_irem (v := z24) dX7_crimped_66 n26 h25) (mpp 67 rfl ?_)
      refine mp_a (a_istore_n (L' := [(2, .int z24), (0, .ref 301), (1, .int v1)]) dX7_crimped_67 (by decide) rfl) (mpp 68 rfl ?_)
      refine mp_a (a_iload_n dX7_crimped_68 rfl) (mpp 69 rfl ?_)
      refine mp_a (a_iconst (v := 1) dX7_crimped_69 rfl) (mpp 70 rfl ?_)
      obtain ⟨z29, h30⟩ := ti_ex (v1 + 1 : Int32)
      have wz29 := ti_full z29
      refine mp_t (s_iadd (v := z29) dX7_crimped_70 h30) (mpp 71 rfl ?_)
      try have e31 : z29.toInt = v1.toInt + 1 := ti_addz h30 rfl rfl (by omega) (by omega)
      refine mp_a (a_aload_n dX7_crimped_71 rfl) (mpp 72 rfl ?_)
      refine mt_getI (i := 165) (k := 13) hT dX7_crimped_72 rfl rl_301 (by decide) rfl (by decide) rfl (fun g32 g33 => mpp 75 rfl ?_)
      obtain ⟨z34, h35⟩ := ti_ex (z29 - z29 / (fv Po 301 13) * (fv Po 301 13) : Int32)
      have wz34 := ti_full z34
      have n36 : ¬ (fv Po 301 13) = 0 := ti_n0 (by omega)
      try have e38 : z34.toInt = z29.toInt % (fv Po 301 13).toInt := ti_remx h35 (show (0 : Int) ≤ z29.toInt by omega) (show (0 : Int) < (fv Po 301 13).toInt by omega)
      try have e37 : 0 ≤ z34.toInt ∧ z34.toInt < (fv Po 301 13).toInt := ti_rem h35 (show (0 : Int) ≤ z29.toInt by omega) (show (0 : Int) < (fv Po 301 13).toInt by omega)
      refine mp_t (s_irem (v := z34) dX7_crimped_75 n36 h35) (mpp 76 rfl ?_)
      refine mp_a (a_istore_n (L' := [(3, .int z34), (2, .int z24), (0, .ref 301), (1, .int v1)]) dX7_crimped_76 (by decide) rfl) (mpp 77 rfl ?_)
      refine mp_a (a_aload_n dX7_crimped_77 rfl) (mpp 78 rfl ?_)
      refine mt_getI (i := 161) (k := 14) hT dX7_crimped_78 rfl rl_301 (by decide) rfl (by decide) rfl (fun g39 g40 => mpp 81 rfl ?_)
      refine mp_Tb (t := 93) (j_if_eq dX7_crimped_81) (by decide) (fun c41 => ?_) (fun c41 => mpp 84 rfl ?_)
      · have c41 : (fv Po 301 14).toInt = 0 := ti_eq c41
        refine mp_a (a_aload_n dX7_crimped_93 rfl) (mpp 94 rfl ?_)
        refine mt_getU (i := 31) (k := 12) (A := 309) hT dX7_crimped_94 rfl rl_301 (by decide) rfl (by decide) rfl un_25 (mpp 97 rfl ?_)
        refine mp_a (a_iload_n dX7_crimped_97 rfl) (mpp 98 rfl ?_)
        refine mp_a (a_iconst (v := 1) dX7_crimped_98 rfl) (mpp 99 rfl ?_)
        obtain ⟨z42, h43⟩ := ti_ex (v1 - 1 : Int32)
        have wz42 := ti_full z42
        refine mp_t (s_isub (v := z42) dX7_crimped_99 h43) (mpp 100 rfl ?_)
        try have e44 : z42.toInt = v1.toInt - 1 := ti_subz h43 rfl rfl (by omega) (by omega)
        refine mt_ial (n := 8) hT dX7_crimped_100 rl_309 (by decide) rfl rfl (by omega) (by omega) rfl (fun g45 g46 => mpp 101 rfl ?_)
        refine mp_a (a_istore (L' := [(4, .int (fv Po 309 z42.toInt.toNat)), (3, .int z34), (2, .int z24), (0, .ref 301), (1, .int v1)]) dX7_crimped_101 (by decide) rfl) (mpp 103 rfl ?_)
        refine mp_a (a_aload_n dX7_crimped_103 rfl) (mpp 104 rfl ?_)
        refine mt_getI (i := 161) (k := 14) hT dX7_crimped_104 rfl rl_301 (by decide) rfl (by decide) rfl (fun g47 g48 => mpp 107 rfl ?_)
        refine mp_Tb (t := 119) (j_if_eq dX7_crimped_107) (by decide) (fun c49 => ?_) (fun c49 => mpp 110 rfl ?_)
        · have c49 : (fv Po 301 14).toInt = 0 := ti_eq c49
          refine mp_a (a_aload_n dX7_crimped_119 rfl) (mpp 120 rfl ?_)
          refine mt_getU (i := 31) (k := 12) (A := 309) hT dX7_crimped_120 rfl rl_301 (by decide) rfl (by decide) rfl un_25 (mpp 123 rfl ?_)
          refine mp_a (a_iload_n dX7_crimped_123 rfl) (mpp 124 rfl ?_)
          refine mt_ial (n := 8) hT dX7_crimped_124 rl_309 (by decide) rfl rfl (by omega) (by omega) rfl (fun g50 g51 => mpp 125 rfl ?_)
          refine mp_a (a_istore (L' := [(5, .int (fv Po 309 v1.toInt.toNat)), (4, .int (fv Po 309 z42.toInt.toNat)), (3, .int z34), (2, .int z24), (0, .ref 301), (1, .int v1)]) dX7_crimped_125 (by decide) rfl) (mpp 127 rfl ?_)
          refine mp_a (a_aload_n dX7_crimped_127 rfl) (mpp 128 rfl ?_)
          refine mt_getU (i := 28) (k := 11) (A := 308) hT dX7_crimped_128 rfl rl_301 (by decide) rfl (by decide) rfl un_24 (mpp 131 rfl ?_)
          refine mp_a (a_iload_n dX7_crimped_131 rfl) (mpp 132 rfl ?_)
          refine mt_ial (n := 8) hT dX7_crimped_132 rl_308 (by decide) rfl rfl (by omega) (by omega) rfl (fun g52 g53 => mpp 133 rfl ?_)
          refine mp_a (a_aload_n dX7_crimped_133 rfl) (mpp 134 rfl ?_)
          refine mt_getU (i := 28) (k := 11) (A := 308) hT dX7_crimped_134 rfl rl_301 (by decide) rfl (by decide) rfl un_24 (mpp 137 rfl ?_)
          refine mp_a (a_iload_n dX7_crimped_137 rfl) (mpp 138 rfl ?_)
          refine mt_ial (n := 8) hT dX7_crimped_138 rl_308 (by decide) rfl rfl (by omega) (by omega) rfl (fun g54 g55 => mpp 139 rfl ?_)
          refine mp_Tb (t := 185) (j_icmp_gt dX7_crimped_139) (by decide) (fun c56 => ?_) (fun c56 => mpp 142 rfl ?_)
          · have c56 : (fv Po 308 v1.toInt.toNat).toInt > (fv Po 308 z24.toInt.toNat).toInt := ti_gt c56
            obtain ⟨z57, h58⟩ := ti_ex (v1 + 1 : Int32)
            have wz57 := ti_full z57
            refine mp_a (a_iinc (v := z57) (L' := [(1, .int z57), (5, .int (fv Po 309 v1.toInt.toNat)), (4, .int (fv Po 309 z42.toInt.toNat)), (3, .int z34), (2, .int z24), (0, .ref 301)]) dX7_crimped_185 (by decide) rfl h58 rfl) (mpp 188 rfl ?_)
            try have e59 : z57.toInt = v1.toInt + 1 := ti_addz h58 rfl rfl (by omega) (by omega)
            refine mp_a (a_goto (t := 30) dX7_crimped_188 (by decide)) ?_
            refine MEvP.less (L := [(0, .ref 301), (1, .int z57)]) rfl rfl ⟨rfl, rfl, trivial⟩ ?_
            have i60 : (fv Po 301 14).toInt ≠ 0 ∨ 1 ≤ z57.toInt := by omega
            have i61 : 0 ≤ z57.toInt := by omega
            have i62 : (fv Po 301 14).toInt = 0 ∨ 3 ≤ (fv Po 301 13).toInt := by omega
            have q65_p : z24.toInt.toNat = prI (fv Po 301 13).toInt.toNat v1.toInt.toNat := pr_mod (by omega) (by omega) (by omega) (ti_remx h25 (by omega) (by omega))
            have q65_n : z34.toInt.toNat = nxI (fv Po 301 13).toInt.toNat v1.toInt.toNat := nx_mod (by omega) (by omega) (by omega) (ti_remx h35 (by omega) (by omega))
            have q65_f : (fv Po 308 z24.toInt.toNat).toInt = (fv Po 308 (prI (fv Po 301 13).toInt.toNat v1.toInt.toNat)).toInt := by rw [q65_p]
            have q65_g : (fv Po 308 z34.toInt.toNat).toInt = (fv Po 308 (nxI (fv Po 301 13).toInt.toNat v1.toInt.toNat)).toInt := by rw [q65_n]
            have q65_a : GM Po v1.toInt.toNat = (fv Po 309 z42.toInt.toNat) := by unfold GM; first | rw [if_pos (show (fv Po 301 14).toInt = 0 from by omega), show v1.toInt.toNat - 1 = z42.toInt.toNat from by omega] | rw [if_neg (show ¬ (fv Po 301 14).toInt = 0 from by omega)]
            have q65_l := nxI_lt (n := (fv Po 301 13).toInt.toNat) (i := v1.toInt.toNat) (by omega)
            have q65_b : GM Po (nxI (fv Po 301 13).toInt.toNat v1.toInt.toNat) = (fv Po 309 v1.toInt.toNat) := by unfold GM; first | rw [if_pos (show (fv Po 301 14).toInt = 0 from by omega), show nxI (fv Po 301 13).toInt.toNat v1.toInt.toNat - 1 = v1.toInt.toNat from by unfold nxI; rw [if_pos (by omega)]; omega] | rw [if_neg (show ¬ (fv Po 301 14).toInt = 0 from by omega), q65_n]
            have q65_c : (GM Po v1.toInt.toNat).toInt = (fv Po 309 z42.toInt.toNat).toInt := congrArg Int32.toInt q65_a
            have q65_d : (GM Po (nxI (fv Po 301 13).toInt.toNat v1.toInt.toNat)).toInt = (fv Po 309 v1.toInt.toNat).toInt := congrArg Int32.toInt q65_b
            have w64_ : ¬ ((fv Po 308 v1.toInt.toNat).toInt ≤ (fv Po 308 (prI (fv Po 301 13).toInt.toNat v1.toInt.toNat)).toInt ∧ (fv Po 308 v1.toInt.toNat).toInt ≤ (fv Po 308 (nxI (fv Po 301 13).toInt.toNat v1.toInt.toNat)).toInt ∧ (GM Po v1.toInt.toNat + GM Po (nxI (fv Po 301 13).toInt.toNat v1.toInt.toNat)).toInt = 3 ∧ ¬ (GM Po v1.toInt.toNat).toInt = (GM Po (nxI (fv Po 301 13).toInt.toNat v1.toInt.toNat)).toInt ∧ ¬ (GM Po v1.toInt.toNat).toInt = 0 ∧ ¬ (GM Po (nxI (fv Po 301 13).toInt.toNat v1.toInt.toNat)).toInt = 0) := by omega
            have i63 : ∀ j : Nat, (1 ≤ (j : Int) ∨ (fv Po 301 14).toInt ≠ 0) → (j : Int) < z57.toInt → ¬ CRf cM (fv Po 301 13).toInt.toNat (fun j : Nat => fv Po 308 j) (GM Po) j := fun j h1 h2 => if e : j = v1.toInt.toNat then fun h => w64_ (e ▸ h) else i_3 j h1 (by omega)
            exact ih _ (by omega) _ i60 i61 i62 i63 rfl
          · have c56 : (fv Po 308 v1.toInt.toNat).toInt ≤ (fv Po 308 z24.toInt.toNat).toInt := ti_gt_n c56
            refine mp_a (a_aload_n dX7_crimped_142 rfl) (mpp 143 rfl ?_)
            refine mt_getU (i := 28) (k := 11) (A := 308) hT dX7_crimped_143 rfl rl_301 (by decide) rfl (by decide) rfl un_24 (mpp 146 rfl ?_)
            refine mp_a (a_iload_n dX7_crimped_146 rfl) (mpp 147 rfl ?_)
            refine mt_ial (n := 8) hT dX7_crimped_147 rl_308 (by decide) rfl rfl (by omega) (by omega) rfl (fun g66 g67 => mpp 148 rfl ?_)
            refine mp_a (a_aload_n dX7_crimped_148 rfl) (mpp 149 rfl ?_)
            refine mt_getU (i := 28) (k := 11) (A := 308) hT dX7_crimped_149 rfl rl_301 (by decide) rfl (by decide) rfl un_24 (mpp 152 rfl ?_)
            refine mp_a (a_iload_n dX7_crimped_152 rfl) (mpp 153 rfl ?_)
            refine mt_ial (n := 8) hT dX7_crimped_153 rl_308 (by decide) rfl rfl (by omega) (by omega) rfl (fun g68 g69 => mpp 154 rfl ?_)
            refine mp_Tb (t := 185) (j_icmp_gt dX7_crimped_154) (by decide) (fun c70 => ?_) (fun c70 => mpp 157 rfl ?_)
            · have c70 : (fv Po 308 v1.toInt.toNat).toInt > (fv Po 308 z34.toInt.toNat).toInt := ti_gt c70
              obtain ⟨z71, h72⟩ := ti_ex (v1 + 1 : Int32)
              have wz71 := ti_full z71
              refine mp_a (a_iinc (v := z71) (L' := [(1, .int z71), (5, .int (fv Po 309 v1.toInt.toNat)), (4, .int (fv Po 309 z42.toInt.toNat)), (3, .int z34), (2, .int z24), (0, .ref 301)]) dX7_crimped_185 (by decide) rfl h72 rfl) (mpp 188 rfl ?_)
              try have e73 : z71.toInt = v1.toInt + 1 := ti_addz h72 rfl rfl (by omega) (by omega)
              refine mp_a (a_goto (t := 30) dX7_crimped_188 (by decide)) ?_
              refine MEvP.less (L := [(0, .ref 301), (1, .int z71)]) rfl rfl ⟨rfl, rfl, trivial⟩ ?_
              have i74 : (fv Po 301 14).toInt ≠ 0 ∨ 1 ≤ z71.toInt := by omega
              have i75 : 0 ≤ z71.toInt := by omega
              have i76 : (fv Po 301 14).toInt = 0 ∨ 3 ≤ (fv Po 301 13).toInt := by omega
              have q79_p : z24.toInt.toNat = prI (fv Po 301 13).toInt.toNat v1.toInt.toNat := pr_mod (by omega) (by omega) (by omega) (ti_remx h25 (by omega) (by omega))
              have q79_n : z34.toInt.toNat = nxI (fv Po 301 13).toInt.toNat v1.toInt.toNat := nx_mod (by omega) (by omega) (by omega) (ti_remx h35 (by omega) (by omega))
              have q79_f : (fv Po 308 z24.toInt.toNat).toInt = (fv Po 308 (prI (fv Po 301 13).toInt.toNat v1.toInt.toNat)).toInt := by rw [q79_p]
              have q79_g : (fv Po 308 z34.toInt.toNat).toInt = (fv Po 308 (nxI (fv Po 301 13).toInt.toNat v1.toInt.toNat)).toInt := by rw [q79_n]
              have q79_a : GM Po v1.toInt.toNat = (fv Po 309 z42.toInt.toNat) := by unfold GM; first | rw [if_pos (show (fv Po 301 14).toInt = 0 from by omega), show v1.toInt.toNat - 1 = z42.toInt.toNat from by omega] | rw [if_neg (show ¬ (fv Po 301 14).toInt = 0 from by omega)]
              have q79_l := nxI_lt (n := (fv Po 301 13).toInt.toNat) (i := v1.toInt.toNat) (by omega)
              have q79_b : GM Po (nxI (fv Po 301 13).toInt.toNat v1.toInt.toNat) = (fv Po 309 v1.toInt.toNat) := by unfold GM; first | rw [if_pos (show (fv Po 301 14).toInt = 0 from by omega), show nxI (fv Po 301 13).toInt.toNat v1.toInt.toNat - 1 = v1.toInt.toNat from by unfold nxI; rw [if_pos (by omega)]; omega] | rw [if_neg (show ¬ (fv Po 301 14).toInt = 0 from by omega), q79_n]
              have q79_c : (GM Po v1.toInt.toNat).toInt = (fv Po 309 z42.toInt.toNat).toInt := congrArg Int32.toInt q79_a
              have q79_d : (GM Po (nxI (fv Po 301 13).toInt.toNat v1.toInt.toNat)).toInt = (fv Po 309 v1.toInt.toNat).toInt := congrArg Int32.toInt q79_b
              have w78_ : ¬ ((fv Po 308 v1.toInt.toNat).toInt ≤ (fv Po 308 (prI (fv Po 301 13).toInt.toNat v1.toInt.toNat)).toInt ∧ (fv Po 308 v1.toInt.toNat).toInt ≤ (fv Po 308 (nxI (fv Po 301 13).toInt.toNat v1.toInt.toNat)).toInt ∧ (GM Po v1.toInt.toNat + GM Po (nxI (fv Po 301 13).toInt.toNat v1.toInt.toNat)).toInt = 3 ∧ ¬ (GM Po v1.toInt.toNat).toInt = (GM Po (nxI (fv Po 301 13).toInt.toNat v1.toInt.toNat)).toInt ∧ ¬ (GM Po v1.toInt.toNat).toInt = 0 ∧ ¬ (GM Po (nxI (fv Po 301 13).toInt.toNat v1.toInt.toNat)).toInt = 0) := by omega
              have i77 : ∀ j : Nat, (1 ≤ (j : Int) ∨ (fv Po 301 14).toInt ≠ 0) → (j : Int) < z71.toInt → ¬ CRf cM (fv Po 301 13).toInt.toNat (fun j : Nat => fv Po 308 j) (GM Po) j := fun j h1 h2 => if e : j = v1.toInt.toNat then fun h => w78_ (e ▸ h) else i_3 j h1 (by omega)
              exact ih _ (by omega) _ i74 i75 i76 i77 rfl
            · have c70 : (fv Po 308 v1.toInt.toNat).toInt ≤ (fv Po 308 z34.toInt.toNat).toInt := ti_gt_n c70
              refine mp_a (a_iload dX7_crimped_157 rfl) (mpp 159 rfl ?_)
              refine mp_a (a_iload dX7_crimped_159 rfl) (mpp 161 rfl ?_)
              obtain ⟨z80, h81⟩ := ti_ex ((fv Po 309 z42.toInt.toNat) + (fv Po 309 v1.toInt.toNat) : Int32)
              have wz80 := ti_full z80
              refine mp_t (s_iadd (v := z80) dX7_crimped_161 h81) (mpp 162 rfl ?_)
              try have e82 : z80.toInt = (fv Po 309 z42.toInt.toNat).toInt + (fv Po 309 v1.toInt.toNat).toInt := ti_addz h81 rfl rfl (by omega) (by omega)
              refine mp_a (a_iconst (v := 3) dX7_crimped_162 rfl) (mpp 163 rfl ?_)
              refine mp_Tb (t := 185) (j_icmp_ne dX7_crimped_163) (by decide) (fun c83 => ?_) (fun c83 => mpp 166 rfl ?_)
              · have c83 : z80.toInt ≠ 3 := ti_ne c83
                obtain ⟨z84, h85⟩ := ti_ex (v1 + 1 : Int32)
                have wz84 := ti_full z84
                refine mp_a (a_iinc (v := z84) (L' := [(1, .int z84), (5, .int (fv Po 309 v1.toInt.toNat)), (4, .int (fv Po 309 z42.toInt.toNat)), (3, .int z34), (2, .int z24), (0, .ref 301)]) dX7_crimped_185 (by decide) rfl h85 rfl) (mpp 188 rfl ?_)
                try have e86 : z84.toInt = v1.toInt + 1 := ti_addz h85 rfl rfl (by omega) (by omega)
                refine mp_a (a_goto (t := 30) dX7_crimped_188 (by decide)) ?_
                refine MEvP.less (L := [(0, .ref 301), (1, .int z84)]) rfl rfl ⟨rfl, rfl, trivial⟩ ?_
                have i87 : (fv Po 301 14).toInt ≠ 0 ∨ 1 ≤ z84.toInt := by omega
                have i88 : 0 ≤ z84.toInt := by omega
                have i89 : (fv Po 301 14).toInt = 0 ∨ 3 ≤ (fv Po 301 13).toInt := by omega
                have q92_p : z24.toInt.toNat = prI (fv Po 301 13).toInt.toNat v1.toInt.toNat := pr_mod (by omega) (by omega) (by omega) (ti_remx h25 (by omega) (by omega))
                have q92_n : z34.toInt.toNat = nxI (fv Po 301 13).toInt.toNat v1.toInt.toNat := nx_mod (by omega) (by omega) (by omega) (ti_remx h35 (by omega) (by omega))
                have q92_f : (fv Po 308 z24.toInt.toNat).toInt = (fv Po 308 (prI (fv Po 301 13).toInt.toNat v1.toInt.toNat)).toInt := by rw [q92_p]
                have q92_g : (fv Po 308 z34.toInt.toNat).toInt = (fv Po 308 (nxI (fv Po 301 13).toInt.toNat v1.toInt.toNat)).toInt := by rw [q92_n]
                have q92_a : GM Po v1.toInt.toNat = (fv Po 309 z42.toInt.toNat) := by unfold GM; first | rw [if_pos (show (fv Po 301 14).toInt = 0 from by omega), show v1.toInt.toNat - 1 = z42.toInt.toNat from by omega] | rw [if_neg (show ¬ (fv Po 301 14).toInt = 0 from by omega)]
                have q92_l := nxI_lt (n := (fv Po 301 13).toInt.toNat) (i := v1.toInt.toNat) (by omega)
                have q92_b : GM Po (nxI (fv Po 301 13).toInt.toNat v1.toInt.toNat) = (fv Po 309 v1.toInt.toNat) := by unfold GM; first | rw [if_pos (show (fv Po 301 14).toInt = 0 from by omega), show nxI (fv Po 301 13).toInt.toNat v1.toInt.toNat - 1 = v1.toInt.toNat from by unfold nxI; rw [if_pos (by omega)]; omega] | rw [if_neg (show ¬ (fv Po 301 14).toInt = 0 from by omega), q92_n]
                have q92_c : (GM Po v1.toInt.toNat).toInt = (fv Po 309 z42.toInt.toNat).toInt := congrArg Int32.toInt q92_a
                have q92_d : (GM Po (nxI (fv Po 301 13).toInt.toNat v1.toInt.toNat)).toInt = (fv Po 309 v1.toInt.toNat).toInt := congrArg Int32.toInt q92_b
                have q92_s : (GM Po v1.toInt.toNat + GM Po (nxI (fv Po 301 13).toInt.toNat v1.toInt.toNat)).toInt = z80.toInt := by rw [q92_a, q92_b, h81]
                have w91_ : ¬ ((fv Po 308 v1.toInt.toNat).toInt ≤ (fv Po 308 (prI (fv Po 301 13).toInt.toNat v1.toInt.toNat)).toInt ∧ (fv Po 308 v1.toInt.toNat).toInt ≤ (fv Po 308 (nxI (fv Po 301 13).toInt.toNat v1.toInt.toNat)).toInt ∧ (GM Po v1.toInt.toNat + GM Po (nxI (fv Po 301 13).toInt.toNat v1.toInt.toNat)).toInt = 3 ∧ ¬ (GM Po v1.toInt.toNat).toInt = (GM Po (nxI (fv Po 301 13).toInt.toNat v1.toInt.toNat)).toInt ∧ ¬ (GM Po v1.toInt.toNat).toInt = 0 ∧ ¬ (GM Po (nxI (fv Po 301 13).toInt.toNat v1.toInt.toNat)).toInt = 0) := by omega
                have i90 : ∀ j : Nat, (1 ≤ (j : Int) ∨ (fv Po 301 14).toInt ≠ 0) → (j : Int) < z84.toInt → ¬ CRf cM (fv Po 301 13).toInt.toNat (fun j : Nat => fv Po 308 j) (GM Po) j := fun j h1 h2 => if e : j = v1.toInt.toNat then fun h => w91_ (e ▸ h) else i_3 j h1 (by omega)
                exact ih _ (by omega) _ i87 i88 i89 i90 rfl
              · have c83 : z80.toInt = 3 := ti_ne_n c83
                refine mp_a (a_iload dX7_crimped_166 rfl) (mpp 168 rfl ?_)
                refine mp_a (a_iload dX7_crimped_168 rfl) (mpp 170 rfl ?_)
                refine mp_Tb (t := 185) (j_icmp_eq dX7_crimped_170) (by decide) (fun c93 => ?_) (fun c93 => mpp 173 rfl ?_)
                · have c93 : (fv Po 309 z42.toInt.toNat).toInt = (fv Po 309 v1.toInt.toNat).toInt := ti_eq c93
                  obtain ⟨z94, h95⟩ := ti_ex (v1 + 1 : Int32)
                  have wz94 := ti_full z94
                  refine mp_a (a_iinc (v := z94) (L' := [(1, .int z94), (5, .int (fv Po 309 v1.toInt.toNat)), (4, .int (fv Po 309 z42.toInt.toNat)), (3, .int z34), (2, .int z24), (0, .ref 301)]) dX7_crimped_185 (by decide) rfl h95 rfl) (mpp 188 rfl ?_)
                  try have e96 : z94.toInt = v1.toInt + 1 := ti_addz h95 rfl rfl (by omega) (by omega)
                  refine mp_a (a_goto (t := 30) dX7_crimped_188 (by decide)) ?_
                  refine MEvP.less (L := [(0, .ref 301), (1, .int z94)]) rfl rfl ⟨rfl, rfl, trivial⟩ ?_
                  have i97 : (fv Po 301 14).toInt ≠ 0 ∨ 1 ≤ z94.toInt := by omega
                  have i98 : 0 ≤ z94.toInt := by omega
                  have i99 : (fv Po 301 14).toInt = 0 ∨ 3 ≤ (fv Po 301 13).toInt := by omega
                  have q102_p : z24.toInt.toNat = prI (fv Po 301 13).toInt.toNat v1.toInt.toNat := pr_mod (by omega) (by omega) (by omega) (ti_remx h25 (by omega) (by omega))
                  have q102_n : z34.toInt.toNat = nxI (fv Po 301 13).toInt.toNat v1.toInt.toNat := nx_mod (by omega) (by omega) (by omega) (ti_remx h35 (by omega) (by omega))
                  have q102_f : (fv Po 308 z24.toInt.toNat).toInt = (fv Po 308 (prI (fv Po 301 13).toInt.toNat v1.toInt.toNat)).toInt := by rw [q102_p]
                  have q102_g : (fv Po 308 z34.toInt.toNat).toInt = (fv Po 308 (nxI (fv Po 301 13).toInt.toNat v1.toInt.toNat)).toInt := by rw [q102_n]
                  have q102_a : GM Po v1.toInt.toNat = (fv Po 309 z42.toInt.toNat) := by unfold GM; first | rw [if_pos (show (fv Po 301 14).toInt = 0 from by omega), show v1.toInt.toNat - 1 = z42.toInt.toNat from by omega] | rw [if_neg (show ¬ (fv Po 301 14).toInt = 0 from by omega)]
                  have q102_l := nxI_lt (n := (fv Po 301 13).toInt.toNat) (i := v1.toInt.toNat) (by omega)
                  have q102_b : GM Po (nxI (fv Po 301 13).toInt.toNat v1.toInt.toNat) = (fv Po 309 v1.toInt.toNat) := by unfold GM; first | rw [if_pos (show (fv Po 301 14).toInt = 0 from by omega), show nxI (fv Po 301 13).toInt.toNat v1.toInt.toNat - 1 = v1.toInt.toNat from by unfold nxI; rw [if_pos (by omega)]; omega] | rw [if_neg (show ¬ (fv Po 301 14).toInt = 0 from by omega), q102_n]
                  have q102_c : (GM Po v1.toInt.toNat).toInt = (fv Po 309 z42.toInt.toNat).toInt := congrArg Int32.toInt q102_a
                  have q102_d : (GM Po (nxI (fv Po 301 13).toInt.toNat v1.toInt.toNat)).toInt = (fv Po 309 v1.toInt.toNat).toInt := congrArg Int32.toInt q102_b
                  have q102_s : (GM Po v1.toInt.toNat + GM Po (nxI (fv Po 301 13).toInt.toNat v1.toInt.toNat)).toInt = z80.toInt := by rw [q102_a, q102_b, h81]
                  have w101_ : ¬ ((fv Po 308 v1.toInt.toNat).toInt ≤ (fv Po 308 (prI (fv Po 301 13).toInt.toNat v1.toInt.toNat)).toInt ∧ (fv Po 308 v1.toInt.toNat).toInt ≤ (fv Po 308 (nxI (fv Po 301 13).toInt.toNat v1.toInt.toNat)).toInt ∧ (GM Po v1.toInt.toNat + GM Po (nxI (fv Po 301 13).toInt.toNat v1.toInt.toNat)).toInt = 3 ∧ ¬ (GM Po v1.toInt.toNat).toInt = (GM Po (nxI (fv Po 301 13).toInt.toNat v1.toInt.toNat)).toInt ∧ ¬ (GM Po v1.toInt.toNat).toInt = 0 ∧ ¬ (GM Po (nxI (fv Po 301 13).toInt.toNat v1.toInt.toNat)).toInt = 0) := by omega
                  have i100 : ∀ j : Nat, (1 ≤ (j : Int) ∨ (fv Po 301 14).toInt ≠ 0) → (j : Int) < z94.toInt → ¬ CRf cM (fv Po 301 13).toInt.toNat (fun j : Nat => fv Po 308 j) (GM Po) j := fun j h1 h2 => if e : j = v1.toInt.toNat then fun h => w101_ (e ▸ h) else i_3 j h1 (by omega)
                  exact ih _ (by omega) _ i97 i98 i99 i100 rfl
                · have c93 : (fv Po 309 z42.toInt.toNat).toInt ≠ (fv Po 309 v1.toInt.toNat).toInt := ti_eq_n c93
                  refine mp_a (a_iload dX7_crimped_173 rfl) (mpp 175 rfl ?_)
                  refine mp_Tb (t := 185) (j_if_eq dX7_crimped_175) (by decide) (fun c103 => ?_) (fun c103 => mpp 178 rfl ?_)
                  · have c103 : (fv Po 309 z42.toInt.toNat).toInt = 0 := ti_eq c103
                    obtain ⟨z104, h105⟩ := ti_ex (v1 + 1 : Int32)
                    have wz104 := ti_full z104
                    refine mp_a (a_iinc (v := z104) (L' := [(1, .int z104), (5, .int (fv Po 309 v1.toInt.toNat)), (4, .int (fv Po 309 z42.toInt.toNat)), (3, .int z34), (2, .int z24), (0, .ref 301)]) dX7_crimped_185 (by decide) rfl h105 rfl) (mpp 188 rfl ?_)
                    try have e106 : z104.toInt = v1.toInt + 1 := ti_addz h105 rfl rfl (by omega) (by omega)
                    refine mp_a (a_goto (t := 30) dX7_crimped_188 (by decide)) ?_
                    refine MEvP.less (L := [(0, .ref 301), (1, .int z104)]) rfl rfl ⟨rfl, rfl, trivial⟩ ?_
                    have i107 : (fv Po 301 14).toInt ≠ 0 ∨ 1 ≤ z104.toInt := by omega
                    have i108 : 0 ≤ z104.toInt := by omega
                    have i109 : (fv Po 301 14).toInt = 0 ∨ 3 ≤ (fv Po 301 13).toInt := by omega
                    have q112_p : z24.toInt.toNat = prI (fv Po 301 13).toInt.toNat v1.toInt.toNat := pr_mod (by omega) (by omega) (by omega) (ti_remx h25 (by omega) (by omega))
                    have q112_n : z34.toInt.toNat = nxI (fv Po 301 13).toInt.toNat v1.toInt.toNat := nx_mod (by omega) (by omega) (by omega) (ti_remx h35 (by omega) (by omega))
                    have q112_f : (fv Po 308 z24.toInt.toNat).toInt = (fv Po 308 (prI (fv Po 301 13).toInt.toNat v1.toInt.toNat)).toInt := by rw [q112_p]
                    have q112_g : (fv Po 308 z34.toInt.toNat).toInt = (fv Po 308 (nxI (fv Po 301 13).toInt.toNat v1.toInt.toNat)).toInt := by rw [q112_n]
                    have q112_a : GM Po v1.toInt.toNat = (fv Po 309 z42.toInt.toNat) := by unfold GM; first | rw [if_pos (show (fv Po 301 14).toInt = 0 from by omega), show v1.toInt.toNat - 1 = z42.toInt.toNat from by omega] | rw [if_neg (show ¬ (fv Po 301 14).toInt = 0 from by omega)]
                    have q112_l := nxI_lt (n := (fv Po 301 13).toInt.toNat) (i := v1.toInt.toNat) (by omega)
                    have q112_b : GM Po (nxI (fv Po 301 13).toInt.toNat v1.toInt.toNat) = (fv Po 309 v1.toInt.toNat) := by unfold GM; first | rw [if_pos (show (fv Po 301 14).toInt = 0 from by omega), show nxI (fv Po 301 13).toInt.toNat v1.toInt.toNat - 1 = v1.toInt.toNat from by unfold nxI; rw [if_pos (by omega)]; omega] | rw [if_neg (show ¬ (fv Po 301 14).toInt = 0 from by omega), q112_n]
                    have q112_c : (GM Po v1.toInt.toNat).toInt = (fv Po 309 z42.toInt.toNat).toInt := congrArg Int32.toInt q112_a
                    have q112_d : (GM Po (nxI (fv Po 301 13).toInt.toNat v1.toInt.toNat)).toInt = (fv Po 309 v1.toInt.toNat).toInt := congrArg Int32.toInt q112_b
                    have q112_s : (GM Po v1.toInt.toNat + GM Po (nxI (fv Po 301 13).toInt.toNat v1.toInt.toNat)).toInt = z80.toInt := by rw [q112_a, q112_b, h81]
                    have w111_ : ¬ ((fv Po 308 v1.toInt.toNat).toInt ≤ (fv Po 308 (prI (fv Po 301 13).toInt.toNat v1.toInt.toNat)).toInt ∧ (fv Po 308 v1.toInt.toNat).toInt ≤ (fv Po 308 (nxI (fv Po 301 13).toInt.toNat v1.toInt.toNat)).toInt ∧ (GM Po v1.toInt.toNat + GM Po (nxI (fv Po 301 13).toInt.toNat v1.toInt.toNat)).toInt = 3 ∧ ¬ (GM Po v1.toInt.toNat).toInt = (GM Po (nxI (fv Po 301 13).toInt.toNat v1.toInt.toNat)).toInt ∧ ¬ (GM Po v1.toInt.toNat).toInt = 0 ∧ ¬ (GM Po (nxI (fv Po 301 13).toInt.toNat v1.toInt.toNat)).toInt = 0) := by omega
                    have i110 : ∀ j : Nat, (1 ≤ (j : Int) ∨ (fv Po 301 14).toInt ≠ 0) → (j : Int) < z104.toInt → ¬ CRf cM (fv Po 301 13).toInt.toNat (fun j : Nat => fv Po 308 j) (GM Po) j := fun j h1 h2 => if e : j = v1.toInt.toNat then fun h => w111_ (e ▸ h) else i_3 j h1 (by omega)
                    exact ih _ (by omega) _ i107 i108 i109 i110 rfl
                  · have c103 : (fv Po 309 z42.toInt.toNat).toInt ≠ 0 := ti_eq_n c103
                    refine mp_a (a_iload dX7_crimped_178 rfl) (mpp 180 rfl ?_)
                    refine mp_Tb (t := 185) (j_if_eq dX7_crimped_180) (by decide) (fun c113 => ?_) (fun c113 => mpp 183 rfl ?_)
                    · have c113 : (fv Po 309 v1.toInt.toNat).toInt = 0 := ti_eq c113
                      obtain ⟨z114, h115⟩ := ti_ex (v1 + 1 : Int32)
                      have wz114 := ti_full z114
                      refine mp_a (a_iinc (v := z114) (L' := [(1, .int z114), (5, .int (fv Po 309 v1.toInt.toNat)), (4, .int (fv Po 309 z42.toInt.toNat)), (3, .int z34), (2, .int z24), (0, .ref 301)]) dX7_crimped_185 (by decide) rfl h115 rfl) (mpp 188 rfl ?_)
                      try have e116 : z114.toInt = v1.toInt + 1 := ti_addz h115 rfl rfl (by omega) (by omega)
                      refine mp_a (a_goto (t := 30) dX7_crimped_188 (by decide)) ?_
                      refine MEvP.less (L := [(0, .ref 301), (1, .int z114)]) rfl rfl ⟨rfl, rfl, trivial⟩ ?_
                      have i117 : (fv Po 301 14).toInt ≠ 0 ∨ 1 ≤ z114.toInt := by omega
                      have i118 : 0 ≤ z114.toInt := by omega
                      have i119 : (fv Po 301 14).toInt = 0 ∨ 3 ≤ (fv Po 301 13).toInt := by omega
                      have q122_p : z24.toInt.toNat = prI (fv Po 301 13).toInt.toNat v1.toInt.toNat := pr_mod (by omega) (by omega) (by omega) (ti_remx h25 (by omega) (by omega))
                      have q122_n : z34.toInt.toNat = nxI (fv Po 301 13).toInt.toNat v1.toInt.toNat := nx_mod (by omega) (by omega) (by omega) (ti_remx h35 (by omega) (by omega))
                      have q122_f : (fv Po 308 z24.toInt.toNat).toInt = (fv Po 308 (prI (fv Po 301 13).toInt.toNat v1.toInt.toNat)).toInt := by rw [q122_p]
                      have q122_g : (fv Po 308 z34.toInt.toNat).toInt = (fv Po 308 (nxI (fv Po 301 13).toInt.toNat v1.toInt.toNat)).toInt := by rw [q122_n]
                      have q122_a : GM Po v1.toInt.toNat = (fv Po 309 z42.toInt.toNat) := by unfold GM; first | rw [if_pos (show (fv Po 301 14).toInt = 0 from by omega), show v1.toInt.toNat - 1 = z42.toInt.toNat from by omega] | rw [if_neg (show ¬ (fv Po 301 14).toInt = 0 from by omega)]
                      have q122_l := nxI_lt (n := (fv Po 301 13).toInt.toNat) (i := v1.toInt.toNat) (by omega)
                      have q122_b : GM Po (nxI (fv Po 301 13).toInt.toNat v1.toInt.toNat) = (fv Po 309 v1.toInt.toNat) := by unfold GM; first | rw [if_pos (show (fv Po 301 14).toInt = 0 from by omega), show nxI (fv Po 301 13).toInt.toNat v1.toInt.toNat - 1 = v1.toInt.toNat from by unfold nxI; rw [if_pos (by omega)]; omega] | rw [if_neg (show ¬ (fv Po 301 14).toInt = 0 from by omega), q122_n]
                      have q122_c : (GM Po v1.toInt.toNat).toInt = (fv Po 309 z42.toInt.toNat).toInt := congrArg Int32.toInt q122_a
                      have q122_d : (GM Po (nxI (fv Po 301 13).toInt.toNat v1.toInt.toNat)).toInt = (fv Po 309 v1.toInt.toNat).toInt := congrArg Int32.toInt q122_b
                      have q122_s : (GM Po v1.toInt.toNat + GM Po (nxI (fv Po 301 13).toInt.toNat v1.toInt.toNat)).toInt = z80.toInt := by rw [q122_a, q122_b, h81]
                      have w121_ : ¬ ((fv Po 308 v1.toInt.toNat).toInt ≤ (fv Po 308 (prI (fv Po 301 13).toInt.toNat v1.toInt.toNat)).toInt ∧ (fv Po 308 v1.toInt.toNat).toInt ≤ (fv Po 308 (nxI (fv Po 301 13).toInt.toNat v1.toInt.toNat)).toInt ∧ (GM Po v1.toInt.toNat + GM Po (nxI (fv Po 301 13).toInt.toNat v1.toInt.toNat)).toInt = 3 ∧ ¬ (GM Po v1.toInt.toNat).toInt = (GM Po (nxI (fv Po 301 13).toInt.toNat v1.toInt.toNat)).toInt ∧ ¬ (GM Po v1.toInt.toNat).toInt = 0 ∧ ¬ (GM Po (nxI (fv Po 301 13).toInt.toNat v1.toInt.toNat)).toInt = 0) := by omega
                      have i120 : ∀ j : Nat, (1 ≤ (j : Int) ∨ (fv Po 301 14).toInt ≠ 0) → (j : Int) < z114.toInt → ¬ CRf cM (fv Po 301 13).toInt.toNat (fun j : Nat => fv Po 308 j) (GM Po) j := fun j h1 h2 => if e : j = v1.toInt.toNat then fun h => w121_ (e ▸ h) else i_3 j h1 (by omega)
                      exact ih _ (by omega) _ i117 i118 i119 i120 rfl
                    · have c113 : (fv Po 309 v1.toInt.toNat).toInt ≠ 0 := ti_eq_n c113
                      refine mp_a (a_iload_n dX7_crimped_183 rfl) (mpp 184 rfl ?_)
                      have q125_p : z24.toInt.toNat = prI (fv Po 301 13).toInt.toNat v1.toInt.toNat := pr_mod (by omega) (by omega) (by omega) (ti_remx h25 (by omega) (by omega))
                      have q125_n : z34.toInt.toNat = nxI (fv Po 301 13).toInt.toNat v1.toInt.toNat := nx_mod (by omega) (by omega) (by omega) (ti_remx h35 (by omega) (by omega))
                      have q125_f : (fv Po 308 z24.toInt.toNat).toInt = (fv Po 308 (prI (fv Po 301 13).toInt.toNat v1.toInt.toNat)).toInt := by rw [q125_p]
                      have q125_g : (fv Po 308 z34.toInt.toNat).toInt = (fv Po 308 (nxI (fv Po 301 13).toInt.toNat v1.toInt.toNat)).toInt := by rw [q125_n]
                      have q125_a : GM Po v1.toInt.toNat = (fv Po 309 z42.toInt.toNat) := by unfold GM; first | rw [if_pos (show (fv Po 301 14).toInt = 0 from by omega), show v1.toInt.toNat - 1 = z42.toInt.toNat from by omega] | rw [if_neg (show ¬ (fv Po 301 14).toInt = 0 from by omega)]
                      have q125_l := nxI_lt (n := (fv Po 301 13).toInt.toNat) (i := v1.toInt.toNat) (by omega)
                      have q125_b : GM Po (nxI (fv Po 301 13).toInt.toNat v1.toInt.toNat) = (fv Po 309 v1.toInt.toNat) := by unfold GM; first | rw [if_pos (show (fv Po 301 14).toInt = 0 from by omega), show nxI (fv Po 301 13).toInt.toNat v1.toInt.toNat - 1 = v1.toInt.toNat from by unfold nxI; rw [if_pos (by omega)]; omega] | rw [if_neg (show ¬ (fv Po 301 14).toInt = 0 from by omega), q125_n]
                      have q125_c : (GM Po v1.toInt.toNat).toInt = (fv Po 309 z42.toInt.toNat).toInt := congrArg Int32.toInt q125_a
                      have q125_d : (GM Po (nxI (fv Po 301 13).toInt.toNat v1.toInt.toNat)).toInt = (fv Po 309 v1.toInt.toNat).toInt := congrArg Int32.toInt q125_b
                      have q125_s : (GM Po v1.toInt.toNat + GM Po (nxI (fv Po 301 13).toInt.toNat v1.toInt.toNat)).toInt = z80.toInt := by rw [q125_a, q125_b, h81]
                      have w124_ : ((fv Po 308 v1.toInt.toNat).toInt ≤ (fv Po 308 (prI (fv Po 301 13).toInt.toNat v1.toInt.toNat)).toInt ∧ (fv Po 308 v1.toInt.toNat).toInt ≤ (fv Po 308 (nxI (fv Po 301 13).toInt.toNat v1.toInt.toNat)).toInt ∧ (GM Po v1.toInt.toNat + GM Po (nxI (fv Po 301 13).toInt.toNat v1.toInt.toNat)).toInt = 3 ∧ ¬ (GM Po v1.toInt.toNat).toInt = (GM Po (nxI (fv Po 301 13).toInt.toNat v1.toInt.toNat)).toInt ∧ ¬ (GM Po v1.toInt.toNat).toInt = 0 ∧ ¬ (GM Po (nxI (fv Po 301 13).toInt.toNat v1.toInt.toNat)).toInt = 0) := by omega
                      have u123 : (v1.toInt = -1 ∨ ((fv Po 301 14).toInt = 1 ∧ 3 ≤ (fv Po 301 13).toInt ∧ 0 ≤ v1.toInt ∧ v1.toInt + 1 ≤ (fv Po 301 13).toInt) ∨ ((fv Po 301 14).toInt = 0 ∧ 1 ≤ v1.toInt ∧ v1.toInt + 2 ≤ (fv Po 301 13).toInt)) ∧ CPM (decide ((fv Po 301 14).toInt = 0)) (fv Po 301 13).toInt.toNat (fun j : Nat => fv Po 308 j) (GM Po) v1.toInt := ⟨by omega, if hk : (fv Po 301 14).toInt = 0 then (by rw [decide_eq_true (show (fv Po 301 14).toInt = 0 from by omega)]; exact Or.inr ⟨fun q => absurd q.1 (by decide), Or.inl ⟨v1.toInt.toNat, (show 1 ≤ v1.toInt.toNat from by omega), (show v1.toInt.toNat < (fv Po 301 13).toInt.toNat - 1 from by omega), w124_, fun j h1 h2 => i_3 j (Or.inl (by have h1 : 1 ≤ j := h1; omega)) (by omega), by omega⟩⟩) else (by rw [decide_eq_false (show ¬ (fv Po 301 14).toInt = 0 from by omega)]; exact Or.inr ⟨fun q => by have := q.2; omega, Or.inl ⟨v1.toInt.toNat, (show 0 ≤ v1.toInt.toNat from by omega), (show v1.toInt.toNat < (fv Po 301 13).toInt.toNat from by omega), w124_, fun j h1 h2 => i_3 j (Or.inr (by omega)) (by omega), by omega⟩⟩)⟩
                      exact mp_iret ⟨⟨_, rfl, u123⟩, rfl⟩ dX7_crimped_184 (Or.inl rfl)
        · have c49 : (fv Po 301 14).toInt ≠ 0 := ti_eq_n c49
          exfalso
          omega
      · have c41 : (fv Po 301 14).toInt ≠ 0 := ti_eq_n c41
        exfalso
        omega
  · have c5 : (fv Po 301 14).toInt ≠ 0 := ti_eq_n c5
    refine mp_a (a_aload_n dX7_crimped_38 rfl) (mpp 39 rfl ?_)
    refine mt_getI (i := 165) (k := 13) hT dX7_crimped_39 rfl rl_301 (by decide) rfl (by decide) rfl (fun g126 g127 => mpp 42 rfl ?_)
    refine mp_a (a_goto (t := 51) dX7_crimped_42 (by decide)) ?_
    refine mp_Tb (t := 191) (j_icmp_ge dX7_crimped_51) (by decide) (fun c128 => ?_) (fun c128 => mpp 54 rfl ?_)
    · have c128 : v1.toInt ≥ (fv Po 301 13).toInt := ti_ge c128
      refine mp_a (a_iconst (v := -1) dX7_crimped_191 rfl) (mpp 192 rfl ?_)
      have u129 : ((-1 : Int) = -1 ∨ ((fv Po 301 14).toInt = 1 ∧ 3 ≤ (fv Po 301 13).toInt ∧ 0 ≤ (-1 : Int) ∧ (-1 : Int) + 1 ≤ (fv Po 301 13).toInt) ∨ ((fv Po 301 14).toInt = 0 ∧ 1 ≤ (-1 : Int) ∧ (-1 : Int) + 2 ≤ (fv Po 301 13).toInt)) ∧ CPM (decide ((fv Po 301 14).toInt = 0)) (fv Po 301 13).toInt.toNat (fun j : Nat => fv Po 308 j) (GM Po) (-1 : Int) := ⟨by omega, if hk : (fv Po 301 14).toInt = 0 then (by rw [decide_eq_true (show (fv Po 301 14).toInt = 0 from by omega)]; exact Or.inr ⟨fun q => absurd q.1 (by decide), Or.inr ⟨fun j h1 h2 => i_3 j (Or.inl (by have h1 : 1 ≤ j := h1; omega)) (by have h2 : j < (fv Po 301 13).toInt.toNat - 1 := h2; omega), rfl⟩⟩) else (by rw [decide_eq_false (show ¬ (fv Po 301 14).toInt = 0 from by omega)]; exact Or.inr ⟨fun q => by have := q.2; omega, Or.inr ⟨fun j h1 h2 => i_3 j (Or.inr (by omega)) (by have h2 : j < (fv Po 301 13).toInt.toNat := h2; omega), rfl⟩⟩)⟩
      exact mp_iret ⟨⟨_, rfl, u129⟩, rfl⟩ dX7_crimped_192 (Or.inl rfl)
    · have c128 : v1.toInt < (fv Po 301 13).toInt := ti_ge_n c128
      refine mp_a (a_iload_n dX7_crimped_54 rfl) (mpp 55 rfl ?_)
      refine mp_a (a_aload_n dX7_crimped_55 rfl) (mpp 56 rfl ?_)
      refine mt_getI (i := 165) (k := 13) hT dX7_crimped_56 rfl rl_301 (by decide) rfl (by decide) rfl (fun g131 g132 => mpp 59 rfl ?_)
      obtain ⟨z133, h134⟩ := ti_ex (v1 + (fv Po 301 13) : Int32)
      have wz133 := ti_full z133
      refine mp_t (s_iadd (v := z133) dX7_crimped_59 h134) (mpp 60 rfl ?_)
      try have e135 : z133.toInt = v1.toInt + (fv Po 301 13).toInt := ti_addz h134 rfl rfl (by omega) (by omega)
      refine mp_a (a_iconst (v := 1) dX7_crimped_60 rfl) (mpp 61 rfl ?_)
      obtain ⟨z136, h137⟩ := ti_ex (z133 - 1 : Int32)
      have wz136 := ti_full z136
      refine mp_t (s_isub (v := z136) dX7_crimped_61 h137) (mpp 62 rfl ?_)
      try have e138 : z136.toInt = z133.toInt - 1 := ti_subz h137 rfl rfl (by omega) (by omega)
      refine mp_a (a_aload_n dX7_crimped_62 rfl) (mpp 63 rfl ?_)
      refine mt_getI (i := 165) (k := 13) hT dX7_crimped_63 rfl rl_301 (by decide) rfl (by decide) rfl (fun g139 g140 => mpp 66 rfl ?_)
      obtain ⟨z141, h142⟩ := ti_ex (z136 - z136 / (fv Po 301 13) * (fv Po 301 13) : Int32)
      have wz141 := ti_full z141
      have n143 : ¬ (fv Po 301 13) = 0 := ti_n0 (by omega)
      try have e145 : z141.toInt = z136.toInt % (fv Po 301 13).toInt := ti_remx h142 (show (0 : Int) ≤ z136.toInt by omega) (show (0 : Int) < (fv Po 301 13).toInt by omega)
      try have e144 : 0 ≤ z141.toInt ∧ z141.toInt < (fv Po 301 13).toInt := ti_rem h142 (show (0 : Int) ≤ z136.toInt by omega) (show (0 : Int) < (fv Po 301 13).toInt by omega)
      refine mp_t (s_irem (v := z141) dX7_crimped_66 n143 h142) (mpp 67 rfl ?_)
      refine mp_a (a_istore_n (L' := [(2, .int z141), (0, .ref 301), (1, .int v1)]) dX7_crimped_67 (by decide) rfl) (mpp 68 rfl ?_)
      refine mp_a (a_iload_n dX7_crimped_68 rfl) (mpp 69 rfl ?_)
      refine mp_a (a_iconst (v := 1) dX7_crimped_69 rfl) (mpp 70 rfl ?_)
      obtain ⟨z146, h147⟩ := ti_ex (v1 + 1 : Int32)
      have wz146 := ti_full z146
      refine mp_t (s_iadd (v := z146) dX7_crimped_70 h147) (mpp 71 rfl ?_)
      try have e148 : z146.toInt = v1.toInt + 1 := ti_addz h147 rfl rfl (by omega) (by omega)
      refine mp_a (a_aload_n dX7_crimped_71 rfl) (mpp 72 rfl ?_)
      refine mt_getI (i := 165) (k := 13) hT dX7_crimped_72 rfl rl_301 (by decide) rfl (by decide) rfl (fun g149 g150 => mpp 75 rfl ?_)
      obtain ⟨z151, h152⟩ := ti_ex (z146 - z146 / (fv Po 301 13) * (fv Po 301 13) : Int32)
      have wz151 := ti_full z151
      have n153 : ¬ (fv Po 301 13) = 0 := ti_n0 (by omega)
      try have e155 : z151.toInt = z146.toInt % (fv Po 301 13).toInt := ti_remx h152 (show (0 : Int) ≤ z146.toInt by omega) (show (0 : Int) < (fv Po 301 13).toInt by omega)
      try have e154 : 0 ≤ z151.toInt ∧ z151.toInt < (fv Po 301 13).toInt := ti_rem h152 (show (0 : Int) ≤ z146.toInt by omega) (show (0 : Int) < (fv Po 301 13).toInt by omega)
      refine mp_t (s_irem (v := z151) dX7_crimped_75 n153 h152) (mpp 76 rfl ?_)
      refine mp_a (a_istore_n (L' := [(3, .int z151), (2, .int z141), (0, .ref 301), (1, .int v1)]) dX7_crimped_76 (by decide) rfl) (mpp 77 rfl ?_)
      refine mp_a (a_aload_n dX7_crimped_77 rfl) (mpp 78 rfl ?_)
      refine mt_getI (i := 161) (k := 14) hT dX7_crimped_78 rfl rl_301 (by decide) rfl (by decide) rfl (fun g156 g157 => mpp 81 rfl ?_)
      refine mp_Tb (t := 93) (j_if_eq dX7_crimped_81) (by decide) (fun c158 => ?_) (fun c158 => mpp 84 rfl ?_)
      · have c158 : (fv Po 301 14).toInt = 0 := ti_eq c158
        exfalso
        omega
      · have c158 : (fv Po 301 14).toInt ≠ 0 := ti_eq_n c158
        refine mp_a (a_aload_n dX7_crimped_84 rfl) (mpp 85 rfl ?_)
        refine mt_getU (i := 31) (k := 12) (A := 309) hT dX7_crimped_85 rfl rl_301 (by decide) rfl (by decide) rfl un_25 (mpp 88 rfl ?_)
        refine mp_a (a_iload_n dX7_crimped_88 rfl) (mpp 89 rfl ?_)
        refine mt_ial (n := 8) hT dX7_crimped_89 rl_309 (by decide) rfl rfl (by omega) (by omega) rfl (fun g159 g160 => mpp 90 rfl ?_)
        refine mp_a (a_goto (t := 101) dX7_crimped_90 (by decide)) ?_
        refine mp_a (a_istore (L' := [(4, .int (fv Po 309 v1.toInt.toNat)), (3, .int z151), (2, .int z141), (0, .ref 301), (1, .int v1)]) dX7_crimped_101 (by decide) rfl) (mpp 103 rfl ?_)
        refine mp_a (a_aload_n dX7_crimped_103 rfl) (mpp 104 rfl ?_)
        refine mt_getI (i := 161) (k := 14) hT dX7_crimped_104 rfl rl_301 (by decide) rfl (by decide) rfl (fun g161 g162 => mpp 107 rfl ?_)
        refine mp_Tb (t := 119) (j_if_eq dX7_crimped_107) (by decide) (fun c163 => ?_) (fun c163 => mpp 110 rfl ?_)
        · have c163 : (fv Po 301 14).toInt = 0 := ti_eq c163
          exfalso
          omega
        · have c163 : (fv Po 301 14).toInt ≠ 0 := ti_eq_n c163
          refine mp_a (a_aload_n dX7_crimped_110 rfl) (mpp 111 rfl ?_)
          refine mt_getU (i := 31) (k := 12) (A := 309) hT dX7_crimped_111 rfl rl_301 (by decide) rfl (by decide) rfl un_25 (mpp 114 rfl ?_)
          refine mp_a (a_iload_n dX7_crimped_114 rfl) (mpp 115 rfl ?_)
          refine mt_ial (n := 8) hT dX7_crimped_115 rl_309 (by decide) rfl rfl (by omega) (by omega) rfl (fun g164 g165 => mpp 116 rfl ?_)
          refine mp_a (a_goto (t := 125) dX7_crimped_116 (by decide)) ?_
          refine mp_a (a_istore (L' := [(5, .int (fv Po 309 z151.toInt.toNat)), (4, .int (fv Po 309 v1.toInt.toNat)), (3, .int z151), (2, .int z141), (0, .ref 301), (1, .int v1)]) dX7_crimped_125 (by decide) rfl) (mpp 127 rfl ?_)
          refine mp_a (a_aload_n dX7_crimped_127 rfl) (mpp 128 rfl ?_)
          refine mt_getU (i := 28) (k := 11) (A := 308) hT dX7_crimped_128 rfl rl_301 (by decide) rfl (by decide) rfl un_24 (mpp 131 rfl ?_)
          refine mp_a (a_iload_n dX7_crimped_131 rfl) (mpp 132 rfl ?_)
          refine mt_ial (n := 8) hT dX7_crimped_132 rl_308 (by decide) rfl rfl (by omega) (by omega) rfl (fun g166 g167 => mpp 133 rfl ?_)
          refine mp_a (a_aload_n dX7_crimped_133 rfl) (mpp 134 rfl ?_)
          refine mt_getU (i := 28) (k := 11) (A := 308) hT dX7_crimped_134 rfl rl_301 (by decide) rfl (by decide) rfl un_24 (mpp 137 rfl ?_)
          refine mp_a (a_iload_n dX7_crimped_137 rfl) (mpp 138 rfl ?_)
          refine mt_ial (n := 8) hT dX7_crimped_138 rl_308 (by decide) rfl rfl (by omega) (by omega) rfl (fun g168 g169 => mpp 139 rfl ?_)
          refine mp_Tb (t := 185) (j_icmp_gt dX7_crimped_139) (by decide) (fun c170 => ?_) (fun c170 => mpp 142 rfl ?_)
          · have c170 : (fv Po 308 v1.toInt.toNat).toInt > (fv Po 308 z141.toInt.toNat).toInt := ti_gt c170
            obtain ⟨z171, h172⟩ := ti_ex (v1 + 1 : Int32)
            have wz171 := ti_full z171
            refine mp_a (a_iinc (v := z171) (L' := [(1, .int z171), (5, .int (fv Po 309 z151.toInt.toNat)), (4, .int (fv Po 309 v1.toInt.toNat)), (3, .int z151), (2, .int z141), (0, .ref 301)]) dX7_crimped_185 (by decide) rfl h172 rfl) (mpp 188 rfl ?_)
            try have e173 : z171.toInt = v1.toInt + 1 := ti_addz h172 rfl rfl (by omega) (by omega)
            refine mp_a (a_goto (t := 30) dX7_crimped_188 (by decide)) ?_
            refine MEvP.less (L := [(0, .ref 301), (1, .int z171)]) rfl rfl ⟨rfl, rfl, trivial⟩ ?_
            have i174 : (fv Po 301 14).toInt ≠ 0 ∨ 1 ≤ z171.toInt := by omega
            have i175 : 0 ≤ z171.toInt := by omega
            have i176 : (fv Po 301 14).toInt = 0 ∨ 3 ≤ (fv Po 301 13).toInt := by omega
            have q179_p : z141.toInt.toNat = prI (fv Po 301 13).toInt.toNat v1.toInt.toNat := pr_mod (by omega) (by omega) (by omega) (ti_remx h142 (by omega) (by omega))
            have q179_n : z151.toInt.toNat = nxI (fv Po 301 13).toInt.toNat v1.toInt.toNat := nx_mod (by omega) (by omega) (by omega) (ti_remx h152 (by omega) (by omega))
            have q179_f : (fv Po 308 z141.toInt.toNat).toInt = (fv Po 308 (prI (fv Po 301 13).toInt.toNat v1.toInt.toNat)).toInt := by rw [q179_p]
            have q179_g : (fv Po 308 z151.toInt.toNat).toInt = (fv Po 308 (nxI (fv Po 301 13).toInt.toNat v1.toInt.toNat)).toInt := by rw [q179_n]
            have q179_a : GM Po v1.toInt.toNat = (fv Po 309 v1.toInt.toNat) := by unfold GM; first | rw [if_pos (show (fv Po 301 14).toInt = 0 from by omega), show v1.toInt.toNat - 1 = v1.toInt.toNat from by omega] | rw [if_neg (show ¬ (fv Po 301 14).toInt = 0 from by omega)]
            have q179_l := nxI_lt (n := (fv Po 301 13).toInt.toNat) (i := v1.toInt.toNat) (by omega)
            have q179_b : GM Po (nxI (fv Po 301 13).toInt.toNat v1.toInt.toNat) = (fv Po 309 z151.toInt.toNat) := by unfold GM; first | rw [if_pos (show (fv Po 301 14).toInt = 0 from by omega), show nxI (fv Po 301 13).toInt.toNat v1.toInt.toNat - 1 = z151.toInt.toNat from by unfold nxI; rw [if_pos (by omega)]; omega] | rw [if_neg (show ¬ (fv Po 301 14).toInt = 0 from by omega), q179_n]
            have q179_c : (GM Po v1.toInt.toNat).toInt = (fv Po 309 v1.toInt.toNat).toInt := congrArg Int32.toInt q179_a
            have q179_d : (GM Po (nxI (fv Po 301 13).toInt.toNat v1.toInt.toNat)).toInt = (fv Po 309 z151.toInt.toNat).toInt := congrArg Int32.toInt q179_b
            have w178_ : ¬ ((fv Po 308 v1.toInt.toNat).toInt ≤ (fv Po 308 (prI (fv Po 301 13).toInt.toNat v1.toInt.toNat)).toInt ∧ (fv Po 308 v1.toInt.toNat).toInt ≤ (fv Po 308 (nxI (fv Po 301 13).toInt.toNat v1.toInt.toNat)).toInt ∧ (GM Po v1.toInt.toNat + GM Po (nxI (fv Po 301 13).toInt.toNat v1.toInt.toNat)).toInt = 3 ∧ ¬ (GM Po v1.toInt.toNat).toInt = (GM Po (nxI (fv Po 301 13).toInt.toNat v1.toInt.toNat)).toInt ∧ ¬ (GM Po v1.toInt.toNat).toInt = 0 ∧ ¬ (GM Po (nxI (fv Po 301 13).toInt.toNat v1.toInt.toNat)).toInt = 0) := by omega
            have i177 : ∀ j : Nat, (1 ≤ (j : Int) ∨ (fv Po 301 14).toInt ≠ 0) → (j : Int) < z171.toInt → ¬ CRf cM (fv Po 301 13).toInt.toNat (fun j : Nat => fv Po 308 j) (GM Po) j := fun j h1 h2 => if e : j = v1.toInt.toNat then fun h => w178_ (e ▸ h) else i_3 j h1 (by omega)
            exact ih _ (by omega) _ i174 i175 i176 i177 rfl
          · have c170 : (fv Po 308 v1.toInt.toNat).toInt ≤ (fv Po 308 z141.toInt.toNat).toInt := ti_gt_n c170
            refine mp_a (a_aload_n dX7_crimped_142 rfl) (mpp 143 rfl ?_)
            refine mt_getU (i := 28) (k := 11) (A := 308) hT dX7_crimped_143 rfl rl_301 (by decide) rfl (by decide) rfl un_24 (mpp 146 rfl ?_)
            refine mp_a (a_iload_n dX7_crimped_146 rfl) (mpp 147 rfl ?_)
            refine mt_ial (n := 8) hT dX7_crimped_147 rl_308 (by decide) rfl rfl (by omega) (by omega) rfl (fun g180 g181 => mpp 148 rfl ?_)
            refine mp_a (a_aload_n dX7_crimped_148 rfl) (mpp 149 rfl ?_)
            refine mt_getU (i := 28) (k := 11) (A := 308) hT dX7_crimped_149 rfl rl_301 (by decide) rfl (by decide) rfl un_24 (mpp 152 rfl ?_)
            refine mp_a (a_iload_n dX7_crimped_152 rfl) (mpp 153 rfl ?_)
            refine mt_ial (n := 8) hT dX7_crimped_153 rl_308 (by decide) rfl rfl (by omega) (by omega) rfl (fun g182 g183 => mpp 154 rfl ?_)
            refine mp_Tb (t := 185) (j_icmp_gt dX7_crimped_154) (by decide) (fun c184 => ?_) (fun c184 => mpp 157 rfl ?_)
            · have c184 : (fv Po 308 v1.toInt.toNat).toInt > (fv Po 308 z151.toInt.toNat).toInt := ti_gt c184
              obtain ⟨z185, h186⟩ := ti_ex (v1 + 1 : Int32)
              have wz185 := ti_full z185
              refine mp_a (a_iinc (v := z185) (L' := [(1, .int z185), (5, .int (fv Po 309 z151.toInt.toNat)), (4, .int (fv Po 309 v1.toInt.toNat)), (3, .int z151), (2, .int z141), (0, .ref 301)]) dX7_crimped_185 (by decide) rfl h186 rfl) (mpp 188 rfl ?_)
              try have e187 : z185.toInt = v1.toInt + 1 := ti_addz h186 rfl rfl (by omega) (by omega)
              refine mp_a (a_goto (t := 30) dX7_crimped_188 (by decide)) ?_
              refine MEvP.less (L := [(0, .ref 301), (1, .int z185)]) rfl rfl ⟨rfl, rfl, trivial⟩ ?_
              have i188 : (fv Po 301 14).toInt ≠ 0 ∨ 1 ≤ z185.toInt := by omega
              have i189 : 0 ≤ z185.toInt := by omega
              have i190 : (fv Po 301 14).toInt = 0 ∨ 3 ≤ (fv Po 301 13).toInt := by omega
              have q193_p : z141.toInt.toNat = prI (fv Po 301 13).toInt.toNat v1.toInt.toNat := pr_mod (by omega) (by omega) (by omega) (ti_remx h142 (by omega) (by omega))
              have q193_n : z151.toInt.toNat = nxI (fv Po 301 13).toInt.toNat v1.toInt.toNat := nx_mod (by omega) (by omega) (by omega) (ti_remx h152 (by omega) (by omega))
              have q193_f : (fv Po 308 z141.toInt.toNat).toInt = (fv Po 308 (prI (fv Po 301 13).toInt.toNat v1.toInt.toNat)).toInt := by rw [q193_p]
              have q193_g : (fv Po 308 z151.toInt.toNat).toInt = (fv Po 308 (nxI (fv Po 301 13).toInt.toNat v1.toInt.toNat)).toInt := by rw [q193_n]
              have q193_a : GM Po v1.toInt.toNat = (fv Po 309 v1.toInt.toNat) := by unfold GM; first | rw [if_pos (show (fv Po 301 14).toInt = 0 from by omega), show v1.toInt.toNat - 1 = v1.toInt.toNat from by omega] | rw [if_neg (show ¬ (fv Po 301 14).toInt = 0 from by omega)]
              have q193_l := nxI_lt (n := (fv Po 301 13).toInt.toNat) (i := v1.toInt.toNat) (by omega)
              have q193_b : GM Po (nxI (fv Po 301 13).toInt.toNat v1.toInt.toNat) = (fv Po 309 z151.toInt.toNat) := by unfold GM; first | rw [if_pos (show (fv Po 301 14).toInt = 0 from by omega), show nxI (fv Po 301 13).toInt.toNat v1.toInt.toNat - 1 = z151.toInt.toNat from by unfold nxI; rw [if_pos (by omega)]; omega] | rw [if_neg (show ¬ (fv Po 301 14).toInt = 0 from by omega), q193_n]
              have q193_c : (GM Po v1.toInt.toNat).toInt = (fv Po 309 v1.toInt.toNat).toInt := congrArg Int32.toInt q193_a
              have q193_d : (GM Po (nxI (fv Po 301 13).toInt.toNat v1.toInt.toNat)).toInt = (fv Po 309 z151.toInt.toNat).toInt := congrArg Int32.toInt q193_b
              have w192_ : ¬ ((fv Po 308 v1.toInt.toNat).toInt ≤ (fv Po 308 (prI (fv Po 301 13).toInt.toNat v1.toInt.toNat)).toInt ∧ (fv Po 308 v1.toInt.toNat).toInt ≤ (fv Po 308 (nxI (fv Po 301 13).toInt.toNat v1.toInt.toNat)).toInt ∧ (GM Po v1.toInt.toNat + GM Po (nxI (fv Po 301 13).toInt.toNat v1.toInt.toNat)).toInt = 3 ∧ ¬ (GM Po v1.toInt.toNat).toInt = (GM Po (nxI (fv Po 301 13).toInt.toNat v1.toInt.toNat)).toInt ∧ ¬ (GM Po v1.toInt.toNat).toInt = 0 ∧ ¬ (GM Po (nxI (fv Po 301 13).toInt.toNat v1.toInt.toNat)).toInt = 0) := by omega
              have i191 : ∀ j : Nat, (1 ≤ (j : Int) ∨ (fv Po 301 14).toInt ≠ 0) → (j : Int) < z185.toInt → ¬ CRf cM (fv Po 301 13).toInt.toNat (fun j : Nat => fv Po 308 j) (GM Po) j := fun j h1 h2 => if e : j = v1.toInt.toNat then fun h => w192_ (e ▸ h) else i_3 j h1 (by omega)
              exact ih _ (by omega) _ i188 i189 i190 i191 rfl
            · have c184 : (fv Po 308 v1.toInt.toNat).toInt ≤ (fv Po 308 z151.toInt.toNat).toInt := ti_gt_n c184
              refine mp_a (a_iload dX7_crimped_157 rfl) (mpp 159 rfl ?_)
              refine mp_a (a_iload dX7_crimped_159 rfl) (mpp 161 rfl ?_)
              obtain ⟨z194, h195⟩ := ti_ex ((fv Po 309 v1.toInt.toNat) + (fv Po 309 z151.toInt.toNat) : Int32)
              have wz194 := ti_full z194
              refine mp_t (s_iadd (v := z194) dX7_crimped_161 h195) (mpp 162 rfl ?_)
              try have e196 : z194.toInt = (fv Po 309 v1.toInt.toNat).toInt + (fv Po 309 z151.toInt.toNat).toInt := ti_addz h195 rfl rfl (by omega) (by omega)
              refine mp_a (a_iconst (v := 3) dX7_crimped_162 rfl) (mpp 163 rfl ?_)
              refine mp_Tb (t := 185) (j_icmp_ne dX7_crimped_163) (by decide) (fun c197 => ?_) (fun c197 => mpp 166 rfl ?_)
              · have c197 : z194.toInt ≠ 3 := ti_ne c197
                obtain ⟨z198, h199⟩ := ti_ex (v1 + 1 : Int32)
                have wz198 := ti_full z198
                refine mp_a (a_iinc (v := z198) (L' := [(1, .int z198), (5, .int (fv Po 309 z151.toInt.toNat)), (4, .int (fv Po 309 v1.toInt.toNat)), (3, .int z151), (2, .int z141), (0, .ref 301)]) dX7_crimped_185 (by decide) rfl h199 rfl) (mpp 188 rfl ?_)
                try have e200 : z198.toInt = v1.toInt + 1 := ti_addz h199 rfl rfl (by omega) (by omega)
                refine mp_a (a_goto (t := 30) dX7_crimped_188 (by decide)) ?_
                refine MEvP.less (L := [(0, .ref 301), (1, .int z198)]) rfl rfl ⟨rfl, rfl, trivial⟩ ?_
                have i201 : (fv Po 301 14).toInt ≠ 0 ∨ 1 ≤ z198.toInt := by omega
                have i202 : 0 ≤ z198.toInt := by omega
                have i203 : (fv Po 301 14).toInt = 0 ∨ 3 ≤ (fv Po 301 13).toInt := by omega
                have q206_p : z141.toInt.toNat = prI (fv Po 301 13).toInt.toNat v1.toInt.toNat := pr_mod (by omega) (by omega) (by omega) (ti_remx h142 (by omega) (by omega))
                have q206_n : z151.toInt.toNat = nxI (fv Po 301 13).toInt.toNat v1.toInt.toNat := nx_mod (by omega) (by omega) (by omega) (ti_remx h152 (by omega) (by omega))
                have q206_f : (fv Po 308 z141.toInt.toNat).toInt = (fv Po 308 (prI (fv Po 301 13).toInt.toNat v1.toInt.toNat)).toInt := by rw [q206_p]
                have q206_g : (fv Po 308 z151.toInt.toNat).toInt = (fv Po 308 (nxI (fv Po 301 13).toInt.toNat v1.toInt.toNat)).toInt := by rw [q206_n]
                have q206_a : GM Po v1.toInt.toNat = (fv Po 309 v1.toInt.toNat) := by unfold GM; first | rw [if_pos (show (fv Po 301 14).toInt = 0 from by omega), show v1.toInt.toNat - 1 = v1.toInt.toNat from by omega] | rw [if_neg (show ¬ (fv Po 301 14).toInt = 0 from by omega)]
                have q206_l := nxI_lt (n := (fv Po 301 13).toInt.toNat) (i := v1.toInt.toNat) (by omega)
                have q206_b : GM Po (nxI (fv Po 301 13).toInt.toNat v1.toInt.toNat) = (fv Po 309 z151.toInt.toNat) := by unfold GM; first | rw [if_pos (show (fv Po 301 14).toInt = 0 from by omega), show nxI (fv Po 301 13).toInt.toNat v1.toInt.toNat - 1 = z151.toInt.toNat from by unfold nxI; rw [if_pos (by omega)]; omega] | rw [if_neg (show ¬ (fv Po 301 14).toInt = 0 from by omega), q206_n]
                have q206_c : (GM Po v1.toInt.toNat).toInt = (fv Po 309 v1.toInt.toNat).toInt := congrArg Int32.toInt q206_a
                have q206_d : (GM Po (nxI (fv Po 301 13).toInt.toNat v1.toInt.toNat)).toInt = (fv Po 309 z151.toInt.toNat).toInt := congrArg Int32.toInt q206_b
                have q206_s : (GM Po v1.toInt.toNat + GM Po (nxI (fv Po 301 13).toInt.toNat v1.toInt.toNat)).toInt = z194.toInt := by rw [q206_a, q206_b, h195]
                have w205_ : ¬ ((fv Po 308 v1.toInt.toNat).toInt ≤ (fv Po 308 (prI (fv Po 301 13).toInt.toNat v1.toInt.toNat)).toInt ∧ (fv Po 308 v1.toInt.toNat).toInt ≤ (fv Po 308 (nxI (fv Po 301 13).toInt.toNat v1.toInt.toNat)).toInt ∧ (GM Po v1.toInt.toNat + GM Po (nxI (fv Po 301 13).toInt.toNat v1.toInt.toNat)).toInt = 3 ∧ ¬ (GM Po v1.toInt.toNat).toInt = (GM Po (nxI (fv Po 301 13).toInt.toNat v1.toInt.toNat)).toInt ∧ ¬ (GM Po v1.toInt.toNat).toInt = 0 ∧ ¬ (GM Po (nxI (fv Po 301 13).toInt.toNat v1.toInt.toNat)).toInt = 0) := by omega
                have i204 : ∀ j : Nat, (1 ≤ (j : Int) ∨ (fv Po 301 14).toInt ≠ 0) → (j : Int) < z198.toInt → ¬ CRf cM (fv Po 301 13).toInt.toNat (fun j : Nat => fv Po 308 j) (GM Po) j := fun j h1 h2 => if e : j = v1.toInt.toNat then fun h => w205_ (e ▸ h) else i_3 j h1 (by omega)
                exact ih _ (by omega) _ i201 i202 i203 i204 rfl
              · have c197 : z194.toInt = 3 := ti_ne_n c197
                refine mp_a (a_iload dX7_crimped_166 rfl) (mpp 168 rfl ?_)
                refine mp_a (a_iload dX7_crimped_168 rfl) (mpp 170 rfl ?_)
                refine mp_Tb (t := 185) (j_icmp_eq dX7_crimped_170) (by decide) (fun c207 => ?_) (fun c207 => mpp 173 rfl ?_)
                · have c207 : (fv Po 309 v1.toInt.toNat).toInt = (fv Po 309 z151.toInt.toNat).toInt := ti_eq c207
                  obtain ⟨z208, h209⟩ := ti_ex (v1 + 1 : Int32)
                  have wz208 := ti_full z208
                  refine mp_a (a_iinc (v := z208) (L' := [(1, .int z208), (5, .int (fv Po 309 z151.toInt.toNat)), (4, .int (fv Po 309 v1.toInt.toNat)), (3, .int z151), (2, .int z141), (0, .ref 301)]) dX7_crimped_185 (by decide) rfl h209 rfl) (mpp 188 rfl ?_)
                  try have e210 : z208.toInt = v1.toInt + 1 := ti_addz h209 rfl rfl (by omega) (by omega)
                  refine mp_a (a_goto (t := 30) dX7_crimped_188 (by decide)) ?_
                  refine MEvP.less (L := [(0, .ref 301), (1, .int z208)]) rfl rfl ⟨rfl, rfl, trivial⟩ ?_
                  have i211 : (fv Po 301 14).toInt ≠ 0 ∨ 1 ≤ z208.toInt := by omega
                  have i212 : 0 ≤ z208.toInt := by omega
                  have i213 : (fv Po 301 14).toInt = 0 ∨ 3 ≤ (fv Po 301 13).toInt := by omega
                  have q216_p : z141.toInt.toNat = prI (fv Po 301 13).toInt.toNat v1.toInt.toNat := pr_mod (by omega) (by omega) (by omega) (ti_remx h142 (by omega) (by omega))
                  have q216_n : z151.toInt.toNat = nxI (fv Po 301 13).toInt.toNat v1.toInt.toNat := nx_mod (by omega) (by omega) (by omega) (ti_remx h152 (by omega) (by omega))
                  have q216_f : (fv Po 308 z141.toInt.toNat).toInt = (fv Po 308 (prI (fv Po 301 13).toInt.toNat v1.toInt.toNat)).toInt := by rw [q216_p]
                  have q216_g : (fv Po 308 z151.toInt.toNat).toInt = (fv Po 308 (nxI (fv Po 301 13).toInt.toNat v1.toInt.toNat)).toInt := by rw [q216_n]
                  have q216_a : GM Po v1.toInt.toNat = (fv Po 309 v1.toInt.toNat) := by unfold GM; first | rw [if_pos (show (fv Po 301 14).toInt = 0 from by omega), show v1.toInt.toNat - 1 = v1.toInt.toNat from by omega] | rw [if_neg (show ¬ (fv Po 301 14).toInt = 0 from by omega)]
                  have q216_l := nxI_lt (n := (fv Po 301 13).toInt.toNat) (i := v1.toInt.toNat) (by omega)
                  have q216_b : GM Po (nxI (fv Po 301 13).toInt.toNat v1.toInt.toNat) = (fv Po 309 z151.toInt.toNat) := by unfold GM; first | rw [if_pos (show (fv Po 301 14).toInt = 0 from by omega), show nxI (fv Po 301 13).toInt.toNat v1.toInt.toNat - 1 = z151.toInt.toNat from by unfold nxI; rw [if_pos (by omega)]; omega] | rw [if_neg (show ¬ (fv Po 301 14).toInt = 0 from by omega), q216_n]
                  have q216_c : (GM Po v1.toInt.toNat).toInt = (fv Po 309 v1.toInt.toNat).toInt := congrArg Int32.toInt q216_a
                  have q216_d : (GM Po (nxI (fv Po 301 13).toInt.toNat v1.toInt.toNat)).toInt = (fv Po 309 z151.toInt.toNat).toInt := congrArg Int32.toInt q216_b
                  have q216_s : (GM Po v1.toInt.toNat + GM Po (nxI (fv Po 301 13).toInt.toNat v1.toInt.toNat)).toInt = z194.toInt := by rw [q216_a, q216_b, h195]
                  have w215_ : ¬ ((fv Po 308 v1.toInt.toNat).toInt ≤ (fv Po 308 (prI (fv Po 301 13).toInt.toNat v1.toInt.toNat)).toInt ∧ (fv Po 308 v1.toInt.toNat).toInt ≤ (fv Po 308 (nxI (fv Po 301 13).toInt.toNat v1.toInt.toNat)).toInt ∧ (GM Po v1.toInt.toNat + GM Po (nxI (fv Po 301 13).toInt.toNat v1.toInt.toNat)).toInt = 3 ∧ ¬ (GM Po v1.toInt.toNat).toInt = (GM Po (nxI (fv Po 301 13).toInt.toNat v1.toInt.toNat)).toInt ∧ ¬ (GM Po v1.toInt.toNat).toInt = 0 ∧ ¬ (GM Po (nxI (fv Po 301 13).toInt.toNat v1.toInt.toNat)).toInt = 0) := by omega
                  have i214 : ∀ j : Nat, (1 ≤ (j : Int) ∨ (fv Po 301 14).toInt ≠ 0) → (j : Int) < z208.toInt → ¬ CRf cM (fv Po 301 13).toInt.toNat (fun j : Nat => fv Po 308 j) (GM Po) j := fun j h1 h2 => if e : j = v1.toInt.toNat then fun h => w215_ (e ▸ h) else i_3 j h1 (by omega)
                  exact ih _ (by omega) _ i211 i212 i213 i214 rfl
                · have c207 : (fv Po 309 v1.toInt.toNat).toInt ≠ (fv Po 309 z151.toInt.toNat).toInt := ti_eq_n c207
                  refine mp_a (a_iload dX7_crimped_173 rfl) (mpp 175 rfl ?_)
                  refine mp_Tb (t := 185) (j_if_eq dX7_crimped_175) (by decide) (fun c217 => ?_) (fun c217 => mpp 178 rfl ?_)
                  · have c217 : (fv Po 309 v1.toInt.toNat).toInt = 0 := ti_eq c217
                    obtain ⟨z218, h219⟩ := ti_ex (v1 + 1 : Int32)
                    have wz218 := ti_full z218
                    refine mp_a (a_iinc (v := z218) (L' := [(1, .int z218), (5, .int (fv Po 309 z151.toInt.toNat)), (4, .int (fv Po 309 v1.toInt.toNat)), (3, .int z151), (2, .int z141), (0, .ref 301)]) dX7_crimped_185 (by decide) rfl h219 rfl) (mpp 188 rfl ?_)
                    try have e220 : z218.toInt = v1.toInt + 1 := ti_addz h219 rfl rfl (by omega) (by omega)
                    refine mp_a (a_goto (t := 30) dX7_crimped_188 (by decide)) ?_
                    refine MEvP.less (L := [(0, .ref 301), (1, .int z218)]) rfl rfl ⟨rfl, rfl, trivial⟩ ?_
                    have i221 : (fv Po 301 14).toInt ≠ 0 ∨ 1 ≤ z218.toInt := by omega
                    have i222 : 0 ≤ z218.toInt := by omega
                    have i223 : (fv Po 301 14).toInt = 0 ∨ 3 ≤ (fv Po 301 13).toInt := by omega
                    have q226_p : z141.toInt.toNat = prI (fv Po 301 13).toInt.toNat v1.toInt.toNat := pr_mod (by omega) (by omega) (by omega) (ti_remx h142 (by omega) (by omega))
                    have q226_n : z151.toInt.toNat = nxI (fv Po 301 13).toInt.toNat v1.toInt.toNat := nx_mod (by omega) (by omega) (by omega) (ti_remx h152 (by omega) (by omega))
                    have q226_f : (fv Po 308 z141.toInt.toNat).toInt = (fv Po 308 (prI (fv Po 301 13).toInt.toNat v1.toInt.toNat)).toInt := by rw [q226_p]
                    have q226_g : (fv Po 308 z151.toInt.toNat).toInt = (fv Po 308 (nxI (fv Po 301 13).toInt.toNat v1.toInt.toNat)).toInt := by rw [q226_n]
                    have q226_a : GM Po v1.toInt.toNat = (fv Po 309 v1.toInt.toNat) := by unfold GM; first | rw [if_pos (show (fv Po 301 14).toInt = 0 from by omega), show v1.toInt.toNat - 1 = v1.toInt.toNat from by omega] | rw [if_neg (show ¬ (fv Po 301 14).toInt = 0 from by omega)]
                    have q226_l := nxI_lt (n := (fv Po 301 13).toInt.toNat) (i := v1.toInt.toNat) (by omega)
                    have q226_b : GM Po (nxI (fv Po 301 13).toInt.toNat v1.toInt.toNat) = (fv Po 309 z151.toInt.toNat) := by unfold GM; first | rw [if_pos (show (fv Po 301 14).toInt = 0 from by omega), show nxI (fv Po 301 13).toInt.toNat v1.toInt.toNat - 1 = z151.toInt.toNat from by unfold nxI; rw [if_pos (by omega)]; omega] | rw [if_neg (show ¬ (fv Po 301 14).toInt = 0 from by omega), q226_n]
                    have q226_c : (GM Po v1.toInt.toNat).toInt = (fv Po 309 v1.toInt.toNat).toInt := congrArg Int32.toInt q226_a
                    have q226_d : (GM Po (nxI (fv Po 301 13).toInt.toNat v1.toInt.toNat)).toInt = (fv Po 309 z151.toInt.toNat).toInt := congrArg Int32.toInt q226_b
                    have q226_s : (GM Po v1.toInt.toNat + GM Po (nxI (fv Po 301 13).toInt.toNat v1.toInt.toNat)).toInt = z194.toInt := by rw [q226_a, q226_b, h195]
                    have w225_ : ¬ ((fv Po 308 v1.toInt.toNat).toInt ≤ (fv Po 308 (prI (fv Po 301 13).toInt.toNat v1.toInt.toNat)).toInt ∧ (fv Po 308 v1.toInt.toNat).toInt ≤ (fv Po 308 (nxI (fv Po 301 13).toInt.toNat v1.toInt.toNat)).toInt ∧ (GM Po v1.toInt.toNat + GM Po (nxI (fv Po 301 13).toInt.toNat v1.toInt.toNat)).toInt = 3 ∧ ¬ (GM Po v1.toInt.toNat).toInt = (GM Po (nxI (fv Po 301 13).toInt.toNat v1.toInt.toNat)).toInt ∧ ¬ (GM Po v1.toInt.toNat).toInt = 0 ∧ ¬ (GM Po (nxI (fv Po 301 13).toInt.toNat v1.toInt.toNat)).toInt = 0) := by omega
                    have i224 : ∀ j : Nat, (1 ≤ (j : Int) ∨ (fv Po 301 14).toInt ≠ 0) → (j : Int) < z218.toInt → ¬ CRf cM (fv Po 301 13).toInt.toNat (fun j : Nat => fv Po 308 j) (GM Po) j := fun j h1 h2 => if e : j = v1.toInt.toNat then fun h => w225_ (e ▸ h) else i_3 j h1 (by omega)
                    exact ih _ (by omega) _ i221 i222 i223 i224 rfl
                  · have c217 : (fv Po 309 v1.toInt.toNat).toInt ≠ 0 := ti_eq_n c217
                    refine mp_a (a_iload dX7_crimped_178 rfl) (mpp 180 rfl ?_)
                    refine mp_Tb (t := 185) (j_if_eq dX7_crimped_180) (by decide) (fun c227 => ?_) (fun c227 => mpp 183 rfl ?_)
                    · have c227 : (fv Po 309 z151.toInt.toNat).toInt = 0 := ti_eq c227
                      obtain ⟨z228, h229⟩ := ti_ex (v1 + 1 : Int32)
                      have wz228 := ti_full z228
                      refine mp_a (a_iinc (v := z228) (L' := [(1, .int z228), (5, .int (fv Po 309 z151.toInt.toNat)), (4, .int (fv Po 309 v1.toInt.toNat)), (3, .int z151), (2, .int z141), (0, .ref 301)]) dX7_crimped_185 (by decide) rfl h229 rfl) (mpp 188 rfl ?_)
                      try have e230 : z228.toInt = v1.toInt + 1 := ti_addz h229 rfl rfl (by omega) (by omega)
                      refine mp_a (a_goto (t := 30) dX7_crimped_188 (by decide)) ?_
                      refine MEvP.less (L := [(0, .ref 301), (1, .int z228)]) rfl rfl ⟨rfl, rfl, trivial⟩ ?_
                      have i231 : (fv Po 301 14).toInt ≠ 0 ∨ 1 ≤ z228.toInt := by omega
                      have i232 : 0 ≤ z228.toInt := by omega
                      have i233 : (fv Po 301 14).toInt = 0 ∨ 3 ≤ (fv Po 301 13).toInt := by omega
                      have q236_p : z141.toInt.toNat = prI (fv Po 301 13).toInt.toNat v1.toInt.toNat := pr_mod (by omega) (by omega) (by omega) (ti_remx h142 (by omega) (by omega))
                      have q236_n : z151.toInt.toNat = nxI (fv Po 301 13).toInt.toNat v1.toInt.toNat := nx_mod (by omega) (by omega) (by omega) (ti_remx h152 (by omega) (by omega))
                      have q236_f : (fv Po 308 z141.toInt.toNat).toInt = (fv Po 308 (prI (fv Po 301 13).toInt.toNat v1.toInt.toNat)).toInt := by rw [q236_p]
                      have q236_g : (fv Po 308 z151.toInt.toNat).toInt = (fv Po 308 (nxI (fv Po 301 13).toInt.toNat v1.toInt.toNat)).toInt := by rw [q236_n]
                      have q236_a : GM Po v1.toInt.toNat = (fv Po 309 v1.toInt.toNat) := by unfold GM; first | rw [if_pos (show (fv Po 301 14).toInt = 0 from by omega), show v1.toInt.toNat - 1 = v1.toInt.toNat from by omega] | rw [if_neg (show ¬ (fv Po 301 14).toInt = 0 from by omega)]
                      have q236_l := nxI_lt (n := (fv Po 301 13).toInt.toNat) (i := v1.toInt.toNat) (by omega)
                      have q236_b : GM Po (nxI (fv Po 301 13).toInt.toNat v1.toInt.toNat) = (fv Po 309 z151.toInt.toNat) := by unfold GM; first | rw [if_pos (show (fv Po 301 14).toInt = 0 from by omega), show nxI (fv Po 301 13).toInt.toNat v1.toInt.toNat - 1 = z151.toInt.toNat from by unfold nxI; rw [if_pos (by omega)]; omega] | rw [if_neg (show ¬ (fv Po 301 14).toInt = 0 from by omega), q236_n]
                      have q236_c : (GM Po v1.toInt.toNat).toInt = (fv Po 309 v1.toInt.toNat).toInt := congrArg Int32.toInt q236_a
                      have q236_d : (GM Po (nxI (fv Po 301 13).toInt.toNat v1.toInt.toNat)).toInt = (fv Po 309 z151.toInt.toNat).toInt := congrArg Int32.toInt q236_b
                      have q236_s : (GM Po v1.toInt.toNat + GM Po (nxI (fv Po 301 13).toInt.toNat v1.toInt.toNat)).toInt = z194.toInt := by rw [q236_a, q236_b, h195]
                      have w235_ : ¬ ((fv Po 308 v1.toInt.toNat).toInt ≤ (fv Po 308 (prI (fv Po 301 13).toInt.toNat v1.toInt.toNat)).toInt ∧ (fv Po 308 v1.toInt.toNat).toInt ≤ (fv Po 308 (nxI (fv Po 301 13).toInt.toNat v1.toInt.toNat)).toInt ∧ (GM Po v1.toInt.toNat + GM Po (nxI (fv Po 301 13).toInt.toNat v1.toInt.toNat)).toInt = 3 ∧ ¬ (GM Po v1.toInt.toNat).toInt = (GM Po (nxI (fv Po 301 13).toInt.toNat v1.toInt.toNat)).toInt ∧ ¬ (GM Po v1.toInt.toNat).toInt = 0 ∧ ¬ (GM Po (nxI (fv Po 301 13).toInt.toNat v1.toInt.toNat)).toInt = 0) := by omega
                      have i234 : ∀ j : Nat, (1 ≤ (j : Int) ∨ (fv Po 301 14).toInt ≠ 0) → (j : Int) < z228.toInt → ¬ CRf cM (fv Po 301 13).toInt.toNat (fun j : Nat => fv Po 308 j) (GM Po) j := fun j h1 h2 => if e : j = v1.toInt.toNat then fun h => w235_ (e ▸ h) else i_3 j h1 (by omega)
                      exact ih _ (by omega) _ i231 i232 i233 i234 rfl
                    · have c227 : (fv Po 309 z151.toInt.toNat).toInt ≠ 0 := ti_eq_n c227
                      refine mp_a (a_iload_n dX7_crimped_183 rfl) (mpp 184 rfl ?_)
                      have q239_p : z141.toInt.toNat = prI (fv Po 301 13).toInt.toNat v1.toInt.toNat := pr_mod (by omega) (by omega) (by omega) (ti_remx h142 (by omega) (by omega))
                      have q239_n : z151.toInt.toNat = nxI (fv Po 301 13).toInt.toNat v1.toInt.toNat := nx_mod (by omega) (by omega) (by omega) (ti_remx h152 (by omega) (by omega))
                      have q239_f : (fv Po 308 z141.toInt.toNat).toInt = (fv Po 308 (prI (fv Po 301 13).toInt.toNat v1.toInt.toNat)).toInt := by rw [q239_p]
                      have q239_g : (fv Po 308 z151.toInt.toNat).toInt = (fv Po 308 (nxI (fv Po 301 13).toInt.toNat v1.toInt.toNat)).toInt := by rw [q239_n]
                      have q239_a : GM Po v1.toInt.toNat = (fv Po 309 v1.toInt.toNat) := by unfold GM; first | rw [if_pos (show (fv Po 301 14).toInt = 0 from by omega), show v1.toInt.toNat - 1 = v1.toInt.toNat from by omega] | rw [if_neg (show ¬ (fv Po 301 14).toInt = 0 from by omega)]
                      have q239_l := nxI_lt (n := (fv Po 301 13).toInt.toNat) (i := v1.toInt.toNat) (by omega)
                      have q239_b : GM Po (nxI (fv Po 301 13).toInt.toNat v1.toInt.toNat) = (fv Po 309 z151.toInt.toNat) := by unfold GM; first | rw [if_pos (show (fv Po 301 14).toInt = 0 from by omega), show nxI (fv Po 301 13).toInt.toNat v1.toInt.toNat - 1 = z151.toInt.toNat from by unfold nxI; rw [if_pos (by omega)]; omega] | rw [if_neg (show ¬ (fv Po 301 14).toInt = 0 from by omega), q239_n]
                      have q239_c : (GM Po v1.toInt.toNat).toInt = (fv Po 309 v1.toInt.toNat).toInt := congrArg Int32.toInt q239_a
                      have q239_d : (GM Po (nxI (fv Po 301 13).toInt.toNat v1.toInt.toNat)).toInt = (fv Po 309 z151.toInt.toNat).toInt := congrArg Int32.toInt q239_b
                      have q239_s : (GM Po v1.toInt.toNat + GM Po (nxI (fv Po 301 13).toInt.toNat v1.toInt.toNat)).toInt = z194.toInt := by rw [q239_a, q239_b, h195]
                      have w238_ : ((fv Po 308 v1.toInt.toNat).toInt ≤ (fv Po 308 (prI (fv Po 301 13).toInt.toNat v1.toInt.toNat)).toInt ∧ (fv Po 308 v1.toInt.toNat).toInt ≤ (fv Po 308 (nxI (fv Po 301 13).toInt.toNat v1.toInt.toNat)).toInt ∧ (GM Po v1.toInt.toNat + GM Po (nxI (fv Po 301 13).toInt.toNat v1.toInt.toNat)).toInt = 3 ∧ ¬ (GM Po v1.toInt.toNat).toInt = (GM Po (nxI (fv Po 301 13).toInt.toNat v1.toInt.toNat)).toInt ∧ ¬ (GM Po v1.toInt.toNat).toInt = 0 ∧ ¬ (GM Po (nxI (fv Po 301 13).toInt.toNat v1.toInt.toNat)).toInt = 0) := by omega
                      have u237 : (v1.toInt = -1 ∨ ((fv Po 301 14).toInt = 1 ∧ 3 ≤ (fv Po 301 13).toInt ∧ 0 ≤ v1.toInt ∧ v1.toInt + 1 ≤ (fv Po 301 13).toInt) ∨ ((fv Po 301 14).toInt = 0 ∧ 1 ≤ v1.toInt ∧ v1.toInt + 2 ≤ (fv Po 301 13).toInt)) ∧ CPM (decide ((fv Po 301 14).toInt = 0)) (fv Po 301 13).toInt.toNat (fun j : Nat => fv Po 308 j) (GM Po) v1.toInt := ⟨by omega, if hk : (fv Po 301 14).toInt = 0 then (by rw [decide_eq_true (show (fv Po 301 14).toInt = 0 from by omega)]; exact Or.inr ⟨fun q => absurd q.1 (by decide), Or.inl ⟨v1.toInt.toNat, (show 1 ≤ v1.toInt.toNat from by omega), (show v1.toInt.toNat < (fv Po 301 13).toInt.toNat - 1 from by omega), w238_, fun j h1 h2 => i_3 j (Or.inl (by have h1 : 1 ≤ j := h1; omega)) (by omega), by omega⟩⟩) else (by rw [decide_eq_false (show ¬ (fv Po 301 14).toInt = 0 from by omega)]; exact Or.inr ⟨fun q => by have := q.2; omega, Or.inl ⟨v1.toInt.toNat, (show 0 ≤ v1.toInt.toNat from by omega), (show v1.toInt.toNat < (fv Po 301 13).toInt.toNat from by omega), w238_, fun j h1 h2 => i_3 j (Or.inr (by omega)) (by omega), by omega⟩⟩)⟩
                      exact mp_iret ⟨⟨_, rfl, u237⟩, rfl⟩ dX7_crimped_184 (Or.inl rfl)

