/-! methods on typed pools, 25 (written by a program) -/
set_option maxHeartbeats 4000000 in
theorem c_M_crimped_l30 {Po : mP}  (hT : Typ Po)   : ∀ (n : Nat) (v1 : Int32), ((fv Po 301 14).toInt ≠ 0 ∨ 1 ≤ v1.toInt) → (0 ≤ v1.toInt) → ((fv Po 301 14).toInt = 0 ∨ 3 ≤ (fv Po 301 13).toInt) → (2147483647 - v1.toInt).toNat = n → MEvP 0 none q_168 30 [(0, .ref 301), (1, .int v1)] [] Po 0 0 (fun r P' => (∃ x : Int32, r = some (.int x) ∧ (x.toInt = -1 ∨ ((fv Po 301 14).toInt = 1 ∧ 3 ≤ (fv Po 301 13).toInt ∧ 0 ≤ x.toInt ∧ x.toInt + 1 ≤ (fv Po 301 13).toInt) ∨ ((fv Po 301 14).toInt = 0 ∧ 1 ≤ x.toInt ∧ x.toInt + 2 ≤ (fv Po 301 13).toInt))) ∧ P' = Po) := by
  intro n
  induction n using Nat.strongRecOn with | _ n ih => ?_
  intro v1 i_0 i_1 i_2 hm
  have w_v1 := ti_full v1
  have g1 : (0 : Int) ≤ (fv Po 301 14).toInt ∧ (fv Po 301 14).toInt ≤ 1 := Typ.rng hT rl_301 (by decide) (by decide) rfl
  have g2 : (0 : Int) ≤ (fv Po 301 13).toInt ∧ (fv Po 301 13).toInt ≤ 8 := Typ.rng hT rl_301 (by decide) (by decide) rfl
  refine mp_a (a_iload_n dX7_crimped_30 rfl) (mpp 31 rfl ?_)
  refine mp_a (a_aload_n dX7_crimped_31 rfl) (mpp 32 rfl ?_)
  refine mt_getI (i := 161) (k := 14) hT dX7_crimped_32 rfl rl_301 (by decide) rfl (by decide) rfl (fun g3 g4 => mpp 35 rfl ?_)
  refine mp_Tb (t := 45) (j_if_eq dX7_crimped_35) (by decide) (fun c5 => ?_) (fun c5 => mpp 38 rfl ?_)
  · have c5 : (fv Po 301 14).toInt = 0 := ti_eq c5
    refine mp_a (a_aload_n dX7_crimped_45 rfl) (mpp 46 rfl ?_)
    refine mt_getI (i := 165) (k := 13) hT dX7_crimped_46 rfl rl_301 (by decide) rfl (by decide) rfl (fun g6 g7 => mpp 49 rfl ?_)
    refine mp_a (a_iconst (v := 1) dX7_crimped_49 rfl) (mpp 50 rfl ?_)
    obtain ⟨z8, h9⟩ := ti_ex ((fv Po 301 13) - 1 : Int32)
    have wz8 := ti_full z8
    refine mp_t (s_isub (v := z8) dX7_crimped_50 h9) (mpp 51 rfl ?_)
    try have e10 : z8.toInt = (fv Po 301 13).toInt - 1 := ti_subz h9 rfl rfl (by omega) (by omega)
    refine mp_Tb (t := 191) (j_icmp_ge dX7_crimped_51) (by decide) (fun c11 => ?_) (fun c11 => mpp 54 rfl ?_)
    · have c11 : v1.toInt ≥ z8.toInt := ti_ge c11
      refine mp_a (a_iconst (v := -1) dX7_crimped_191 rfl) (mpp 192 rfl ?_)
      have u12 : (-1 : Int) = -1 ∨ ((fv Po 301 14).toInt = 1 ∧ 3 ≤ (fv Po 301 13).toInt ∧ 0 ≤ (-1 : Int) ∧ (-1 : Int) + 1 ≤ (fv Po 301 13).toInt) ∨ ((fv Po 301 14).toInt = 0 ∧ 1 ≤ (-1 : Int) ∧ (-1 : Int) + 2 ≤ (fv Po 301 13).toInt) := by omega
      exact mp_iret ⟨⟨_, rfl, u12⟩, rfl⟩ dX7_crimped_192 (Or.inl rfl)
    · have c11 : v1.toInt < z8.toInt := ti_ge_n c11
      refine mp_a (a_iload_n dX7_crimped_54 rfl) (mpp 55 rfl ?_)
      refine mp_a (a_aload_n dX7_crimped_55 rfl) (mpp 56 rfl ?_)
      refine mt_getI (i := 165) (k := 13) hT dX7_crimped_56 rfl rl_301 (by decide) rfl (by decide) rfl (fun g13 g14 => mpp 59 rfl ?_)
      obtain ⟨z15, h16⟩ := ti_ex (v1 + (fv Po 301 13) : Int32)
      have wz15 := ti_full z15
      refine mp_t (s_iadd (v := z15) dX7_crimped_59 h16) (mpp 60 rfl ?_)
      try have e17 : z15.toInt = v1.toInt + (fv Po 301 13).toInt := ti_addz h16 rfl rfl (by omega) (by omega)
      refine mp_a (a_iconst (v := 1) dX7_crimped_60 rfl) (mpp 61 rfl ?_)
      obtain ⟨z18, h19⟩ := ti_ex (z15 - 1 : Int32)
      have wz18 := ti_full z18
      refine mp_t (s_isub (v := z18) dX7_crimped_61 h19) (mpp 62 rfl ?_)
      try have e20 : z18.toInt = z15.toInt - 1 := ti_subz h19 rfl rfl (by omega) (by omega)
      refine mp_a (a_aload_n dX7_crimped_62 rfl) (mpp 63 rfl ?_)
      refine mt_getI (i := 165) (k := 13) hT dX7_crimped_63 rfl rl_301 (by decide) rfl (by decide) rfl (fun g21 g22 => mpp 66 rfl ?_)
      obtain ⟨z23, h24⟩ := ti_ex (z18 - z18 / (fv Po 301 13) * (fv Po 301 13) : Int32)
      have wz23 := ti_full z23
      have n25 : ¬ (fv Po 301 13) = 0 := ti_n0 (by omega)
      try have e26 : 0 ≤ z23.toInt ∧ z23.toInt < (fv Po 301 13).toInt := ti_rem h24 (show (0 : Int) ≤ z18.toInt by omega) (show (0 : Int) < (fv Po 301 13).toInt by omega)
      refine mp_t (s_irem (v := z23) dX7_crimped_66 n25 h24) (mpp 67 rfl ?_)
      refine mp_a (a_istore_n (L' := [(2, .int z23), (0, .ref 301), (1, .int v1)]) dX7_crimped_67 (by decide) rfl) (mpp 68 rfl ?_)
      refine mp_a (a_iload_n dX7_crimped_68 rfl) (mpp 69 rfl ?_)
      refine mp_a (a_iconst (v := 1) dX7_crimped_69 rfl) (mpp 70 rfl ?_)
      obtain ⟨z27, h28⟩ := ti_ex (v1 + 1 : Int32)
      have wz27 := ti_full z27
      refine mp_t (s_iadd (v := z27) dX7_crimped_70 h28) (mpp 71 rfl ?_)
      try have e29 : z27.toInt = v1.toInt + 1 := ti_addz h28 rfl rfl (by omega) (by omega)
      refine mp_a (a_aload_n dX7_crimped_71 rfl) (mpp 72 rfl ?_)
      refine mt_getI (i := 165) (k := 13) hT dX7_crimped_72 rfl rl_301 (by decide) rfl (by decide) rfl (fun g30 g31 => mpp 75 rfl ?_)
      obtain ⟨z32, h33⟩ := ti_ex (z27 - z27 / (fv Po 301 13) * (fv Po 301 13) : Int32)
      have wz32 := ti_full z32
      have n34 : ¬ (fv Po 301 13) = 0 := ti_n0 (by omega)
      try have e35 : 0 ≤ z32.toInt ∧ z32.toInt < (fv Po 301 13).toInt := ti_rem h33 (show (0 : Int) ≤ z27.toInt by omega) (show (0 : Int) < (fv Po 301 13).toInt by omega)
      refine mp_t (s_irem (v := z32) dX7_crimped_75 n34 h33) (mpp 76 rfl ?_)
      refine mp_a (a_istore_n (L' := [(3, .int z32), (2, .int z23), (0, .ref 301), (1, .int v1)]) dX7_crimped_76 (by decide) rfl) (mpp 77 rfl ?_)
      refine mp_a (a_aload_n dX7_crimped_77 rfl) (mpp 78 rfl ?_)
      refine mt_getI (i := 161) (k := 14) hT dX7_crimped_78 rfl rl_301 (by decide) rfl (by decide) rfl (fun g36 g37 => mpp 81 rfl ?_)
      refine mp_Tb (t := 93) (j_if_eq dX7_crimped_81) (by decide) (fun c38 => ?_) (fun c38 => mpp 84 rfl ?_)
      · have c38 : (fv Po 301 14).toInt = 0 := ti_eq c38
        refine mp_a (a_aload_n dX7_crimped_93 rfl) (mpp 94 rfl ?_)
        refine mt_getU (i := 31) (k := 12) (A := 309) hT dX7_crimped_94 rfl rl_301 (by decide) rfl (by decide) rfl un_25 (mpp 97 rfl ?_)
        refine mp_a (a_iload_n dX7_crimped_97 rfl) (mpp 98 rfl ?_)
        refine mp_a (a_iconst (v := 1) dX7_crimped_98 rfl) (mpp 99 rfl ?_)
        obtain ⟨z39, h40⟩ := ti_ex (v1 - 1 : Int32)
        have wz39 := ti_full z39
        refine mp_t (s_isub (v := z39) dX7_crimped_99 h40) (mpp 100 rfl ?_)
        try have e41 : z39.toInt = v1.toInt - 1 := ti_subz h40 rfl rfl (by omega) (by omega)
        refine mt_ial (n := 8) hT dX7_crimped_100 rl_309 (by decide) rfl rfl (by omega) (by omega) rfl (fun g42 g43 => mpp 101 rfl ?_)
        refine mp_a (a_istore (L' := [(4, .int (fv Po 309 z39.toInt.toNat)), (3, .int z32), (2, .int z23), (0, .ref 301), (1, .int v1)]) dX7_crimped_101 (by decide) rfl) (mpp 103 rfl ?_)
        refine mp_a (a_aload_n dX7_crimped_103 rfl) (mpp 104 rfl ?_)
        refine mt_getI (i := 161) (k := 14) hT dX7_crimped_104 rfl rl_301 (by decide) rfl (by decide) rfl (fun g44 g45 => mpp 107 rfl ?_)
        refine mp_Tb (t := 119) (j_if_eq dX7_crimped_107) (by decide) (fun c46 => ?_) (fun c46 => mpp 110 rfl ?_)
        · have c46 : (fv Po 301 14).toInt = 0 := ti_eq c46
          refine mp_a (a_aload_n dX7_crimped_119 rfl) (mpp 120 rfl ?_)
          refine mt_getU (i := 31) (k := 12) (A := 309) hT dX7_crimped_120 rfl rl_301 (by decide) rfl (by decide) rfl un_25 (mpp 123 rfl ?_)
          refine mp_a (a_iload_n dX7_crimped_123 rfl) (mpp 124 rfl ?_)
          refine mt_ial (n := 8) hT dX7_crimped_124 rl_309 (by decide) rfl rfl (by omega) (by omega) rfl (fun g47 g48 => mpp 125 rfl ?_)
          refine mp_a (a_istore (L' := [(5, .int (fv Po 309 v1.toInt.toNat)), (4, .int (fv Po 309 z39.toInt.toNat)), (3, .int z32), (2, .int z23), (0, .ref 301), (1, .int v1)]) dX7_crimped_125 (by decide) rfl) (mpp 127 rfl ?_)
          refine mp_a (a_aload_n dX7_crimped_127 rfl) (mpp 128 rfl ?_)
          refine mt_getU (i := 28) (k := 11) (A := 308) hT dX7_crimped_128 rfl rl_301 (by decide) rfl (by decide) rfl un_24 (mpp 131 rfl ?_)
          refine mp_a (a_iload_n dX7_crimped_131 rfl) (mpp 132 rfl ?_)
          refine mt_ial (n := 8) hT dX7_crimped_132 rl_308 (by decide) rfl rfl (by omega) (by omega) rfl (fun g49 g50 => mpp 133 rfl ?_)
          refine mp_a (a_aload_n dX7_crimped_133 rfl) (mpp 134 rfl ?_)
          refine mt_getU (i := 28) (k := 11) (A := 308) hT dX7_crimped_134 rfl rl_301 (by decide) rfl (by decide) rfl un_24 (mpp 137 rfl ?_)
          refine mp_a (a_iload_n dX7_crimped_137 rfl) (mpp 138 rfl ?_)
          refine mt_ial (n := 8) hT dX7_crimped_138 rl_308 (by decide) rfl rfl (by omega) (by omega) rfl (fun g51 g52 => mpp 139 rfl ?_)
          refine mp_Tb (t := 185) (j_icmp_gt dX7_crimped_139) (by decide) (fun c53 => ?_) (fun c53 => mpp 142 rfl ?_)
          · have c53 : (fv Po 308 v1.toInt.toNat).toInt > (fv Po 308 z23.toInt.toNat).toInt := ti_gt c53
            obtain ⟨z54, h55⟩ := ti_ex (v1 + 1 : Int32)
            have wz54 := ti_full z54
            refine mp_a (a_iinc (v := z54) (L' := [(1, .int z54), (5, .int (fv Po 309 v1.toInt.toNat)), (4, .int (fv Po 309 z39.toInt.toNat)), (3, .int z32), (2, .int z23), (0, .ref 301)]) dX7_crimped_185 (by decide) rfl h55 rfl) (mpp 188 rfl ?_)
            try have e56 : z54.toInt = v1.toInt + 1 := ti_addz h55 rfl rfl (by omega) (by omega)
            refine mp_a (a_goto (t := 30) dX7_crimped_188 (by decide)) ?_
            refine MEvP.less (L := [(0, .ref 301), (1, .int z54)]) rfl rfl ⟨rfl, rfl, trivial⟩ ?_
            have i57 : (fv Po 301 14).toInt ≠ 0 ∨ 1 ≤ z54.toInt := by omega
            have i58 : 0 ≤ z54.toInt := by omega
            have i59 : (fv Po 301 14).toInt = 0 ∨ 3 ≤ (fv Po 301 13).toInt := by omega
            exact ih _ (by omega) _ i57 i58 i59 rfl
          · have c53 : (fv Po 308 v1.toInt.toNat).toInt ≤ (fv Po 308 z23.toInt.toNat).toInt := ti_gt_n c53
            refine mp_a (a_aload_n dX7_crimped_142 rfl) (mpp 143 rfl ?_)
            refine mt_getU (i := 28) (k := 11) (A := 308) hT dX7_crimped_143 rfl rl_301 (by decide) rfl (by decide) rfl un_24 (mpp 146 rfl ?_)
            refine mp_a (a_iload_n dX7_crimped_146 rfl) (mpp 147 rfl ?_)
            refine mt_ial (n := 8) hT dX7_crimped_147 rl_308 (by decide) rfl rfl (by omega) (by omega) rfl (fun g60 g61 => mpp 148 rfl ?_)
            refine mp_a (a_aload_n dX7_crimped_148 rfl) (mpp 149 rfl ?_)
            refine mt_getU (i := 28) (k := 11) (A := 308) hT dX7_crimped_149 rfl rl_301 (by decide) rfl (by decide) rfl un_24 (mpp 152 rfl ?_)
            refine mp_a (a_iload_n dX7_crimped_152 rfl) (mpp 153 rfl ?_)
            refine mt_ial (n := 8) hT dX7_crimped_153 rl_308 (by decide) rfl rfl (by omega) (by omega) rfl (fun g62 g63 => mpp 154 rfl ?_)
            refine mp_Tb (t := 185) (j_icmp_gt dX7_crimped_154) (by decide) (fun c64 => ?_) (fun c64 => mpp 157 rfl ?_)
            · have c64 : (fv Po 308 v1.toInt.toNat).toInt > (fv Po 308 z32.toInt.toNat).toInt := ti_gt c64
              obtain ⟨z65, h66⟩ := ti_ex (v1 + 1 : Int32)
              have wz65 := ti_full z65
              refine mp_a (a_iinc (v := z65) (L' := [(1, .int z65), (5, .int (fv Po 309 v1.toInt.toNat)), (4, .int (fv Po 309 z39.toInt.toNat)), (3, .int z32), (2, .int z23), (0, .ref 301)]) dX7_crimped_185 (by decide) rfl h66 rfl) (mpp 188 rfl ?_)
              try have e67 : z65.toInt = v1.toInt + 1 := ti_addz h66 rfl rfl (by omega) (by omega)
              refine mp_a (a_goto (t := 30) dX7_crimped_188 (by decide)) ?_
              refine MEvP.less (L := [(0, .ref 301), (1, .int z65)]) rfl rfl ⟨rfl, rfl, trivial⟩ ?_
              have i68 : (fv Po 301 14).toInt ≠ 0 ∨ 1 ≤ z65.toInt := by omega
              have i69 : 0 ≤ z65.toInt := by omega
              have i70 : (fv Po 301 14).toInt = 0 ∨ 3 ≤ (fv Po 301 13).toInt := by omega
              exact ih _ (by omega) _ i68 i69 i70 rfl
            · have c64 : (fv Po 308 v1.toInt.toNat).toInt ≤ (fv Po 308 z32.toInt.toNat).toInt := ti_gt_n c64
              refine mp_a (a_iload dX7_crimped_157 rfl) (mpp 159 rfl ?_)
              refine mp_a (a_iload dX7_crimped_159 rfl) (mpp 161 rfl ?_)
              obtain ⟨z71, h72⟩ := ti_ex ((fv Po 309 z39.toInt.toNat) + (fv Po 309 v1.toInt.toNat) : Int32)
              have wz71 := ti_full z71
              refine mp_t (s_iadd (v := z71) dX7_crimped_161 h72) (mpp 162 rfl ?_)
              try have e73 : z71.toInt = (fv Po 309 z39.toInt.toNat).toInt + (fv Po 309 v1.toInt.toNat).toInt := ti_addz h72 rfl rfl (by omega) (by omega)
              refine mp_a (a_iconst (v := 3) dX7_crimped_162 rfl) (mpp 163 rfl ?_)
              refine mp_Tb (t := 185) (j_icmp_ne dX7_crimped_163) (by decide) (fun c74 => ?_) (fun c74 => mpp 166 rfl ?_)
              · have c74 : z71.toInt ≠ 3 := ti_ne c74
                obtain ⟨z75, h76⟩ := ti_ex (v1 + 1 : Int32)
                have wz75 := ti_full z75
                refine mp_a (a_iinc (v := z75) (L' := [(1, .int z75), (5, .int (fv Po 309 v1.toInt.toNat)), (4, .int (fv Po 309 z39.toInt.toNat)), (3, .int z32), (2, .int z23), (0, .ref 301)]) dX7_crimped_185 (by decide) rfl h76 rfl) (mpp 188 rfl ?_)
                try have e77 : z75.toInt = v1.toInt + 1 := ti_addz h76 rfl rfl (by omega) (by omega)
                refine mp_a (a_goto (t := 30) dX7_crimped_188 (by decide)) ?_
                refine MEvP.less (L := [(0, .ref 301), (1, .int z75)]) rfl rfl ⟨rfl, rfl, trivial⟩ ?_
                have i78 : (fv Po 301 14).toInt ≠ 0 ∨ 1 ≤ z75.toInt := by omega
                have i79 : 0 ≤ z75.toInt := by omega
                have i80 : (fv Po 301 14).toInt = 0 ∨ 3 ≤ (fv Po 301 13).toInt := by omega
                exact ih _ (by omega) _ i78 i79 i80 rfl
              · have c74 : z71.toInt = 3 := ti_ne_n c74
                refine mp_a (a_iload dX7_crimped_166 rfl) (mpp 168 rfl ?_)
                refine mp_a (a_iload dX7_crimped_168 rfl) (mpp 170 rfl ?_)
                refine mp_Tb (t := 185) (j_icmp_eq dX7_crimped_170) (by decide) (fun c81 => ?_) (fun c81 => mpp 173 rfl ?_)
                · have c81 : (fv Po 309 z39.toInt.toNat).toInt = (fv Po 309 v1.toInt.toNat).toInt := ti_eq c81
                  obtain ⟨z82, h83⟩ := ti_ex (v1 + 1 : Int32)
                  have wz82 := ti_full z82
                  refine mp_a (a_iinc (v := z82) (L' := [(1, .int z82), (5, .int (fv Po 309 v1.toInt.toNat)), (4, .int (fv Po 309 z39.toInt.toNat)), (3, .int z32), (2, .int z23), (0, .ref 301)]) dX7_crimped_185 (by decide) rfl h83 rfl) (mpp 188 rfl ?_)
                  try have e84 : z82.toInt = v1.toInt + 1 := ti_addz h83 rfl rfl (by omega) (by omega)
                  refine mp_a (a_goto (t := 30) dX7_crimped_188 (by decide)) ?_
                  refine MEvP.less (L := [(0, .ref 301), (1, .int z82)]) rfl rfl ⟨rfl, rfl, trivial⟩ ?_
                  have i85 : (fv Po 301 14).toInt ≠ 0 ∨ 1 ≤ z82.toInt := by omega
                  have i86 : 0 ≤ z82.toInt := by omega
                  have i87 : (fv Po 301 14).toInt = 0 ∨ 3 ≤ (fv Po 301 13).toInt := by omega
                  exact ih _ (by omega) _ i85 i86 i87 rfl
                · have c81 : (fv Po 309 z39.toInt.toNat).toInt ≠ (fv Po 309 v1.toInt.toNat).toInt := ti_eq_n c81
                  refine mp_a (a_iload dX7_crimped_173 rfl) (mpp 175 rfl ?_)
                  refine mp_Tb (t := 185) (j_if_eq dX7_crimped_175) (by decide) (fun c88 => ?_) (fun c88 => mpp 178 rfl ?_)
                  · have c88 : (fv Po 309 z39.toInt.toNat).toInt = 0 := ti_eq c88
                    obtain ⟨z89, h90⟩ := ti_ex (v1 + 1 : Int32)
                    have wz89 := ti_full z89
                    refine mp_a (a_iinc (v := z89) (L' := [(1, .int z89), (5, .int (fv Po 309 v1.toInt.toNat)), (4, .int (fv Po 309 z39.toInt.toNat)), (3, .int z32), (2, .int z23), (0, .ref 301)]) dX7_crimped_185 (by decide) rfl h90 rfl) (mpp 188 rfl ?_)
                    try have e91 : z89.toInt = v1.toInt + 1 := ti_addz h90 rfl rfl (by omega) (by omega)
                    refine mp_a (a_goto (t := 30) dX7_crimped_188 (by decide)) ?_
                    refine MEvP.less (L := [(0, .ref 301), (1, .int z89)]) rfl rfl ⟨rfl, rfl, trivial⟩ ?_
                    have i92 : (fv Po 301 14).toInt ≠ 0 ∨ 1 ≤ z89.toInt := by omega
                    have i93 : 0 ≤ z89.toInt := by omega
                    have i94 : (fv Po 301 14).toInt = 0 ∨ 3 ≤ (fv Po 301 13).toInt := by omega
                    exact ih _ (by omega) _ i92 i93 i94 rfl
                  · have c88 : (fv Po 309 z39.toInt.toNat).toInt ≠ 0 := ti_eq_n c88
                    refine mp_a (a_iload dX7_crimped_178 rfl) (mpp 180 rfl ?_)
                    refine mp_Tb (t := 185) (j_if_eq dX7_crimped_180) (by decide) (fun c95 => ?_) (fun c95 => mpp 183 rfl ?_)
                    · have c95 : (fv Po 309 v1.toInt.toNat).toInt = 0 := ti_eq c95
                      obtain ⟨z96, h97⟩ := ti_ex (v1 + 1 : Int32)
                      have wz96 := ti_full z96
                      refine mp_a (a_iinc (v := z96) (L' := [(1, .int z96), (5, .int (fv Po 309 v1.toInt.toNat)), (4, .int (fv Po 309 z39.toInt.toNat)), (3, .int z32), (2, .int z23), (0, .ref 301)]) dX7_crimped_185 (by decide) rfl h97 rfl) (mpp 188 rfl ?_)
                      try have e98 : z96.toInt = v1.toInt + 1 := ti_addz h97 rfl rfl (by omega) (by omega)
                      refine mp_a (a_goto (t := 30) dX7_crimped_188 (by decide)) ?_
                      refine MEvP.less (L := [(0, .ref 301), (1, .int z96)]) rfl rfl ⟨rfl, rfl, trivial⟩ ?_
                      have i99 : (fv Po 301 14).toInt ≠ 0 ∨ 1 ≤ z96.toInt := by omega
                      have i100 : 0 ≤ z96.toInt := by omega
                      have i101 : (fv Po 301 14).toInt = 0 ∨ 3 ≤ (fv Po 301 13).toInt := by omega
                      exact ih _ (by omega) _ i99 i100 i101 rfl
                    · have c95 : (fv Po 309 v1.toInt.toNat).toInt ≠ 0 := ti_eq_n c95
                      refine mp_a (a_iload_n dX7_crimped_183 rfl) (mpp 184 rfl ?_)
                      have u102 : v1.toInt = -1 ∨ ((fv Po 301 14).toInt = 1 ∧ 3 ≤ (fv Po 301 13).toInt ∧ 0 ≤ v1.toInt ∧ v1.toInt + 1 ≤ (fv Po 301 13).toInt) ∨ ((fv Po 301 14).toInt = 0 ∧ 1 ≤ v1.toInt ∧ v1.toInt + 2 ≤ (fv Po 301 13).toInt) := by omega
                      exact mp_iret ⟨⟨_, rfl, u102⟩, rfl⟩ dX7_crimped_184 (Or.inl rfl)
        · have c46 : (fv Po 301 14).toInt ≠ 0 := ti_eq_n c46
          refine mp_a (a_aload_n dX7_crimped_110 rfl) (mpp 111 rfl ?_)
          refine mt_getU (i := 31) (k := 12) (A := 309) hT dX7_crimped_111 rfl rl_301 (by decide) rfl (by decide) rfl un_25 (mpp 114 rfl ?_)
          refine mp_a (a_iload_n dX7_crimped_114 rfl) (mpp 115 rfl ?_)
          refine mt_ial (n := 8) hT dX7_crimped_115 rl_309 (by decide) rfl rfl (by omega) (by omega) rfl (fun g103 g104 => mpp 116 rfl ?_)
          refine mp_a (a_goto (t := 125) dX7_crimped_116 (by decide)) ?_
          refine mp_a (a_istore (L' := [(5, .int (fv Po 309 z32.toInt.toNat)), (4, .int (fv Po 309 z39.toInt.toNat)), (3, .int z32), (2, .int z23), (0, .ref 301), (1, .int v1)]) dX7_crimped_125 (by decide) rfl) (mpp 127 rfl ?_)
          refine mp_a (a_aload_n dX7_crimped_127 rfl) (mpp 128 rfl ?_)
          refine mt_getU (i := 28) (k := 11) (A := 308) hT dX7_crimped_128 rfl rl_301 (by decide) rfl (by decide) rfl un_24 (mpp 131 rfl ?_)
          refine mp_a (a_iload_n dX7_crimped_131 rfl) (mpp 132 rfl ?_)
          refine mt_ial (n := 8) hT dX7_crimped_132 rl_308 (by decide) rfl rfl (by omega) (by omega) rfl (fun g105 g106 => mpp 133 rfl ?_)
          refine mp_a (a_aload_n dX7_crimped_133 rfl) (mpp 134 rfl ?_)
          refine mt_getU (i := 28) (k := 11) (A := 308) hT dX7_crimped_134 rfl rl_301 (by decide) rfl (by decide) rfl un_24 (mpp 137 rfl ?_)
          refine mp_a (a_iload_n dX7_crimped_137 rfl) (mpp 138 rfl ?_)
          refine mt_ial (n := 8) hT dX7_crimped_138 rl_308 (by decide) rfl rfl (by omega) (by omega) rfl (fun g107 g108 => mpp 139 rfl ?_)
          refine mp_Tb (t := 185) (j_icmp_gt dX7_crimped_139) (by decide) (fun c109 => ?_) (fun c109 => mpp 142 rfl ?_)
          · have c109 : (fv Po 308 v1.toInt.toNat).toInt > (fv Po 308 z23.toInt.toNat).toInt := ti_gt c109
            obtain ⟨z110, h111⟩ := ti_ex (v1 + 1 : Int32)
            have wz110 := ti_full z110
            refine mp_a (a_iinc (v := z110) (L' := [(1, .int z110), (5, .int (fv Po 309 z32.toInt.toNat)), (4, .int (fv Po 309 z39.toInt.toNat)), (3, .int z32), (2, .int z23), (0, .ref 301)]) dX7_crimped_185 (by decide) rfl h111 rfl) (mpp 188 rfl ?_)
            try have e112 : z110.toInt = v1.toInt + 1 := ti_addz h111 rfl rfl (by omega) (by omega)
            refine mp_a (a_goto (t := 30) dX7_crimped_188 (by decide)) ?_
            refine MEvP.less (L := [(0, .ref 301), (1, .int z110)]) rfl rfl ⟨rfl, rfl, trivial⟩ ?_
            have i113 : (fv Po 301 14).toInt ≠ 0 ∨ 1 ≤ z110.toInt := by omega
            have i114 : 0 ≤ z110.toInt := by omega
            have i115 : (fv Po 301 14).toInt = 0 ∨ 3 ≤ (fv Po 301 13).toInt := by omega
            exact ih _ (by omega) _ i113 i114 i115 rfl
          · have c109 : (fv Po 308 v1.toInt.toNat).toInt ≤ (fv Po 308 z23.toInt.toNat).toInt := ti_gt_n c109
            refine mp_a (a_aload_n dX7_crimped_142 rfl) (mpp 143 rfl ?_)
            refine mt_getU (i := 28) (k := 11) (A := 308) hT dX7_crimped_143 rfl rl_301 (by decide) rfl (by decide) rfl un_24 (mpp 146 rfl ?_)
            refine mp_a (a_iload_n dX7_crimped_146 rfl) (mpp 147 rfl ?_)
            refine mt_ial (n := 8) hT dX7_crimped_147 rl_308 (by decide) rfl rfl (by omega) (by omega) rfl (fun g116 g117 => mpp 148 rfl ?_)
            refine mp_a (a_aload_n dX7_crimped_148 rfl) (mpp 149 rfl ?_)
            refine mt_getU (i := 28) (k := 11) (A := 308) hT dX7_crimped_149 rfl rl_301 (by decide) rfl (by decide) rfl un_24 (mpp 152 rfl ?_)
            refine mp_a (a_iload_n dX7_crimped_152 rfl) (mpp 153 rfl ?_)
            refine mt_ial (n := 8) hT dX7_crimped_153 rl_308 (by decide) rfl rfl (by omega) (by omega) rfl (fun g118 g119 => mpp 154 rfl ?_)
            refine mp_Tb (t := 185) (j_icmp_gt dX7_crimped_154) (by decide) (fun c120 => ?_) (fun c120 => mpp 157 rfl ?_)
            · have c120 : (fv Po 308 v1.toInt.toNat).toInt > (fv Po 308 z32.toInt.toNat).toInt := ti_gt c120
              obtain ⟨z121, h122⟩ := ti_ex (v1 + 1 : Int32)
              have wz121 := ti_full z121
              refine mp_a (a_iinc (v := z121) (L' := [(1, .int z121), (5, .int (fv Po 309 z32.toInt.toNat)), (4, .int (fv Po 309 z39.toInt.toNat)), (3, .int z32), (2, .int z23), (0, .ref 301)]) dX7_crimped_185 (by decide) rfl h122 rfl) (mpp 188 rfl ?_)
              try have e123 : z121.toInt = v1.toInt + 1 := ti_addz h122 rfl rfl (by omega) (by omega)
              refine mp_a (a_goto (t := 30) dX7_crimped_188 (by decide)) ?_
              refine MEvP.less (L := [(0, .ref 301), (1, .int z121)]) rfl rfl ⟨rfl, rfl, trivial⟩ ?_
              have i124 : (fv Po 301 14).toInt ≠ 0 ∨ 1 ≤ z121.toInt := by omega
              have i125 : 0 ≤ z121.toInt := by omega
              have i126 : (fv Po 301 14).toInt = 0 ∨ 3 ≤ (fv Po 301 13).toInt := by omega
              exact ih _ (by omega) _ i124 i125 i126 rfl
            · have c120 : (fv Po 308 v1.toInt.toNat).toInt ≤ (fv Po 308 z32.toInt.toNat).toInt := ti_gt_n c120
              refine mp_a (a_iload dX7_crimped_157 rfl) (mpp 159 rfl ?_)
              refine mp_a (a_iload dX7_crimped_159 rfl) (mpp 161 rfl ?_)
              obtain ⟨z127, h128⟩ := ti_ex ((fv Po 309 z39.toInt.toNat) + (fv Po 309 z32.toInt.toNat) : Int32)
              have wz127 := ti_full z127
              refine mp_t (s_iadd (v := z127) dX7_crimped_161 h128) (mpp 162 rfl ?_)
              try have e129 : z127.toInt = (fv Po 309 z39.toInt.toNat).toInt + (fv Po 309 z32.toInt.toNat).toInt := ti_addz h128 rfl rfl (by omega) (by omega)
              refine mp_a (a_iconst (v := 3) dX7_crimped_162 rfl) (mpp 163 rfl ?_)
              refine mp_Tb (t := 185) (j_icmp_ne dX7_crimped_163) (by decide) (fun c130 => ?_) (fun c130 => mpp 166 rfl ?_)
              · have c130 : z127.toInt ≠ 3 := ti_ne c130
                obtain ⟨z131, h132⟩ := ti_ex (v1 + 1 : Int32)
                have wz131 := ti_full z131
                refine mp_a (a_iinc (v := z131) (L' := [(1, .int z131), (5, .int (fv Po 309 z32.toInt.toNat)), (4, .int (fv Po 309 z39.toInt.toNat)), (3, .int z32), (2, .int z23), (0, .ref 301)]) dX7_crimped_185 (by decide) rfl h132 rfl) (mpp 188 rfl ?_)
                try have e133 : z131.toInt = v1.toInt + 1 := ti_addz h132 rfl rfl (by omega) (by omega)
                refine mp_a (a_goto (t := 30) dX7_crimped_188 (by decide)) ?_
                refine MEvP.less (L := [(0, .ref 301), (1, .int z131)]) rfl rfl ⟨rfl, rfl, trivial⟩ ?_
                have i134 : (fv Po 301 14).toInt ≠ 0 ∨ 1 ≤ z131.toInt := by omega
                have i135 : 0 ≤ z131.toInt := by omega
                have i136 : (fv Po 301 14).toInt = 0 ∨ 3 ≤ (fv Po 301 13).toInt := by omega
                exact ih _ (by omega) _ i134 i135 i136 rfl
              · have c130 : z127.toInt = 3 := ti_ne_n c130
                refine mp_a (a_iload dX7_crimped_166 rfl) (mpp 168 rfl ?_)
                refine mp_a (a_iload dX7_crimped_168 rfl) (mpp 170 rfl ?_)
                refine mp_Tb (t := 185) (j_icmp_eq dX7_crimped_170) (by decide) (fun c137 => ?_) (fun c137 => mpp 173 rfl ?_)
                · have c137 : (fv Po 309 z39.toInt.toNat).toInt = (fv Po 309 z32.toInt.toNat).toInt := ti_eq c137
                  obtain ⟨z138, h139⟩ := ti_ex (v1 + 1 : Int32)
                  have wz138 := ti_full z138
                  refine mp_a (a_iinc (v := z138) (L' := [(1, .int z138), (5, .int (fv Po 309 z32.toInt.toNat)), (4, .int (fv Po 309 z39.toInt.toNat)), (3, .int z32), (2, .int z23), (0, .ref 301)]) dX7_crimped_185 (by decide) rfl h139 rfl) (mpp 188 rfl ?_)
                  try have e140 : z138.toInt = v1.toInt + 1 := ti_addz h139 rfl rfl (by omega) (by omega)
                  refine mp_a (a_goto (t := 30) dX7_crimped_188 (by decide)) ?_
                  refine MEvP.less (L := [(0, .ref 301), (1, .int z138)]) rfl rfl ⟨rfl, rfl, trivial⟩ ?_
                  have i141 : (fv Po 301 14).toInt ≠ 0 ∨ 1 ≤ z138.toInt := by omega
                  have i142 : 0 ≤ z138.toInt := by omega
                  have i143 : (fv Po 301 14).toInt = 0 ∨ 3 ≤ (fv Po 301 13).toInt := by omega
                  exact ih _ (by omega) _ i141 i142 i143 rfl
                · have c137 : (fv Po 309 z39.toInt.toNat).toInt ≠ (fv Po 309 z32.toInt.toNat).toInt := ti_eq_n c137
                  refine mp_a (a_iload dX7_crimped_173 rfl) (mpp 175 rfl ?_)
                  refine mp_Tb (t := 185) (j_if_eq dX7_crimped_175) (by decide) (fun c144 => ?_) (fun c144 => mpp 178 rfl ?_)
                  · have c144 : (fv Po 309 z39.toInt.toNat).toInt = 0 := ti_eq c144
                    obtain ⟨z145, h146⟩ := ti_ex (v1 + 1 : Int32)
                    have wz145 := ti_full z145
                    refine mp_a (a_iinc (v := z145) (L' := [(1, .int z145), (5, .int (fv Po 309 z32.toInt.toNat)), (4, .int (fv Po 309 z39.toInt.toNat)), (3, .int z32), (2, .int z23), (0, .ref 301)]) dX7_crimped_185 (by decide) rfl h146 rfl) (mpp 188 rfl ?_)
                    try have e147 : z145.toInt = v1.toInt + 1 := ti_addz h146 rfl rfl (by omega) (by omega)
                    refine mp_a (a_goto (t := 30) dX7_crimped_188 (by decide)) ?_
                    refine MEvP.less (L := [(0, .ref 301), (1, .int z145)]) rfl rfl ⟨rfl, rfl, trivial⟩ ?_
                    have i148 : (fv Po 301 14).toInt ≠ 0 ∨ 1 ≤ z145.toInt := by omega
                    have i149 : 0 ≤ z145.toInt := by omega
                    have i150 : (fv Po 301 14).toInt = 0 ∨ 3 ≤ (fv Po 301 13).toInt := by omega
                    exact ih _ (by omega) _ i148 i149 i150 rfl
                  · have c144 : (fv Po 309 z39.toInt.toNat).toInt ≠ 0 := ti_eq_n c144
                    refine mp_a (a_iload dX7_crimped_178 rfl) (mpp 180 rfl ?_)
                    refine mp_Tb (t := 185) (j_if_eq dX7_crimped_180) (by decide) (fun c151 => ?_) (fun c151 => mpp 183 rfl ?_)
                    · have c151 : (fv Po 309 z32.toInt.toNat).toInt = 0 := ti_eq c151
                      obtain ⟨z152, h153⟩ := ti_ex (v1 + 1 : Int32)
                      have wz152 := ti_full z152
                      refine mp_a (a_iinc (v := z152) (L' := [(1, .int z152), (5, .int (fv Po 309 z32.toInt.toNat)), (4, .int (fv Po 309 z39.toInt.toNat)), (3, .int z32), (2, .int z23), (0, .ref 301)]) dX7_crimped_185 (by decide) rfl h153 rfl) (mpp 188 rfl ?_)
                      try have e154 : z152.toInt = v1.toInt + 1 := ti_addz h153 rfl rfl (by omega) (by omega)
                      refine mp_a (a_goto (t := 30) dX7_crimped_188 (by decide)) ?_
                      refine MEvP.less (L := [(0, .ref 301), (1, .int z152)]) rfl rfl ⟨rfl, rfl, trivial⟩ ?_
                      have i155 : (fv Po 301 14).toInt ≠ 0 ∨ 1 ≤ z152.toInt := by omega
                      have i156 : 0 ≤ z152.toInt := by omega
                      have i157 : (fv Po 301 14).toInt = 0 ∨ 3 ≤ (fv Po 301 13).toInt := by omega
                      exact ih _ (by omega) _ i155 i156 i157 rfl
                    · have c151 : (fv Po 309 z32.toInt.toNat).toInt ≠ 0 := ti_eq_n c151
                      refine mp_a (a_iload_n dX7_crimped_183 rfl) (mpp 184 rfl ?_)
                      have u158 : v1.toInt = -1 ∨ ((fv Po 301 14).toInt = 1 ∧ 3 ≤ (fv Po 301 13).toInt ∧ 0 ≤ v1.toInt ∧ v1.toInt + 1 ≤ (fv Po 301 13).toInt) ∨ ((fv Po 301 14).toInt = 0 ∧ 1 ≤ v1.toInt ∧ v1.toInt + 2 ≤ (fv Po 301 13).toInt) := by omega
                      exact mp_iret ⟨⟨_, rfl, u158⟩, rfl⟩ dX7_crimped_184 (Or.inl rfl)
      · have c38 : (fv Po 301 14).toInt ≠ 0 := ti_eq_n c38
        refine mp_a (a_aload_n dX7_crimped_84 rfl) (mpp 85 rfl ?_)
        refine mt_getU (i := 31) (k := 12) (A := 309) hT dX7_crimped_85 rfl rl_301 (by decide) rfl (by decide) rfl un_25 (mpp 88 rfl ?_)
        refine mp_a (a_iload_n dX7_crimped_88 rfl) (mpp 89 rfl ?_)
        refine mt_ial (n := 8) hT dX7_crimped_89 rl_309 (by decide) rfl rfl (by omega) (by omega) rfl (fun g159 g160 => mpp 90 rfl ?_)
        refine mp_a (a_goto (t := 101) dX7_crimped_90 (by decide)) ?_
        refine mp_a (a_istore (L' := [(4, .int (fv Po 309 v1.toInt.toNat)), (3, .int z32), (2, .int z23), (0, .ref 301), (1, .int v1)]) dX7_crimped_101 (by decide) rfl) (mpp 103 rfl ?_)
        refine mp_a (a_aload_n dX7_crimped_103 rfl) (mpp 104 rfl ?_)
        refine mt_getI (i := 161) (k := 14) hT dX7_crimped_104 rfl rl_301 (by decide) rfl (by decide) rfl (fun g161 g162 => mpp 107 rfl ?_)
        refine mp_Tb (t := 119) (j_if_eq dX7_crimped_107) (by decide) (fun c163 => ?_) (fun c163 => mpp 110 rfl ?_)
        · have c163 : (fv Po 301 14).toInt = 0 := ti_eq c163
          refine mp_a (a_aload_n dX7_crimped_119 rfl) (mpp 120 rfl ?_)
          refine mt_getU (i := 31) (k := 12) (A := 309) hT dX7_crimped_120 rfl rl_301 (by decide) rfl (by decide) rfl un_25 (mpp 123 rfl ?_)
          refine mp_a (a_iload_n dX7_crimped_123 rfl) (mpp 124 rfl ?_)
          refine mt_ial (n := 8) hT dX7_crimped_124 rl_309 (by decide) rfl rfl (by omega) (by omega) rfl (fun g164 g165 => mpp 125 rfl ?_)
          refine mp_a (a_istore (L' := [(5, .int (fv Po 309 v1.toInt.toNat)), (4, .int (fv Po 309 v1.toInt.toNat)), (3, .int z32), (2, .int z23), (0, .ref 301), (1, .int v1)]) dX7_crimped_125 (by decide) rfl) (mpp 127 rfl ?_)
          refine mp_a (a_aload_n dX7_crimped_127 rfl) (mpp 128 rfl ?_)
          refine mt_getU (i := 28) (k := 11) (A := 308) hT dX7_crimped_128 rfl rl_301 (by decide) rfl (by decide) rfl un_24 (mpp 131 rfl ?_)
          refine mp_a (a_iload_n dX7_crimped_131 rfl) (mpp 132 rfl ?_)
          refine mt_ial (n := 8) hT dX7_crimped_132 rl_308 (by decide) rfl rfl (by omega) (by omega) rfl (fun g166 g167 => mpp 133 rfl ?_)
          refine mp_a (a_aload_n dX7_crimped_133 rfl) (mpp 134 rfl ?_)
          refine mt_getU (i := 28) (k := 11) (A := 308) hT dX7_crimped_134 rfl rl_301 (by decide) rfl (by decide) rfl un_24 (mpp 137 rfl ?_)
          refine mp_a (a_iload_n dX7_crimped_137 rfl) (mpp 138 rfl ?_)
          refine mt_ial (n := 8) hT dX7_crimped_138 rl_308 (by decide) rfl rfl (by omega) (by omega) rfl (fun g168 g169 => mpp 139 rfl ?_)
          refine mp_Tb (t := 185) (j_icmp_gt dX7_crimped_139) (by decide) (fun c170 => ?_) (fun c170 => mpp 142 rfl ?_)
          · have c170 : (fv Po 308 v1.toInt.toNat).toInt > (fv Po 308 z23.toInt.toNat).toInt := ti_gt c170
            obtain ⟨z171, h172⟩ := ti_ex (v1 + 1 : Int32)
            have wz171 := ti_full z171
            refine mp_a (a_iinc (v := z171) (L' := [(1, .int z171), (5, .int (fv Po 309 v1.toInt.toNat)), (4, .int (fv Po 309 v1.toInt.toNat)), (3, .int z32), (2, .int z23), (0, .ref 301)]) dX7_crimped_185 (by decide) rfl h172 rfl) (mpp 188 rfl ?_)
            try have e173 : z171.toInt = v1.toInt + 1 := ti_addz h172 rfl rfl (by omega) (by omega)
            refine mp_a (a_goto (t := 30) dX7_crimped_188 (by decide)) ?_
            refine MEvP.less (L := [(0, .ref 301), (1, .int z171)]) rfl rfl ⟨rfl, rfl, trivial⟩ ?_
            have i174 : (fv Po 301 14).toInt ≠ 0 ∨ 1 ≤ z171.toInt := by omega
            have i175 : 0 ≤ z171.toInt := by omega
            have i176 : (fv Po 301 14).toInt = 0 ∨ 3 ≤ (fv Po 301 13).toInt := by omega
            exact ih _ (by omega) _ i174 i175 i176 rfl
          · have c170 : (fv Po 308 v1.toInt.toNat).toInt ≤ (fv Po 308 z23.toInt.toNat).toInt := ti_gt_n c170
            refine mp_a (a_aload_n dX7_crimped_142 rfl) (mpp 143 rfl ?_)
            refine mt_getU (i := 28) (k := 11) (A := 308) hT dX7_crimped_143 rfl rl_301 (by decide) rfl (by decide) rfl un_24 (mpp 146 rfl ?_)
            refine mp_a (a_iload_n dX7_crimped_146 rfl) (mpp 147 rfl ?_)
            refine mt_ial (n := 8) hT dX7_crimped_147 rl_308 (by decide) rfl rfl (by omega) (by omega) rfl (fun g177 g178 => mpp 148 rfl ?_)
            refine mp_a (a_aload_n dX7_crimped_148 rfl) (mpp 149 rfl ?_)
            refine mt_getU (i := 28) (k := 11) (A := 308) hT dX7_crimped_149 rfl rl_301 (by decide) rfl (by decide) rfl un_24 (mpp 152 rfl ?_)
            refine mp_a (a_iload_n dX7_crimped_152 rfl) (mpp 153 rfl ?_)
            refine mt_ial (n := 8) hT dX7_crimped_153 rl_308 (by decide) rfl rfl (by omega) (by omega) rfl (fun g179 g180 => mpp 154 rfl ?_)
            refine mp_Tb (t := 185) (j_icmp_gt dX7_crimped_154) (by decide) (fun c181 => ?_) (fun c181 => mpp 157 rfl ?_)
            · have c181 : (fv Po 308 v1.toInt.toNat).toInt > (fv Po 308 z32.toInt.toNat).toInt := ti_gt c181
              obtain ⟨z182, h183⟩ := ti_ex (v1 + 1 : Int32)
              have wz182 := ti_full z182
              refine mp_a (a_iinc (v := z182) (L' := [(1, .int z182), (5, .int (fv Po 309 v1.toInt.toNat)), (4, .int (fv Po 309 v1.toInt.toNat)), (3, .int z32), (2, .int z23), (0, .ref 301)]) dX7_crimped_185 (by decide) rfl h183 rfl) (mpp 188 rfl ?_)
              try have e184 : z182.toInt = v1.toInt + 1 := ti_addz h183 rfl rfl (by omega) (by omega)
              refine mp_a (a_goto (t := 30) dX7_crimped_188 (by decide)) ?_
              refine MEvP.less (L := [(0, .ref 301), (1, .int z182)]) rfl rfl ⟨rfl, rfl, trivial⟩ ?_
              have i185 : (fv Po 301 14).toInt ≠ 0 ∨ 1 ≤ z182.toInt := by omega
              have i186 : 0 ≤ z182.toInt := by omega
              have i187 : (fv Po 301 14).toInt = 0 ∨ 3 ≤ (fv Po 301 13).toInt := by omega
              exact ih _ (by omega) _ i185 i186 i187 rfl
            · have c181 : (fv Po 308 v1.toInt.toNat).toInt ≤ (fv Po 308 z32.toInt.toNat).toInt := ti_gt_n c181
              refine mp_a (a_iload dX7_crimped_157 rfl) (mpp 159 rfl ?_)
              refine mp_a (a_iload dX7_crimped_159 rfl) (mpp 161 rfl ?_)
              obtain ⟨z188, h189⟩ := ti_ex ((fv Po 309 v1.toInt.toNat) + (fv Po 309 v1.toInt.toNat) : Int32)
              have wz188 := ti_full z188
              refine mp_t (s_iadd (v := z188) dX7_crimped_161 h189) (mpp 162 rfl ?_)
              try have e190 : z188.toInt = (fv Po 309 v1.toInt.toNat).toInt + (fv Po 309 v1.toInt.toNat).toInt := ti_addz h189 rfl rfl (by omega) (by omega)
              refine mp_a (a_iconst (v := 3) dX7_crimped_162 rfl) (mpp 163 rfl ?_)
              refine mp_Tb (t := 185) (j_icmp_ne dX7_crimped_163) (by decide) (fun c191 => ?_) (fun c191 => mpp 166 rfl ?_)
              · have c191 : z188.toInt ≠ 3 := ti_ne c191
                obtain ⟨z192, h193⟩ := ti_ex (v1 + 1 : Int32)
                have wz192 := ti_full z192
                refine mp_a (a_iinc (v := z192) (L' := [(1, .int z192), (5, .int (fv Po 309 v1.toInt.toNat)), (4, .int (fv Po 309 v1.toInt.toNat)), (3, .int z32), (2, .int z23), (0, .ref 301)]) dX7_crimped_185 (by decide) rfl h193 rfl) (mpp 188 rfl ?_)
                try have e194 : z192.toInt = v1.toInt + 1 := ti_addz h193 rfl rfl (by omega) (by omega)
                refine mp_a (a_goto (t := 30) dX7_crimped_188 (by decide)) ?_
                refine MEvP.less (L := [(0, .ref 301), (1, .int z192)]) rfl rfl ⟨rfl, rfl, trivial⟩ ?_
                have i195 : (fv Po 301 14).toInt ≠ 0 ∨ 1 ≤ z192.toInt := by omega
                have i196 : 0 ≤ z192.toInt := by omega
                have i197 : (fv Po 301 14).toInt = 0 ∨ 3 ≤ (fv Po 301 13).toInt := by omega
                exact ih _ (by omega) _ i195 i196 i197 rfl
              · have c191 : z188.toInt = 3 := ti_ne_n c191
                refine mp_a (a_iload dX7_crimped_166 rfl) (mpp 168 rfl ?_)
                refine mp_a (a_iload dX7_crimped_168 rfl) (mpp 170 rfl ?_)
                refine mp_Tb (t := 185) (j_icmp_eq dX7_crimped_170) (by decide) (fun c198 => ?_) (fun c198 => mpp 173 rfl ?_)
                · have c198 : (fv Po 309 v1.toInt.toNat).toInt = (fv Po 309 v1.toInt.toNat).toInt := ti_eq c198
                  obtain ⟨z199, h200⟩ := ti_ex (v1 + 1 : Int32)
                  have wz199 := ti_full z199
                  refine mp_a (a_iinc (v := z199) (L' := [(1, .int z199), (5, .int (fv Po 309 v1.toInt.toNat)), (4, .int (fv Po 309 v1.toInt.toNat)), (3, .int z32), (2, .int z23), (0, .ref 301)]) dX7_crimped_185 (by decide) rfl h200 rfl) (mpp 188 rfl ?_)
                  try have e201 : z199.toInt = v1.toInt + 1 := ti_addz h200 rfl rfl (by omega) (by omega)
                  refine mp_a (a_goto (t := 30) dX7_crimped_188 (by decide)) ?_
                  refine MEvP.less (L := [(0, .ref 301), (1, .int z199)]) rfl rfl ⟨rfl, rfl, trivial⟩ ?_
                  have i202 : (fv Po 301 14).toInt ≠ 0 ∨ 1 ≤ z199.toInt := by omega
                  have i203 : 0 ≤ z199.toInt := by omega
                  have i204 : (fv Po 301 14).toInt = 0 ∨ 3 ≤ (fv Po 301 13).toInt := by omega
                  exact ih _ (by omega) _ i202 i203 i204 rfl
                · have c198 : (fv Po 309 v1.toInt.toNat).toInt ≠ (fv Po 309 v1.toInt.toNat).toInt := ti_eq_n c198
                  refine mp_a (a_iload dX7_crimped_173 rfl) (mpp 175 rfl ?_)
                  refine mp_Tb (t := 185) (j_if_eq dX7_crimped_175) (by decide) (fun c205 => ?_) (fun c205 => mpp 178 rfl ?_)
                  · have c205 : (fv Po 309 v1.toInt.toNat).toInt = 0 := ti_eq c205
                    obtain ⟨z206, h207⟩ := ti_ex (v1 + 1 : Int32)
                    have wz206 := ti_full z206
                    refine mp_a (a_iinc (v := z206) (L' := [(1, .int z206), (5, .int (fv Po 309 v1.toInt.toNat)), (4, .int (fv Po 309 v1.toInt.toNat)), (3, .int z32), (2, .int z23), (0, .ref 301)]) dX7_crimped_185 (by decide) rfl h207 rfl) (mpp 188 rfl ?_)
                    try have e208 : z206.toInt = v1.toInt + 1 := ti_addz h207 rfl rfl (by omega) (by omega)
                    refine mp_a (a_goto (t := 30) dX7_crimped_188 (by decide)) ?_
                    refine MEvP.less (L := [(0, .ref 301), (1, .int z206)]) rfl rfl ⟨rfl, rfl, trivial⟩ ?_
                    have i209 : (fv Po 301 14).toInt ≠ 0 ∨ 1 ≤ z206.toInt := by omega
                    have i210 : 0 ≤ z206.toInt := by omega
                    have i211 : (fv Po 301 14).toInt = 0 ∨ 3 ≤ (fv Po 301 13).toInt := by omega
                    exact ih _ (by omega) _ i209 i210 i211 rfl
                  · have c205 : (fv Po 309 v1.toInt.toNat).toInt ≠ 0 := ti_eq_n c205
                    refine mp_a (a_iload dX7_crimped_178 rfl) (mpp 180 rfl ?_)
                    refine mp_Tb (t := 185) (j_if_eq dX7_crimped_180) (by decide) (fun c212 => ?_) (fun c212 => mpp 183 rfl ?_)
                    · have c212 : (fv Po 309 v1.toInt.toNat).toInt = 0 := ti_eq c212
                      obtain ⟨z213, h214⟩ := ti_ex (v1 + 1 : Int32)
                      have wz213 := ti_full z213
                      refine mp_a (a_iinc (v := z213) (L' := [(1, .int z213), (5, .int (fv Po 309 v1.toInt.toNat)), (4, .int (fv Po 309 v1.toInt.toNat)), (3, .int z32), (2, .int z23), (0, .ref 301)]) dX7_crimped_185 (by decide) rfl h214 rfl) (mpp 188 rfl ?_)
                      try have e215 : z213.toInt = v1.toInt + 1 := ti_addz h214 rfl rfl (by omega) (by omega)
                      refine mp_a (a_goto (t := 30) dX7_crimped_188 (by decide)) ?_
                      refine MEvP.less (L := [(0, .ref 301), (1, .int z213)]) rfl rfl ⟨rfl, rfl, trivial⟩ ?_
                      have i216 : (fv Po 301 14).toInt ≠ 0 ∨ 1 ≤ z213.toInt := by omega
                      have i217 : 0 ≤ z213.toInt := by omega
                      have i218 : (fv Po 301 14).toInt = 0 ∨ 3 ≤ (fv Po 301 13).toInt := by omega
                      exact ih _ (by omega) _ i216 i217 i218 rfl
                    · have c212 : (fv Po 309 v1.toInt.toNat).toInt ≠ 0 := ti_eq_n c212
                      refine mp_a (a_iload_n dX7_crimped_183 rfl) (mpp 184 rfl ?_)
                      have u219 : v1.toInt = -1 ∨ ((fv Po 301 14).toInt = 1 ∧ 3 ≤ (fv Po 301 13).toInt ∧ 0 ≤ v1.toInt ∧ v1.toInt + 1 ≤ (fv Po 301 13).toInt) ∨ ((fv Po 301 14).toInt = 0 ∧ 1 ≤ v1.toInt ∧ v1.toInt + 2 ≤ (fv Po 301 13).toInt) := by omega
                      exact mp_iret ⟨⟨_, rfl, u219⟩, rfl⟩ dX7_crimped_184 (Or.inl rfl)
        · have c163 : (fv Po 301 14).toInt ≠ 0 := ti_eq_n c163
          refine mp_a (a_aload_n dX7_crimped_110 rfl) (mpp 111 rfl ?_)
          refine mt_getU (i := 31) (k := 12) (A := 309) hT dX7_crimped_111 rfl rl_301 (by decide) rfl (by decide) rfl un_25 (mpp 114 rfl ?_)
          refine mp_a (a_iload_n dX7_crimped_114 rfl) (mpp 115 rfl ?_)
          refine mt_ial (n := 8) hT dX7_crimped_115 rl_309 (by decide) rfl rfl (by omega) (by omega) rfl (fun g220 g221 => mpp 116 rfl ?_)
          refine mp_a (a_goto (t := 125) dX7_crimped_116 (by decide)) ?_
          refine mp_a (a_istore (L' := [(5, .int (fv Po 309 z32.toInt.toNat)), (4, .int (fv Po 309 v1.toInt.toNat)), (3, .int z32), (2, .int z23), (0, .ref 301), (1, .int v1)]) dX7_crimped_125 (by decide) rfl) (mpp 127 rfl ?_)
          refine mp_a (a_aload_n dX7_crimped_127 rfl) (mpp 128 rfl ?_)
          refine mt_getU (i := 28) (k := 11) (A := 308) hT dX7_crimped_128 rfl rl_301 (by decide) rfl (by decide) rfl un_24 (mpp 131 rfl ?_)
          refine mp_a (a_iload_n dX7_crimped_131 rfl) (mpp 132 rfl ?_)
          refine mt_ial (n := 8) hT dX7_crimped_132 rl_308 (by decide) rfl rfl (by omega) (by omega) rfl (fun g222 g223 => mpp 133 rfl ?_)
          refine mp_a (a_aload_n dX7_crimped_133 rfl) (mpp 134 rfl ?_)
          refine mt_getU (i := 28) (k := 11) (A := 308) hT dX7_crimped_134 rfl rl_301 (by decide) rfl (by decide) rfl un_24 (mpp 137 rfl ?_)
          refine mp_a (a_iload_n dX7_crimped_137 rfl) (mpp 138 rfl ?_)
          refine mt_ial (n := 8) hT dX7_crimped_138 rl_308 (by decide) rfl rfl (by omega) (by omega) rfl (fun g224 g225 => mpp 139 rfl ?_)
          refine mp_Tb (t := 185) (j_icmp_gt dX7_crimped_139) (by decide) (fun c226 => ?_) (fun c226 => mpp 142 rfl ?_)
          · have c226 : (fv Po 308 v1.toInt.toNat).toInt > (fv Po 308 z23.toInt.toNat).toInt := ti_gt c226
            obtain ⟨z227, h228⟩ := ti_ex (v1 + 1 : Int32)
            have wz227 := ti_full z227
            refine mp_a (a_iinc (v := z227) (L' := [(1, .int z227), (5, .int (fv Po 309 z32.toInt.toNat)), (4, .int (fv Po 309 v1.toInt.toNat)), (3, .int z32), (2, .int z23), (0, .ref 301)]) dX7_crimped_185 (by decide) rfl h228 rfl) (mpp 188 rfl ?_)
            try have e229 : z227.toInt = v1.toInt + 1 := ti_addz h228 rfl rfl (by omega) (by omega)
            refine mp_a (a_goto (t := 30) dX7_crimped_188 (by decide)) ?_
            refine MEvP.less (L := [(0, .ref 301), (1, .int z227)]) rfl rfl ⟨rfl, rfl, trivial⟩ ?_
            have i230 : (fv Po 301 14).toInt ≠ 0 ∨ 1 ≤ z227.toInt := by omega
            have i231 : 0 ≤ z227.toInt := by omega
            have i232 : (fv Po 301 14).toInt = 0 ∨ 3 ≤ (fv Po 301 13).toInt := by omega
            exact ih _ (by omega) _ i230 i231 i232 rfl
          · have c226 : (fv Po 308 v1.toInt.toNat).toInt ≤ (fv Po 308 z23.toInt.toNat).toInt := ti_gt_n c226
            refine mp_a (a_aload_n dX7_crimped_142 rfl) (mpp 143 rfl ?_)
            refine mt_getU (i := 28) (k := 11) (A := 308) hT dX7_crimped_143 rfl rl_301 (by decide) rfl (by decide) rfl un_24 (mpp 146 rfl ?_)
            refine mp_a (a_iload_n dX7_crimped_146 rfl) (mpp 147 rfl ?_)
            refine mt_ial (n := 8) hT dX7_crimped_147 rl_308 (by decide) rfl rfl (by omega) (by omega) rfl (fun g233 g234 => mpp 148 rfl ?_)
            refine mp_a (a_aload_n dX7_crimped_148 rfl) (mpp 149 rfl ?_)
            refine mt_getU (i := 28) (k := 11) (A := 308) hT dX7_crimped_149 rfl rl_301 (by decide) rfl (by decide) rfl un_24 (mpp 152 rfl ?_)
            refine mp_a (a_iload_n dX7_crimped_152 rfl) (mpp 153 rfl ?_)
            refine mt_ial (n := 8) hT dX7_crimped_153 rl_308 (by decide) rfl rfl (by omega) (by omega) rfl (fun g235 g236 => mpp 154 rfl ?_)
            refine mp_Tb (t := 185) (j_icmp_gt dX7_crimped_154) (by decide) (fun c237 => ?_) (fun c237 => mpp 157 rfl ?_)
            · have c237 : (fv Po 308 v1.toInt.toNat).toInt > (fv Po 308 z32.toInt.toNat).toInt := ti_gt c237
              obtain ⟨z238, h239⟩ := ti_ex (v1 + 1 : Int32)
              have wz238 := ti_full z238
              refine mp_a (a_iinc (v := z238) (L' := [(1, .int z238), (5, .int (fv Po 309 z32.toInt.toNat)), (4, .int (fv Po 309 v1.toInt.toNat)), (3, .int z32), (2, .int z23), (0, .ref 301)]) dX7_crimped_185 (by decide) rfl h239 rfl) (mpp 188 rfl ?_)
              try have e240 : z238.toInt = v1.toInt + 1 := ti_addz h239 rfl rfl (by omega) (by omega)
              refine mp_a (a_goto (t := 30) dX7_crimped_188 (by decide)) ?_
              refine MEvP.less (L := [(0, .ref 301), (1, .int z238)]) rfl rfl ⟨rfl, rfl, trivial⟩ ?_
              have i241 : (fv Po 301 14).toInt ≠ 0 ∨ 1 ≤ z238.toInt := by omega
              have i242 : 0 ≤ z238.toInt := by omega
              have i243 : (fv Po 301 14).toInt = 0 ∨ 3 ≤ (fv Po 301 13).toInt := by omega
              exact ih _ (by omega) _ i241 i242 i243 rfl
            · have c237 : (fv Po 308 v1.toInt.toNat).toInt ≤ (fv Po 308 z32.toInt.toNat).toInt := ti_gt_n c237
              refine mp_a (a_iload dX7_crimped_157 rfl) (mpp 159 rfl ?_)
              refine mp_a (a_iload dX7_crimped_159 rfl) (mpp 161 rfl ?_)
              obtain ⟨z244, h245⟩ := ti_ex ((fv Po 309 v1.toInt.toNat) + (fv Po 309 z32.toInt.toNat) : Int32)
              have wz244 := ti_full z244
              refine mp_t (s_iadd (v := z244) dX7_crimped_161 h245) (mpp 162 rfl ?_)
              try have e246 : z244.toInt = (fv Po 309 v1.toInt.toNat).toInt + (fv Po 309 z32.toInt.toNat).toInt := ti_addz h245 rfl rfl (by omega) (by omega)
              refine mp_a (a_iconst (v := 3) dX7_crimped_162 rfl) (mpp 163 rfl ?_)
              refine mp_Tb (t := 185) (j_icmp_ne dX7_crimped_163) (by decide) (fun c247 => ?_) (fun c247 => mpp 166 rfl ?_)
              · have c247 : z244.toInt ≠ 3 := ti_ne c247
                obtain ⟨z248, h249⟩ := ti_ex (v1 + 1 : Int32)
                have wz248 := ti_full z248
                refine mp_a (a_iinc (v := z248) (L' := [(1, .int z248), (5, .int (fv Po 309 z32.toInt.toNat)), (4, .int (fv Po 309 v1.toInt.toNat)), (3, .int z32), (2, .int z23), (0, .ref 301)]) dX7_crimped_185 (by decide) rfl h249 rfl) (mpp 188 rfl ?_)
                try have e250 : z248.toInt = v1.toInt + 1 := ti_addz h249 rfl rfl (by omega) (by omega)
                refine mp_a (a_goto (t := 30) dX7_crimped_188 (by decide)) ?_
                refine MEvP.less (L := [(0, .ref 301), (1, .int z248)]) rfl rfl ⟨rfl, rfl, trivial⟩ ?_
                have i251 : (fv Po 301 14).toInt ≠ 0 ∨ 1 ≤ z248.toInt := by omega
                have i252 : 0 ≤ z248.toInt := by omega
                have i253 : (fv Po 301 14).toInt = 0 ∨ 3 ≤ (fv Po 301 13).toInt := by omega
                exact ih _ (by omega) _ i251 i252 i253 rfl
              · have c247 : z244.toInt = 3 := ti_ne_n c247
                refine mp_a (a_iload dX7_crimped_166 rfl) (mpp 168 rfl ?_)
                refine mp_a (a_iload dX7_crimped_168 rfl) (mpp 170 rfl ?_)
                refine mp_Tb (t := 185) (j_icmp_eq dX7_crimped_170) (by decide) (fun c254 => ?_) (fun c254 => mpp 173 rfl ?_)
                · have c254 : (fv Po 309 v1.toInt.toNat).toInt = (fv Po 309 z32.toInt.toNat).toInt := ti_eq c254
                  obtain ⟨z255, h256⟩ := ti_ex (v1 + 1 : Int32)
                  have wz255 := ti_full z255
                  refine mp_a (a_iinc (v := z255) (L' := [(1, .int z255), (5, .int (fv Po 309 z32.toInt.toNat)), (4, .int (fv Po 309 v1.toInt.toNat)), (3, .int z32), (2, .int z23), (0, .ref 301)]) dX7_crimped_185 (by decide) rfl h256 rfl) (mpp 188 rfl ?_)
                  try have e257 : z255.toInt = v1.toInt + 1 := ti_addz h256 rfl rfl (by omega) (by omega)
                  refine mp_a (a_goto (t := 30) dX7_crimped_188 (by decide)) ?_
                  refine MEvP.less (L := [(0, .ref 301), (1, .int z255)]) rfl rfl ⟨rfl, rfl, trivial⟩ ?_
                  have i258 : (fv Po 301 14).toInt ≠ 0 ∨ 1 ≤ z255.toInt := by omega
                  have i259 : 0 ≤ z255.toInt := by omega
                  have i260 : (fv Po 301 14).toInt = 0 ∨ 3 ≤ (fv Po 301 13).toInt := by omega
                  exact ih _ (by omega) _ i258 i259 i260 rfl
                · have c254 : (fv Po 309 v1.toInt.toNat).toInt ≠ (fv Po 309 z32.toInt.toNat).toInt := ti_eq_n c254
                  refine mp_a (a_iload dX7_crimped_173 rfl) (mpp 175 rfl ?_)
                  refine mp_Tb (t := 185) (j_if_eq dX7_crimped_175) (by decide) (fun c261 => ?_) (fun c261 => mpp 178 rfl ?_)
                  · have c261 : (fv Po 309 v1.toInt.toNat).toInt = 0 := ti_eq c261
                    obtain ⟨z262, h263⟩ := ti_ex (v1 + 1 : Int32)
                    have wz262 := ti_full z262
                    refine mp_a (a_iinc (v := z262) (L' := [(1, .int z262), (5, .int (fv Po 309 z32.toInt.toNat)), (4, .int (fv Po 309 v1.toInt.toNat)), (3, .int z32), (2, .int z23), (0, .ref 301)]) dX7_crimped_185 (by decide) rfl h263 rfl) (mpp 188 rfl ?_)
                    try have e264 : z262.toInt = v1.toInt + 1 := ti_addz h263 rfl rfl (by omega) (by omega)
                    refine mp_a (a_goto (t := 30) dX7_crimped_188 (by decide)) ?_
                    refine MEvP.less (L := [(0, .ref 301), (1, .int z262)]) rfl rfl ⟨rfl, rfl, trivial⟩ ?_
                    have i265 : (fv Po 301 14).toInt ≠ 0 ∨ 1 ≤ z262.toInt := by omega
                    have i266 : 0 ≤ z262.toInt := by omega
                    have i267 : (fv Po 301 14).toInt = 0 ∨ 3 ≤ (fv Po 301 13).toInt := by omega
                    exact ih _ (by omega) _ i265 i266 i267 rfl
                  · have c261 : (fv Po 309 v1.toInt.toNat).toInt ≠ 0 := ti_eq_n c261
                    refine mp_a (a_iload dX7_crimped_178 rfl) (mpp 180 rfl ?_)
                    refine mp_Tb (t := 185) (j_if_eq dX7_crimped_180) (by decide) (fun c268 => ?_) (fun c268 => mpp 183 rfl ?_)
                    · have c268 : (fv Po 309 z32.toInt.toNat).toInt = 0 := ti_eq c268
                      obtain ⟨z269, h270⟩ := ti_ex (v1 + 1 : Int32)
                      have wz269 := ti_full z269
                      refine mp_a (a_iinc (v := z269) (L' := [(1, .int z269), (5, .int (fv Po 309 z32.toInt.toNat)), (4, .int (fv Po 309 v1.toInt.toNat)), (3, .int z32), (2, .int z23), (0, .ref 301)]) dX7_crimped_185 (by decide) rfl h270 rfl) (mpp 188 rfl ?_)
                      try have e271 : z269.toInt = v1.toInt + 1 := ti_addz h270 rfl rfl (by omega) (by omega)
                      refine mp_a (a_goto (t := 30) dX7_crimped_188 (by decide)) ?_
                      refine MEvP.less (L := [(0, .ref 301), (1, .int z269)]) rfl rfl ⟨rfl, rfl, trivial⟩ ?_
                      have i272 : (fv Po 301 14).toInt ≠ 0 ∨ 1 ≤ z269.toInt := by omega
                      have i273 : 0 ≤ z269.toInt := by omega
                      have i274 : (fv Po 301 14).toInt = 0 ∨ 3 ≤ (fv Po 301 13).toInt := by omega
                      exact ih _ (by omega) _ i272 i273 i274 rfl
                    · have c268 : (fv Po 309 z32.toInt.toNat).toInt ≠ 0 := ti_eq_n c268
                      refine mp_a (a_iload_n dX7_crimped_183 rfl) (mpp 184 rfl ?_)
                      have u275 : v1.toInt = -1 ∨ ((fv Po 301 14).toInt = 1 ∧ 3 ≤ (fv Po 301 13).toInt ∧ 0 ≤ v1.toInt ∧ v1.toInt + 1 ≤ (fv Po 301 13).toInt) ∨ ((fv Po 301 14).toInt = 0 ∧ 1 ≤ v1.toInt ∧ v1.toInt + 2 ≤ (fv Po 301 13).toInt) := by omega
                      exact mp_iret ⟨⟨_, rfl, u275⟩, rfl⟩ dX7_crimped_184 (Or.inl rfl)
  · have c5 : (fv Po 301 14).toInt ≠ 0 := ti_eq_n c5
    refine mp_a (a_aload_n dX7_crimped_38 rfl) (mpp 39 rfl ?_)
    refine mt_getI (i := 165) (k := 13) hT dX7_crimped_39 rfl rl_301 (by decide) rfl (by decide) rfl (fun g276 g277 => mpp 42 rfl ?_)
    refine mp_a (a_goto (t := 51) dX7_crimped_42 (by decide)) ?_
    refine mp_Tb (t := 191) (j_icmp_ge dX7_crimped_51) (by decide) (fun c278 => ?_) (fun c278 => mpp 54 rfl ?_)
    · have c278 : v1.toInt ≥ (fv Po 301 13).toInt := ti_ge c278
      refine mp_a (a_iconst (v := -1) dX7_crimped_191 rfl) (mpp 192 rfl ?_)
      have u279 : (-1 : Int) = -1 ∨ ((fv Po 301 14).toInt = 1 ∧ 3 ≤ (fv Po 301 13).toInt ∧ 0 ≤ (-1 : Int) ∧ (-1 : Int) + 1 ≤ (fv Po 301 13).toInt) ∨ ((fv Po 301 14).toInt = 0 ∧ 1 ≤ (-1 : Int) ∧ (-1 : Int) + 2 ≤ (fv Po 301 13).toInt) := by omega
      exact mp_iret ⟨⟨_, rfl, u279⟩, rfl⟩ dX7_crimped_192 (Or.inl rfl)
    · have c278 : v1.toInt < (fv Po 301 13).toInt := ti_ge_n c278
      refine mp_a (a_iload_n dX7_crimped_54 rfl) (mpp 55 rfl ?_)
      refine mp_a (a_aload_n dX7_crimped_55 rfl) (mpp 56 rfl ?_)
      refine mt_getI (i := 165) (k := 13) hT dX7_crimped_56 rfl rl_301 (by decide) rfl (by decide) rfl (fun g280 g281 => mpp 59 rfl ?_)
      obtain ⟨z282, h283⟩ := ti_ex (v1 + (fv Po 301 13) : Int32)
      have wz282 := ti_full z282
      refine mp_t (s_iadd (v := z282) dX7_crimped_59 h283) (mpp 60 rfl ?_)
      try have e284 : z282.toInt = v1.toInt + (fv Po 301 13).toInt := ti_addz h283 rfl rfl (by omega) (by omega)
      refine mp_a (a_iconst (v := 1) dX7_crimped_60 rfl) (mpp 61 rfl ?_)
      obtain ⟨z285, h286⟩ := ti_ex (z282 - 1 : Int32)
      have wz285 := ti_full z285
      refine mp_t (s_isub (v := z285) dX7_crimped_61 h286) (mpp 62 rfl ?_)
      try have e287 : z285.toInt = z282.toInt - 1 := ti_subz h286 rfl rfl (by omega) (by omega)
      refine mp_a (a_aload_n dX7_crimped_62 rfl) (mpp 63 rfl ?_)
      refine mt_getI (i := 165) (k := 13) hT dX7_crimped_63 rfl rl_301 (by decide) rfl (by decide) rfl (fun g288 g289 => mpp 66 rfl ?_)
      obtain ⟨z290, h291⟩ := ti_ex (z285 - z285 / (fv Po 301 13) * (fv Po 301 13) : Int32)
      have wz290 := ti_full z290
      have n292 : ¬ (fv Po 301 13) = 0 := ti_n0 (by omega)
      try have e293 : 0 ≤ z290.toInt ∧ z290.toInt < (fv Po 301 13).toInt := ti_rem h291 (show (0 : Int) ≤ z285.toInt by omega) (show (0 : Int) < (fv Po 301 13).toInt by omega)
      refine mp_t (s_irem (v := z290) dX7_crimped_66 n292 h291) (mpp 67 rfl ?_)
      refine mp_a (a_istore_n (L' := [(2, .int z290), (0, .ref 301), (1, .int v1)]) dX7_crimped_67 (by decide) rfl) (mpp 68 rfl ?_)
      refine mp_a (a_iload_n dX7_crimped_68 rfl) (mpp 69 rfl ?_)
      refine mp_a (a_iconst (v := 1) dX7_crimped_69 rfl) (mpp 70 rfl ?_)
      obtain ⟨z294, h295⟩ := ti_ex (v1 + 1 : Int32)
      have wz294 := ti_full z294
      refine mp_t (s_iadd (v := z294) dX7_crimped_70 h295) (mpp 71 rfl ?_)
      try have e296 : z294.toInt = v1.toInt + 1 := ti_addz h295 rfl rfl (by omega) (by omega)
      refine mp_a (a_aload_n dX7_crimped_71 rfl) (mpp 72 rfl ?_)
      refine mt_getI (i := 165) (k := 13) hT dX7_crimped_72 rfl rl_301 (by decide) rfl (by decide) rfl (fun g297 g298 => mpp 75 rfl ?_)
      obtain ⟨z299, h300⟩ := ti_ex (z294 - z294 / (fv Po 301 13) * (fv Po 301 13) : Int32)
      have wz299 := ti_full z299
      have n301 : ¬ (fv Po 301 13) = 0 := ti_n0 (by omega)
      try have e302 : 0 ≤ z299.toInt ∧ z299.toInt < (fv Po 301 13).toInt := ti_rem h300 (show (0 : Int) ≤ z294.toInt by omega) (show (0 : Int) < (fv Po 301 13).toInt by omega)
      refine mp_t (s_irem (v := z299) dX7_crimped_75 n301 h300) (mpp 76 rfl ?_)
      refine mp_a (a_istore_n (L' := [(3, .int z299), (2, .int z290), (0, .ref 301), (1, .int v1)]) dX7_crimped_76 (by decide) rfl) (mpp 77 rfl ?_)
      refine mp_a (a_aload_n dX7_crimped_77 rfl) (mpp 78 rfl ?_)
      refine mt_getI (i := 161) (k := 14) hT dX7_crimped_78 rfl rl_301 (by decide) rfl (by decide) rfl (fun g303 g304 => mpp 81 rfl ?_)
      refine mp_Tb (t := 93) (j_if_eq dX7_crimped_81) (by decide) (fun c305 => ?_) (fun c305 => mpp 84 rfl ?_)
      · have c305 : (fv Po 301 14).toInt = 0 := ti_eq c305
        refine mp_a (a_aload_n dX7_crimped_93 rfl) (mpp 94 rfl ?_)
        refine mt_getU (i := 31) (k := 12) (A := 309) hT dX7_crimped_94 rfl rl_301 (by decide) rfl (by decide) rfl un_25 (mpp 97 rfl ?_)
        refine mp_a (a_iload_n dX7_crimped_97 rfl) (mpp 98 rfl ?_)
        refine mp_a (a_iconst (v := 1) dX7_crimped_98 rfl) (mpp 99 rfl ?_)
        obtain ⟨z306, h307⟩ := ti_ex (v1 - 1 : Int32)
        have wz306 := ti_full z306
        refine mp_t (s_isub (v := z306) dX7_crimped_99 h307) (mpp 100 rfl ?_)
        try have e308 : z306.toInt = v1.toInt - 1 := ti_subz h307 rfl rfl (by omega) (by omega)
        refine mt_ial (n := 8) hT dX7_crimped_100 rl_309 (by decide) rfl rfl (by omega) (by omega) rfl (fun g309 g310 => mpp 101 rfl ?_)
        refine mp_a (a_istore (L' := [(4, .int (fv Po 309 z306.toInt.toNat)), (3, .int z299), (2, .int z290), (0, .ref 301), (1, .int v1)]) dX7_crimped_101 (by decide) rfl) (mpp 103 rfl ?_)
        refine mp_a (a_aload_n dX7_crimped_103 rfl) (mpp 104 rfl ?_)
        refine mt_getI (i := 161) (k := 14) hT dX7_crimped_104 rfl rl_301 (by decide) rfl (by decide) rfl (fun g311 g312 => mpp 107 rfl ?_)
        refine mp_Tb (t := 119) (j_if_eq dX7_crimped_107) (by decide) (fun c313 => ?_) (fun c313 => mpp 110 rfl ?_)
        · have c313 : (fv Po 301 14).toInt = 0 := ti_eq c313
          refine mp_a (a_aload_n dX7_crimped_119 rfl) (mpp 120 rfl ?_)
          refine mt_getU (i := 31) (k := 12) (A := 309) hT dX7_crimped_120 rfl rl_301 (by decide) rfl (by decide) rfl un_25 (mpp 123 rfl ?_)
          refine mp_a (a_iload_n dX7_crimped_123 rfl) (mpp 124 rfl ?_)
          refine mt_ial (n := 8) hT dX7_crimped_124 rl_309 (by decide) rfl rfl (by omega) (by omega) rfl (fun g314 g315 => mpp 125 rfl ?_)
          refine mp_a (a_istore (L' := [(5, .int (fv Po 309 v1.toInt.toNat)), (4, .int (fv Po 309 z306.toInt.toNat)), (3, .int z299), (2, .int z290), (0, .ref 301), (1, .int v1)]) dX7_crimped_125 (by decide) rfl) (mpp 127 rfl ?_)
          refine mp_a (a_aload_n dX7_crimped_127 rfl) (mpp 128 rfl ?_)
          refine mt_getU (i := 28) (k := 11) (A := 308) hT dX7_crimped_128 rfl rl_301 (by decide) rfl (by decide) rfl un_24 (mpp 131 rfl ?_)
          refine mp_a (a_iload_n dX7_crimped_131 rfl) (mpp 132 rfl ?_)
          refine mt_ial (n := 8) hT dX7_crimped_132 rl_308 (by decide) rfl rfl (by omega) (by omega) rfl (fun g316 g317 => mpp 133 rfl ?_)
          refine mp_a (a_aload_n dX7_crimped_133 rfl) (mpp 134 rfl ?_)
          refine mt_getU (i := 28) (k := 11) (A := 308) hT dX7_crimped_134 rfl rl_301 (by decide) rfl (by decide) rfl un_24 (mpp 137 rfl ?_)
          refine mp_a (a_iload_n dX7_crimped_137 rfl) (mpp 138 rfl ?_)
          refine mt_ial (n := 8) hT dX7_crimped_138 rl_308 (by decide) rfl rfl (by omega) (by omega) rfl (fun g318 g319 => mpp 139 rfl ?_)
          refine mp_Tb (t := 185) (j_icmp_gt dX7_crimped_139) (by decide) (fun c320 => ?_) (fun c320 => mpp 142 rfl ?_)
          · have c320 : (fv Po 308 v1.toInt.toNat).toInt > (fv Po 308 z290.toInt.toNat).toInt := ti_gt c320
            obtain ⟨z321, h322⟩ := ti_ex (v1 + 1 : Int32)
            have wz321 := ti_full z321
            refine mp_a (a_iinc (v := z321) (L' := [(1, .int z321), (5, .int (fv Po 309 v1.toInt.toNat)), (4, .int (fv Po 309 z306.toInt.toNat)), (3, .int z299), (2, .int z290), (0, .ref 301)]) dX7_crimped_185 (by decide) rfl h322 rfl) (mpp 188 rfl ?_)
            try have e323 : z321.toInt = v1.toInt + 1 := ti_addz h322 rfl rfl (by omega) (by omega)
            refine mp_a (a_goto (t := 30) dX7_crimped_188 (by decide)) ?_
            refine MEvP.less (L := [(0, .ref 301), (1, .int z321)]) rfl rfl ⟨rfl, rfl, trivial⟩ ?_
            have i324 : (fv Po 301 14).toInt ≠ 0 ∨ 1 ≤ z321.toInt := by omega
            have i325 : 0 ≤ z321.toInt := by omega
            have i326 : (fv Po 301 14).toInt = 0 ∨ 3 ≤ (fv Po 301 13).toInt := by omega
            exact ih _ (by omega) _ i324 i325 i326 rfl
          · have c320 : (fv Po 308 v1.toInt.toNat).toInt ≤ (fv Po 308 z290.toInt.toNat).toInt := ti_gt_n c320
            refine mp_a (a_aload_n dX7_crimped_142 rfl) (mpp 143 rfl ?_)
            refine mt_getU (i := 28) (k := 11) (A := 308) hT dX7_crimped_143 rfl rl_301 (by decide) rfl (by decide) rfl un_24 (mpp 146 rfl ?_)
            refine mp_a (a_iload_n dX7_crimped_146 rfl) (mpp 147 rfl ?_)
            refine mt_ial (n := 8) hT dX7_crimped_147 rl_308 (by decide) rfl rfl (by omega) (by omega) rfl (fun g327 g328 => mpp 148 rfl ?_)
            refine mp_a (a_aload_n dX7_crimped_148 rfl) (mpp 149 rfl ?_)
            refine mt_getU (i := 28) (k := 11) (A := 308) hT dX7_crimped_149 rfl rl_301 (by decide) rfl (by decide) rfl un_24 (mpp 152 rfl ?_)
            refine mp_a (a_iload_n dX7_crimped_152 rfl) (mpp 153 rfl ?_)
            refine mt_ial (n := 8) hT dX7_crimped_153 rl_308 (by decide) rfl rfl (by omega) (by omega) rfl (fun g329 g330 => mpp 154 rfl ?_)
            refine mp_Tb (t := 185) (j_icmp_gt dX7_crimped_154) (by decide) (fun c331 => ?_) (fun c331 => mpp 157 rfl ?_)
            · have c331 : (fv Po 308 v1.toInt.toNat).toInt > (fv Po 308 z299.toInt.toNat).toInt := ti_gt c331
              obtain ⟨z332, h333⟩ := ti_ex (v1 + 1 : Int32)
              have wz332 := ti_full z332
              refine mp_a (a_iinc (v := z332) (L' := [(1, .int z332), (5, .int (fv Po 309 v1.toInt.toNat)), (4, .int (fv Po 309 z306.toInt.toNat)), (3, .int z299), (2, .int z290), (0, .ref 301)]) dX7_crimped_185 (by decide) rfl h333 rfl) (mpp 188 rfl ?_)
              try have e334 : z332.toInt = v1.toInt + 1 := ti_addz h333 rfl rfl (by omega) (by omega)
              refine mp_a (a_goto (t := 30) dX7_crimped_188 (by decide)) ?_
              refine MEvP.less (L := [(0, .ref 301), (1, .int z332)]) rfl rfl ⟨rfl, rfl, trivial⟩ ?_
              have i335 : (fv Po 301 14).toInt ≠ 0 ∨ 1 ≤ z332.toInt := by omega
              have i336 : 0 ≤ z332.toInt := by omega
              have i337 : (fv Po 301 14).toInt = 0 ∨ 3 ≤ (fv Po 301 13).toInt := by omega
              exact ih _ (by omega) _ i335 i336 i337 rfl
            · have c331 : (fv Po 308 v1.toInt.toNat).toInt ≤ (fv Po 308 z299.toInt.toNat).toInt := ti_gt_n c331
              refine mp_a (a_iload dX7_crimped_157 rfl) (mpp 159 rfl ?_)
              refine mp_a (a_iload dX7_crimped_159 rfl) (mpp 161 rfl ?_)
              obtain ⟨z338, h339⟩ := ti_ex ((fv Po 309 z306.toInt.toNat) + (fv Po 309 v1.toInt.toNat) : Int32)
              have wz338 := ti_full z338
              refine mp_t (s_iadd (v := z338) dX7_crimped_161 h339) (mpp 162 rfl ?_)
              try have e340 : z338.toInt = (fv Po 309 z306.toInt.toNat).toInt + (fv Po 309 v1.toInt.toNat).toInt := ti_addz h339 rfl rfl (by omega) (by omega)
              refine mp_a (a_iconst (v := 3) dX7_crimped_162 rfl) (mpp 163 rfl ?_)
              refine mp_Tb (t := 185) (j_icmp_ne dX7_crimped_163) (by decide) (fun c341 => ?_) (fun c341 => mpp 166 rfl ?_)
              · have c341 : z338.toInt ≠ 3 := ti_ne c341
                obtain ⟨z342, h343⟩ := ti_ex (v1 + 1 : Int32)
                have wz342 := ti_full z342
                refine mp_a (a_iinc (v := z342) (L' := [(1, .int z342), (5, .int (fv Po 309 v1.toInt.toNat)), (4, .int (fv Po 309 z306.toInt.toNat)), (3, .int z299), (2, .int z290), (0, .ref 301)]) dX7_crimped_185 (by decide) rfl h343 rfl) (mpp 188 rfl ?_)
                try have e344 : z342.toInt = v1.toInt + 1 := ti_addz h343 rfl rfl (by omega) (by omega)
                refine mp_a (a_goto (t := 30) dX7_crimped_188 (by decide)) ?_
                refine MEvP.less (L := [(0, .ref 301), (1, .int z342)]) rfl rfl ⟨rfl, rfl, trivial⟩ ?_
                have i345 : (fv Po 301 14).toInt ≠ 0 ∨ 1 ≤ z342.toInt := by omega
                have i346 : 0 ≤ z342.toInt := by omega
                have i347 : (fv Po 301 14).toInt = 0 ∨ 3 ≤ (fv Po 301 13).toInt := by omega
                exact ih _ (by omega) _ i345 i346 i347 rfl
              · have c341 : z338.toInt = 3 := ti_ne_n c341
                refine mp_a (a_iload dX7_crimped_166 rfl) (mpp 168 rfl ?_)
                refine mp_a (a_iload dX7_crimped_168 rfl) (mpp 170 rfl ?_)
                refine mp_Tb (t := 185) (j_icmp_eq dX7_crimped_170) (by decide) (fun c348 => ?_) (fun c348 => mpp 173 rfl ?_)
                · have c348 : (fv Po 309 z306.toInt.toNat).toInt = (fv Po 309 v1.toInt.toNat).toInt := ti_eq c348
                  obtain ⟨z349, h350⟩ := ti_ex (v1 + 1 : Int32)
                  have wz349 := ti_full z349
                  refine mp_a (a_iinc (v := z349) (L' := [(1, .int z349), (5, .int (fv Po 309 v1.toInt.toNat)), (4, .int (fv Po 309 z306.toInt.toNat)), (3, .int z299), (2, .int z290), (0, .ref 301)]) dX7_crimped_185 (by decide) rfl h350 rfl) (mpp 188 rfl ?_)
                  try have e351 : z349.toInt = v1.toInt + 1 := ti_addz h350 rfl rfl (by omega) (by omega)
                  refine mp_a (a_goto (t := 30) dX7_crimped_188 (by decide)) ?_
                  refine MEvP.less (L := [(0, .ref 301), (1, .int z349)]) rfl rfl ⟨rfl, rfl, trivial⟩ ?_
                  have i352 : (fv Po 301 14).toInt ≠ 0 ∨ 1 ≤ z349.toInt := by omega
                  have i353 : 0 ≤ z349.toInt := by omega
                  have i354 : (fv Po 301 14).toInt = 0 ∨ 3 ≤ (fv Po 301 13).toInt := by omega
                  exact ih _ (by omega) _ i352 i353 i354 rfl
                · have c348 : (fv Po 309 z306.toInt.toNat).toInt ≠ (fv Po 309 v1.toInt.toNat).toInt := ti_eq_n c348
                  refine mp_a (a_iload dX7_crimped_173 rfl) (mpp 175 rfl ?_)
                  refine mp_Tb (t := 185) (j_if_eq dX7_crimped_175) (by decide) (fun c355 => ?_) (fun c355 => mpp 178 rfl ?_)
                  · have c355 : (fv Po 309 z306.toInt.toNat).toInt = 0 := ti_eq c355
                    obtain ⟨z356, h357⟩ := ti_ex (v1 + 1 : Int32)
                    have wz356 := ti_full z356
                    refine mp_a (a_iinc (v := z356) (L' := [(1, .int z356), (5, .int (fv Po 309 v1.toInt.toNat)), (4, .int (fv Po 309 z306.toInt.toNat)), (3, .int z299), (2, .int z290), (0, .ref 301)]) dX7_crimped_185 (by decide) rfl h357 rfl) (mpp 188 rfl ?_)
                    try have e358 : z356.toInt = v1.toInt + 1 := ti_addz h357 rfl rfl (by omega) (by omega)
                    refine mp_a (a_goto (t := 30) dX7_crimped_188 (by decide)) ?_
                    refine MEvP.less (L := [(0, .ref 301), (1, .int z356)]) rfl rfl ⟨rfl, rfl, trivial⟩ ?_
                    have i359 : (fv Po 301 14).toInt ≠ 0 ∨ 1 ≤ z356.toInt := by omega
                    have i360 : 0 ≤ z356.toInt := by omega
                    have i361 : (fv Po 301 14).toInt = 0 ∨ 3 ≤ (fv Po 301 13).toInt := by omega
                    exact ih _ (by omega) _ i359 i360 i361 rfl
                  · have c355 : (fv Po 309 z306.toInt.toNat).toInt ≠ 0 := ti_eq_n c355
                    refine mp_a (a_iload dX7_crimped_178 rfl) (mpp 180 rfl ?_)
                    refine mp_Tb (t := 185) (j_if_eq dX7_crimped_180) (by decide) (fun c362 => ?_) (fun c362 => mpp 183 rfl ?_)
                    · have c362 : (fv Po 309 v1.toInt.toNat).toInt = 0 := ti_eq c362
                      obtain ⟨z363, h364⟩ := ti_ex (v1 + 1 : Int32)
                      have wz363 := ti_full z363
                      refine mp_a (a_iinc (v := z363) (L' := [(1, .int z363), (5, .int (fv Po 309 v1.toInt.toNat)), (4, .int (fv Po 309 z306.toInt.toNat)), (3, .int z299), (2, .int z290), (0, .ref 301)]) dX7_crimped_185 (by decide) rfl h364 rfl) (mpp 188 rfl ?_)
                      try have e365 : z363.toInt = v1.toInt + 1 := ti_addz h364 rfl rfl (by omega) (by omega)
                      refine mp_a (a_goto (t := 30) dX7_crimped_188 (by decide)) ?_
                      refine MEvP.less (L := [(0, .ref 301), (1, .int z363)]) rfl rfl ⟨rfl, rfl, trivial⟩ ?_
                      have i366 : (fv Po 301 14).toInt ≠ 0 ∨ 1 ≤ z363.toInt := by omega
                      have i367 : 0 ≤ z363.toInt := by omega
                      have i368 : (fv Po 301 14).toInt = 0 ∨ 3 ≤ (fv Po 301 13).toInt := by omega
                      exact ih _ (by omega) _ i366 i367 i368 rfl
                    · have c362 : (fv Po 309 v1.toInt.toNat).toInt ≠ 0 := ti_eq_n c362
                      refine mp_a (a_iload_n dX7_crimped_183 rfl) (mpp 184 rfl ?_)
                      have u369 : v1.toInt = -1 ∨ ((fv Po 301 14).toInt = 1 ∧ 3 ≤ (fv Po 301 13).toInt ∧ 0 ≤ v1.toInt ∧ v1.toInt + 1 ≤ (fv Po 301 13).toInt) ∨ ((fv Po 301 14).toInt = 0 ∧ 1 ≤ v1.toInt ∧ v1.toInt + 2 ≤ (fv Po 301 13).toInt) := by omega
                      exact mp_iret ⟨⟨_, rfl, u369⟩, rfl⟩ dX7_crimped_184 (Or.inl rfl)
        · have c313 : (fv Po 301 14).toInt ≠ 0 := ti_eq_n c313
          refine mp_a (a_aload_n dX7_crimped_110 rfl) (mpp 111 rfl ?_)
          refine mt_getU (i := 31) (k := 12) (A := 309) hT dX7_crimped_111 rfl rl_301 (by decide) rfl (by decide) rfl un_25 (mpp 114 rfl ?_)
          refine mp_a (a_iload_n dX7_crimped_114 rfl) (mpp 115 rfl ?_)
          refine mt_ial (n := 8) hT dX7_crimped_115 rl_309 (by decide) rfl rfl (by omega) (by omega) rfl (fun g370 g371 => mpp 116 rfl ?_)
          refine mp_a (a_goto (t := 125) dX7_crimped_116 (by decide)) ?_
          refine mp_a (a_istore (L' := [(5, .int (fv Po 309 z299.toInt.toNat)), (4, .int (fv Po 309 z306.toInt.toNat)), (3, .int z299), (2, .int z290), (0, .ref 301), (1, .int v1)]) dX7_crimped_125 (by decide) rfl) (mpp 127 rfl ?_)
          refine mp_a (a_aload_n dX7_crimped_127 rfl) (mpp 128 rfl ?_)
          refine mt_getU (i := 28) (k := 11) (A := 308) hT dX7_crimped_128 rfl rl_301 (by decide) rfl (by decide) rfl un_24 (mpp 131 rfl ?_)
          refine mp_a (a_iload_n dX7_crimped_131 rfl) (mpp 132 rfl ?_)
          refine mt_ial (n := 8) hT dX7_crimped_132 rl_308 (by decide) rfl rfl (by omega) (by omega) rfl (fun g372 g373 => mpp 133 rfl ?_)
          refine mp_a (a_aload_n dX7_crimped_133 rfl) (mpp 134 rfl ?_)
          refine mt_getU (i := 28) (k := 11) (A := 308) hT dX7_crimped_134 rfl rl_301 (by decide) rfl (by decide) rfl un_24 (mpp 137 rfl ?_)
          refine mp_a (a_iload_n dX7_crimped_137 rfl) (mpp 138 rfl ?_)
          refine mt_ial (n := 8) hT dX7_crimped_138 rl_308 (by decide) rfl rfl (by omega) (by omega) rfl (fun g374 g375 => mpp 139 rfl ?_)
          refine mp_Tb (t := 185) (j_icmp_gt dX7_crimped_139) (by decide) (fun c376 => ?_) (fun c376 => mpp 142 rfl ?_)
          · have c376 : (fv Po 308 v1.toInt.toNat).toInt > (fv Po 308 z290.toInt.toNat).toInt := ti_gt c376
            obtain ⟨z377, h378⟩ := ti_ex (v1 + 1 : Int32)
            have wz377 := ti_full z377
            refine mp_a (a_iinc (v := z377) (L' := [(1, .int z377), (5, .int (fv Po 309 z299.toInt.toNat)), (4, .int (fv Po 309 z306.toInt.toNat)), (3, .int z299), (2, .int z290), (0, .ref 301)]) dX7_crimped_185 (by decide) rfl h378 rfl) (mpp 188 rfl ?_)
            try have e379 : z377.toInt = v1.toInt + 1 := ti_addz h378 rfl rfl (by omega) (by omega)
            refine mp_a (a_goto (t := 30) dX7_crimped_188 (by decide)) ?_
            refine MEvP.less (L := [(0, .ref 301), (1, .int z377)]) rfl rfl ⟨rfl, rfl, trivial⟩ ?_
            have i380 : (fv Po 301 14).toInt ≠ 0 ∨ 1 ≤ z377.toInt := by omega
            have i381 : 0 ≤ z377.toInt := by omega
            have i382 : (fv Po 301 14).toInt = 0 ∨ 3 ≤ (fv Po 301 13).toInt := by omega
            exact ih _ (by omega) _ i380 i381 i382 rfl
          · have c376 : (fv Po 308 v1.toInt.toNat).toInt ≤ (fv Po 308 z290.toInt.toNat).toInt := ti_gt_n c376
            refine mp_a (a_aload_n dX7_crimped_142 rfl) (mpp 143 rfl ?_)
            refine mt_getU (i := 28) (k := 11) (A := 308) hT dX7_crimped_143 rfl rl_301 (by decide) rfl (by decide) rfl un_24 (mpp 146 rfl ?_)
            refine mp_a (a_iload_n dX7_crimped_146 rfl) (mpp 147 rfl ?_)
            refine mt_ial (n := 8) hT dX7_crimped_147 rl_308 (by decide) rfl rfl (by omega) (by omega) rfl (fun g383 g384 => mpp 148 rfl ?_)
            refine mp_a (a_aload_n dX7_crimped_148 rfl) (mpp 149 rfl ?_)
            refine mt_getU (i := 28) (k := 11) (A := 308) hT dX7_crimped_149 rfl rl_301 (by decide) rfl (by decide) rfl un_24 (mpp 152 rfl ?_)
            refine mp_a (a_iload_n dX7_crimped_152 rfl) (mpp 153 rfl ?_)
            refine mt_ial (n := 8) hT dX7_crimped_153 rl_308 (by decide) rfl rfl (by omega) (by omega) rfl (fun g385 g386 => mpp 154 rfl ?_)
            refine mp_Tb (t := 185) (j_icmp_gt dX7_crimped_154) (by decide) (fun c387 => ?_) (fun c387 => mpp 157 rfl ?_)
            · have c387 : (fv Po 308 v1.toInt.toNat).toInt > (fv Po 308 z299.toInt.toNat).toInt := ti_gt c387
              obtain ⟨z388, h389⟩ := ti_ex (v1 + 1 : Int32)
              have wz388 := ti_full z388
              refine mp_a (a_iinc (v := z388) (L' := [(1, .int z388), (5, .int (fv Po 309 z299.toInt.toNat)), (4, .int (fv Po 309 z306.toInt.toNat)), (3, .int z299), (2, .int z290), (0, .ref 301)]) dX7_crimped_185 (by decide) rfl h389 rfl) (mpp 188 rfl ?_)
              try have e390 : z388.toInt = v1.toInt + 1 := ti_addz h389 rfl rfl (by omega) (by omega)
              refine mp_a (a_goto (t := 30) dX7_crimped_188 (by decide)) ?_
              refine MEvP.less (L := [(0, .ref 301), (1, .int z388)]) rfl rfl ⟨rfl, rfl, trivial⟩ ?_
              have i391 : (fv Po 301 14).toInt ≠ 0 ∨ 1 ≤ z388.toInt := by omega
              have i392 : 0 ≤ z388.toInt := by omega
              have i393 : (fv Po 301 14).toInt = 0 ∨ 3 ≤ (fv Po 301 13).toInt := by omega
              exact ih _ (by omega) _ i391 i392 i393 rfl
            · have c387 : (fv Po 308 v1.toInt.toNat).toInt ≤ (fv Po 308 z299.toInt.toNat).toInt := ti_gt_n c387
              refine mp_a (a_iload dX7_crimped_157 rfl) (mpp 159 rfl ?_)
              refine mp_a (a_iload dX7_crimped_159 rfl) (mpp 161 rfl ?_)
              obtain ⟨z394, h395⟩ := ti_ex ((fv Po 309 z306.toInt.toNat) + (fv Po 309 z299.toInt.toNat) : Int32)
              have wz394 := ti_full z394
              refine mp_t (s_iadd (v := z394) dX7_crimped_161 h395) (mpp 162 rfl ?_)
              try have e396 : z394.toInt = (fv Po 309 z306.toInt.toNat).toInt + (fv Po 309 z299.toInt.toNat).toInt := ti_addz h395 rfl rfl (by omega) (by omega)
              refine mp_a (a_iconst (v := 3) dX7_crimped_162 rfl) (mpp 163 rfl ?_)
              refine mp_Tb (t := 185) (j_icmp_ne dX7_crimped_163) (by decide) (fun c397 => ?_) (fun c397 => mpp 166 rfl ?_)
              · have c397 : z394.toInt ≠ 3 := ti_ne c397
                obtain ⟨z398, h399⟩ := ti_ex (v1 + 1 : Int32)
                have wz398 := ti_full z398
                refine mp_a (a_iinc (v := z398) (L' := [(1, .int z398), (5, .int (fv Po 309 z299.toInt.toNat)), (4, .int (fv Po 309 z306.toInt.toNat)), (3, .int z299), (2, .int z290), (0, .ref 301)]) dX7_crimped_185 (by decide) rfl h399 rfl) (mpp 188 rfl ?_)
                try have e400 : z398.toInt = v1.toInt + 1 := ti_addz h399 rfl rfl (by omega) (by omega)
                refine mp_a (a_goto (t := 30) dX7_crimped_188 (by decide)) ?_
                refine MEvP.less (L := [(0, .ref 301), (1, .int z398)]) rfl rfl ⟨rfl, rfl, trivial⟩ ?_
                have i401 : (fv Po 301 14).toInt ≠ 0 ∨ 1 ≤ z398.toInt := by omega
                have i402 : 0 ≤ z398.toInt := by omega
                have i403 : (fv Po 301 14).toInt = 0 ∨ 3 ≤ (fv Po 301 13).toInt := by omega
                exact ih _ (by omega) _ i401 i402 i403 rfl
              · have c397 : z394.toInt = 3 := ti_ne_n c397
                refine mp_a (a_iload dX7_crimped_166 rfl) (mpp 168 rfl ?_)
                refine mp_a (a_iload dX7_crimped_168 rfl) (mpp 170 rfl ?_)
                refine mp_Tb (t := 185) (j_icmp_eq dX7_crimped_170) (by decide) (fun c404 => ?_) (fun c404 => mpp 173 rfl ?_)
                · have c404 : (fv Po 309 z306.toInt.toNat).toInt = (fv Po 309 z299.toInt.toNat).toInt := ti_eq c404
                  obtain ⟨z405, h406⟩ := ti_ex (v1 + 1 : Int32)
                  have wz405 := ti_full z405
                  refine mp_a (a_iinc (v := z405) (L' := [(1, .int z405), (5, .int (fv Po 309 z299.toInt.toNat)), (4, .int (fv Po 309 z306.toInt.toNat)), (3, .int z299), (2, .int z290), (0, .ref 301)]) dX7_crimped_185 (by decide) rfl h406 rfl) (mpp 188 rfl ?_)
                  try have e407 : z405.toInt = v1.toInt + 1 := ti_addz h406 rfl rfl (by omega) (by omega)
                  refine mp_a (a_goto (t := 30) dX7_crimped_188 (by decide)) ?_
                  refine MEvP.less (L := [(0, .ref 301), (1, .int z405)]) rfl rfl ⟨rfl, rfl, trivial⟩ ?_
                  have i408 : (fv Po 301 14).toInt ≠ 0 ∨ 1 ≤ z405.toInt := by omega
                  have i409 : 0 ≤ z405.toInt := by omega
                  have i410 : (fv Po 301 14).toInt = 0 ∨ 3 ≤ (fv Po 301 13).toInt := by omega
                  exact ih _ (by omega) _ i408 i409 i410 rfl
                · have c404 : (fv Po 309 z306.toInt.toNat).toInt ≠ (fv Po 309 z299.toInt.toNat).toInt := ti_eq_n c404
                  refine mp_a (a_iload dX7_crimped_173 rfl) (mpp 175 rfl ?_)
                  refine mp_Tb (t := 185) (j_if_eq dX7_crimped_175) (by decide) (fun c411 => ?_) (fun c411 => mpp 178 rfl ?_)
                  · have c411 : (fv Po 309 z306.toInt.toNat).toInt = 0 := ti_eq c411
                    obtain ⟨z412, h413⟩ := ti_ex (v1 + 1 : Int32)
                    have wz412 := ti_full z412
                    refine mp_a (a_iinc (v := z412) (L' := [(1, .int z412), (5, .int (fv Po 309 z299.toInt.toNat)), (4, .int (fv Po 309 z306.toInt.toNat)), (3, .int z299), (2, .int z290), (0, .ref 301)]) dX7_crimped_185 (by decide) rfl h413 rfl) (mpp 188 rfl ?_)
                    try have e414 : z412.toInt = v1.toInt + 1 := ti_addz h413 rfl rfl (by omega) (by omega)
                    refine mp_a (a_goto (t := 30) dX7_crimped_188 (by decide)) ?_
                    refine MEvP.less (L := [(0, .ref 301), (1, .int z412)]) rfl rfl ⟨rfl, rfl, trivial⟩ ?_
                    have i415 : (fv Po 301 14).toInt ≠ 0 ∨ 1 ≤ z412.toInt := by omega
                    have i416 : 0 ≤ z412.toInt := by omega
                    have i417 : (fv Po 301 14).toInt = 0 ∨ 3 ≤ (fv Po 301 13).toInt := by omega
                    exact ih _ (by omega) _ i415 i416 i417 rfl
                  · have c411 : (fv Po 309 z306.toInt.toNat).toInt ≠ 0 := ti_eq_n c411
                    refine mp_a (a_iload dX7_crimped_178 rfl) (mpp 180 rfl ?_)
                    refine mp_Tb (t := 185) (j_if_eq dX7_crimped_180) (by decide) (fun c418 => ?_) (fun c418 => mpp 183 rfl ?_)
                    · have c418 : (fv Po 309 z299.toInt.toNat).toInt = 0 := ti_eq c418
                      obtain ⟨z419, h420⟩ := ti_ex (v1 + 1 : Int32)
                      have wz419 := ti_full z419
                      refine mp_a (a_iinc (v := z419) (L' := [(1, .int z419), (5, .int (fv Po 309 z299.toInt.toNat)), (4, .int (fv Po 309 z306.toInt.toNat)), (3, .int z299), (2, .int z290), (0, .ref 301)]) dX7_crimped_185 (by decide) rfl h420 rfl) (mpp 188 rfl ?_)
                      try have e421 : z419.toInt = v1.toInt + 1 := ti_addz h420 rfl rfl (by omega) (by omega)
                      refine mp_a (a_goto (t := 30) dX7_crimped_188 (by decide)) ?_
                      refine MEvP.less (L := [(0, .ref 301), (1, .int z419)]) rfl rfl ⟨rfl, rfl, trivial⟩ ?_
                      have i422 : (fv Po 301 14).toInt ≠ 0 ∨ 1 ≤ z419.toInt := by omega
                      have i423 : 0 ≤ z419.toInt := by omega
                      have i424 : (fv Po 301 14).toInt = 0 ∨ 3 ≤ (fv Po 301 13).toInt := by omega
                      exact ih _ (by omega) _ i422 i423 i424 rfl
                    · have c418 : (fv Po 309 z299.toInt.toNat).toInt ≠ 0 := ti_eq_n c418
                      refine mp_a (a_iload_n dX7_crimped_183 rfl) (mpp 184 rfl ?_)
                      have u425 : v1.toInt = -1 ∨ ((fv Po 301 14).toInt = 1 ∧ 3 ≤ (fv Po 301 13).toInt ∧ 0 ≤ v1.toInt ∧ v1.toInt + 1 ≤ (fv Po 301 13).toInt) ∨ ((fv Po 301 14).toInt = 0 ∧ 1 ≤ v1.toInt ∧ v1.toInt + 2 ≤ (fv Po 301 13).toInt) := by omega
                      exact mp_iret ⟨⟨_, rfl, u425⟩, rfl⟩ dX7_crimped_184 (Or.inl rfl)
      · have c305 : (fv Po 301 14).toInt ≠ 0 := ti_eq_n c305
        refine mp_a (a_aload_n dX7_crimped_84 rfl) (mpp 85 rfl ?_)
        refine mt_getU (i := 31) (k := 12) (A := 309) hT dX7_crimped_85 rfl rl_301 (by decide) rfl (by decide) rfl un_25 (mpp 88 rfl ?_)
        refine mp_a (a_iload_n dX7_crimped_88 rfl) (mpp 89 rfl ?_)
        refine mt_ial (n := 8) hT dX7_crimped_89 rl_309 (by decide) rfl rfl (by omega) (by omega) rfl (fun g426 g427 => mpp 90 rfl ?_)
        refine mp_a (a_goto (t := 101) dX7_crimped_90 (by decide)) ?_
        refine mp_a (a_istore (L' := [(4, .int (fv Po 309 v1.toInt.toNat)), (3, .int z299), (2, .int z290), (0, .ref 301), (1, .int v1)]) dX7_crimped_101 (by decide) rfl) (mpp 103 rfl ?_)
        refine mp_a (a_aload_n dX7_crimped_103 rfl) (mpp 104 rfl ?_)
        refine mt_getI (i := 161) (k := 14) hT dX7_crimped_104 rfl rl_301 (by decide) rfl (by decide) rfl (fun g428 g429 => mpp 107 rfl ?_)
        refine mp_Tb (t := 119) (j_if_eq dX7_crimped_107) (by decide) (fun c430 => ?_) (fun c430 => mpp 110 rfl ?_)
        · have c430 : (fv Po 301 14).toInt = 0 := ti_eq c430
          refine mp_a (a_aload_n dX7_crimped_119 rfl) (mpp 120 rfl ?_)
          refine mt_getU (i := 31) (k := 12) (A := 309) hT dX7_crimped_120 rfl rl_301 (by decide) rfl (by decide) rfl un_25 (mpp 123 rfl ?_)
          refine mp_a (a_iload_n dX7_crimped_123 rfl) (mpp 124 rfl ?_)
          refine mt_ial (n := 8) hT dX7_crimped_124 rl_309 (by decide) rfl rfl (by omega) (by omega) rfl (fun g431 g432 => mpp 125 rfl ?_)
          refine mp_a (a_istore (L' := [(5, .int (fv Po 309 v1.toInt.toNat)), (4, .int (fv Po 309 v1.toInt.toNat)), (3, .int z299), (2, .int z290), (0, .ref 301), (1, .int v1)]) dX7_crimped_125 (by decide) rfl) (mpp 127 rfl ?_)
          refine mp_a (a_aload_n dX7_crimped_127 rfl) (mpp 128 rfl ?_)
          refine mt_getU (i := 28) (k := 11) (A := 308) hT dX7_crimped_128 rfl rl_301 (by decide) rfl (by decide) rfl un_24 (mpp 131 rfl ?_)
          refine mp_a (a_iload_n dX7_crimped_131 rfl) (mpp 132 rfl ?_)
          refine mt_ial (n := 8) hT dX7_crimped_132 rl_308 (by decide) rfl rfl (by omega) (by omega) rfl (fun g433 g434 => mpp 133 rfl ?_)
          refine mp_a (a_aload_n dX7_crimped_133 rfl) (mpp 134 rfl ?_)
          refine mt_getU (i := 28) (k := 11) (A := 308) hT dX7_crimped_134 rfl rl_301 (by decide) rfl (by decide) rfl un_24 (mpp 137 rfl ?_)
          refine mp_a (a_iload_n dX7_crimped_137 rfl) (mpp 138 rfl ?_)
          refine mt_ial (n := 8) hT dX7_crimped_138 rl_308 (by decide) rfl rfl (by omega) (by omega) rfl (fun g435 g436 => mpp 139 rfl ?_)
          refine mp_Tb (t := 185) (j_icmp_gt dX7_crimped_139) (by decide) (fun c437 => ?_) (fun c437 => mpp 142 rfl ?_)
          · have c437 : (fv Po 308 v1.toInt.toNat).toInt > (fv Po 308 z290.toInt.toNat).toInt := ti_gt c437
            obtain ⟨z438, h439⟩ := ti_ex (v1 + 1 : Int32)
            have wz438 := ti_full z438
            refine mp_a (a_iinc (v := z438) (L' := [(1, .int z438), (5, .int (fv Po 309 v1.toInt.toNat)), (4, .int (fv Po 309 v1.toInt.toNat)), (3, .int z299), (2, .int z290), (0, .ref 301)]) dX7_crimped_185 (by decide) rfl h439 rfl) (mpp 188 rfl ?_)
            try have e440 : z438.toInt = v1.toInt + 1 := ti_addz h439 rfl rfl (by omega) (by omega)
            refine mp_a (a_goto (t := 30) dX7_crimped_188 (by decide)) ?_
            refine MEvP.less (L := [(0, .ref 301), (1, .int z438)]) rfl rfl ⟨rfl, rfl, trivial⟩ ?_
            have i441 : (fv Po 301 14).toInt ≠ 0 ∨ 1 ≤ z438.toInt := by omega
            have i442 : 0 ≤ z438.toInt := by omega
            have i443 : (fv Po 301 14).toInt = 0 ∨ 3 ≤ (fv Po 301 13).toInt := by omega
            exact ih _ (by omega) _ i441 i442 i443 rfl
          · have c437 : (fv Po 308 v1.toInt.toNat).toInt ≤ (fv Po 308 z290.toInt.toNat).toInt := ti_gt_n c437
            refine mp_a (a_aload_n dX7_crimped_142 rfl) (mpp 143 rfl ?_)
            refine mt_getU (i := 28) (k := 11) (A := 308) hT dX7_crimped_143 rfl rl_301 (by decide) rfl (by decide) rfl un_24 (mpp 146 rfl ?_)
            refine mp_a (a_iload_n dX7_crimped_146 rfl) (mpp 147 rfl ?_)
            refine mt_ial (n := 8) hT dX7_crimped_147 rl_308 (by decide) rfl rfl (by omega) (by omega) rfl (fun g444 g445 => mpp 148 rfl ?_)
            refine mp_a (a_aload_n dX7_crimped_148 rfl) (mpp 149 rfl ?_)
            refine mt_getU (i := 28) (k := 11) (A := 308) hT dX7_crimped_149 rfl rl_301 (by decide) rfl (by decide) rfl un_24 (mpp 152 rfl ?_)
            refine mp_a (a_iload_n dX7_crimped_152 rfl) (mpp 153 rfl ?_)
            refine mt_ial (n := 8) hT dX7_crimped_153 rl_308 (by decide) rfl rfl (by omega) (by omega) rfl (fun g446 g447 => mpp 154 rfl ?_)
            refine mp_Tb (t := 185) (j_icmp_gt dX7_crimped_154) (by decide) (fun c448 => ?_) (fun c448 => mpp 157 rfl ?_)
            · have c448 : (fv Po 308 v1.toInt.toNat).toInt > (fv Po 308 z299.toInt.toNat).toInt := ti_gt c448
              obtain ⟨z449, h450⟩ := ti_ex (v1 + 1 : Int32)
              have wz449 := ti_full z449
              refine mp_a (a_iinc (v := z449) (L' := [(1, .int z449), (5, .int (fv Po 309 v1.toInt.toNat)), (4, .int (fv Po 309 v1.toInt.toNat)), (3, .int z299), (2, .int z290), (0, .ref 301)]) dX7_crimped_185 (by decide) rfl h450 rfl) (mpp 188 rfl ?_)
              try have e451 : z449.toInt = v1.toInt + 1 := ti_addz h450 rfl rfl (by omega) (by omega)
              refine mp_a (a_goto (t := 30) dX7_crimped_188 (by decide)) ?_
              refine MEvP.less (L := [(0, .ref 301), (1, .int z449)]) rfl rfl ⟨rfl, rfl, trivial⟩ ?_
              have i452 : (fv Po 301 14).toInt ≠ 0 ∨ 1 ≤ z449.toInt := by omega
              have i453 : 0 ≤ z449.toInt := by omega
              have i454 : (fv Po 301 14).toInt = 0 ∨ 3 ≤ (fv Po 301 13).toInt := by omega
              exact ih _ (by omega) _ i452 i453 i454 rfl
            · have c448 : (fv Po 308 v1.toInt.toNat).toInt ≤ (fv Po 308 z299.toInt.toNat).toInt := ti_gt_n c448
              refine mp_a (a_iload dX7_crimped_157 rfl) (mpp 159 rfl ?_)
              refine mp_a (a_iload dX7_crimped_159 rfl) (mpp 161 rfl ?_)
              obtain ⟨z455, h456⟩ := ti_ex ((fv Po 309 v1.toInt.toNat) + (fv Po 309 v1.toInt.toNat) : Int32)
              have wz455 := ti_full z455
              refine mp_t (s_iadd (v := z455) dX7_crimped_161 h456) (mpp 162 rfl ?_)
              try have e457 : z455.toInt = (fv Po 309 v1.toInt.toNat).toInt + (fv Po 309 v1.toInt.toNat).toInt := ti_addz h456 rfl rfl (by omega) (by omega)
              refine mp_a (a_iconst (v := 3) dX7_crimped_162 rfl) (mpp 163 rfl ?_)
              refine mp_Tb (t := 185) (j_icmp_ne dX7_crimped_163) (by decide) (fun c458 => ?_) (fun c458 => mpp 166 rfl ?_)
              · have c458 : z455.toInt ≠ 3 := ti_ne c458
                obtain ⟨z459, h460⟩ := ti_ex (v1 + 1 : Int32)
                have wz459 := ti_full z459
                refine mp_a (a_iinc (v := z459) (L' := [(1, .int z459), (5, .int (fv Po 309 v1.toInt.toNat)), (4, .int (fv Po 309 v1.toInt.toNat)), (3, .int z299), (2, .int z290), (0, .ref 301)]) dX7_crimped_185 (by decide) rfl h460 rfl) (mpp 188 rfl ?_)
                try have e461 : z459.toInt = v1.toInt + 1 := ti_addz h460 rfl rfl (by omega) (by omega)
                refine mp_a (a_goto (t := 30) dX7_crimped_188 (by decide)) ?_
                refine MEvP.less (L := [(0, .ref 301), (1, .int z459)]) rfl rfl ⟨rfl, rfl, trivial⟩ ?_
                have i462 : (fv Po 301 14).toInt ≠ 0 ∨ 1 ≤ z459.toInt := by omega
                have i463 : 0 ≤ z459.toInt := by omega
                have i464 : (fv Po 301 14).toInt = 0 ∨ 3 ≤ (fv Po 301 13).toInt := by omega
                exact ih _ (by omega) _ i462 i463 i464 rfl
              · have c458 : z455.toInt = 3 := ti_ne_n c458
                refine mp_a (a_iload dX7_crimped_166 rfl) (mpp 168 rfl ?_)
                refine mp_a (a_iload dX7_crimped_168 rfl) (mpp 170 rfl ?_)
                refine mp_Tb (t := 185) (j_icmp_eq dX7_crimped_170) (by decide) (fun c465 => ?_) (fun c465 => mpp 173 rfl ?_)
                · have c465 : (fv Po 309 v1.toInt.toNat).toInt = (fv Po 309 v1.toInt.toNat).toInt := ti_eq c465
                  obtain ⟨z466, h467⟩ := ti_ex (v1 + 1 : Int32)
                  have wz466 := ti_full z466
                  refine mp_a (a_iinc (v := z466) (L' := [(1, .int z466), (5, .int (fv Po 309 v1.toInt.toNat)), (4, .int (fv Po 309 v1.toInt.toNat)), (3, .int z299), (2, .int z290), (0, .ref 301)]) dX7_crimped_185 (by decide) rfl h467 rfl) (mpp 188 rfl ?_)
                  try have e468 : z466.toInt = v1.toInt + 1 := ti_addz h467 rfl rfl (by omega) (by omega)
                  refine mp_a (a_goto (t := 30) dX7_crimped_188 (by decide)) ?_
                  refine MEvP.less (L := [(0, .ref 301), (1, .int z466)]) rfl rfl ⟨rfl, rfl, trivial⟩ ?_
                  have i469 : (fv Po 301 14).toInt ≠ 0 ∨ 1 ≤ z466.toInt := by omega
                  have i470 : 0 ≤ z466.toInt := by omega
                  have i471 : (fv Po 301 14).toInt = 0 ∨ 3 ≤ (fv Po 301 13).toInt := by omega
                  exact ih _ (by omega) _ i469 i470 i471 rfl
                · have c465 : (fv Po 309 v1.toInt.toNat).toInt ≠ (fv Po 309 v1.toInt.toNat).toInt := ti_eq_n c465
                  refine mp_a (a_iload dX7_crimped_173 rfl) (mpp 175 rfl ?_)
                  refine mp_Tb (t := 185) (j_if_eq dX7_crimped_175) (by decide) (fun c472 => ?_) (fun c472 => mpp 178 rfl ?_)
                  · have c472 : (fv Po 309 v1.toInt.toNat).toInt = 0 := ti_eq c472
                    obtain ⟨z473, h474⟩ := ti_ex (v1 + 1 : Int32)
                    have wz473 := ti_full z473
                    refine mp_a (a_iinc (v := z473) (L' := [(1, .int z473), (5, .int (fv Po 309 v1.toInt.toNat)), (4, .int (fv Po 309 v1.toInt.toNat)), (3, .int z299), (2, .int z290), (0, .ref 301)]) dX7_crimped_185 (by decide) rfl h474 rfl) (mpp 188 rfl ?_)
                    try have e475 : z473.toInt = v1.toInt + 1 := ti_addz h474 rfl rfl (by omega) (by omega)
                    refine mp_a (a_goto (t := 30) dX7_crimped_188 (by decide)) ?_
                    refine MEvP.less (L := [(0, .ref 301), (1, .int z473)]) rfl rfl ⟨rfl, rfl, trivial⟩ ?_
                    have i476 : (fv Po 301 14).toInt ≠ 0 ∨ 1 ≤ z473.toInt := by omega
                    have i477 : 0 ≤ z473.toInt := by omega
                    have i478 : (fv Po 301 14).toInt = 0 ∨ 3 ≤ (fv Po 301 13).toInt := by omega
                    exact ih _ (by omega) _ i476 i477 i478 rfl
                  · have c472 : (fv Po 309 v1.toInt.toNat).toInt ≠ 0 := ti_eq_n c472
                    refine mp_a (a_iload dX7_crimped_178 rfl) (mpp 180 rfl ?_)
                    refine mp_Tb (t := 185) (j_if_eq dX7_crimped_180) (by decide) (fun c479 => ?_) (fun c479 => mpp 183 rfl ?_)
                    · have c479 : (fv Po 309 v1.toInt.toNat).toInt = 0 := ti_eq c479
                      obtain ⟨z480, h481⟩ := ti_ex (v1 + 1 : Int32)
                      have wz480 := ti_full z480
                      refine mp_a (a_iinc (v := z480) (L' := [(1, .int z480), (5, .int (fv Po 309 v1.toInt.toNat)), (4, .int (fv Po 309 v1.toInt.toNat)), (3, .int z299), (2, .int z290), (0, .ref 301)]) dX7_crimped_185 (by decide) rfl h481 rfl) (mpp 188 rfl ?_)
                      try have e482 : z480.toInt = v1.toInt + 1 := ti_addz h481 rfl rfl (by omega) (by omega)
                      refine mp_a (a_goto (t := 30) dX7_crimped_188 (by decide)) ?_
                      refine MEvP.less (L := [(0, .ref 301), (1, .int z480)]) rfl rfl ⟨rfl, rfl, trivial⟩ ?_
                      have i483 : (fv Po 301 14).toInt ≠ 0 ∨ 1 ≤ z480.toInt := by omega
                      have i484 : 0 ≤ z480.toInt := by omega
                      have i485 : (fv Po 301 14).toInt = 0 ∨ 3 ≤ (fv Po 301 13).toInt := by omega
                      exact ih _ (by omega) _ i483 i484 i485 rfl
                    · have c479 : (fv Po 309 v1.toInt.toNat).toInt ≠ 0 := ti_eq_n c479
                      refine mp_a (a_iload_n dX7_crimped_183 rfl) (mpp 184 rfl ?_)
                      have u486 : v1.toInt = -1 ∨ ((fv Po 301 14).toInt = 1 ∧ 3 ≤ (fv Po 301 13).toInt ∧ 0 ≤ v1.toInt ∧ v1.toInt + 1 ≤ (fv Po 301 13).toInt) ∨ ((fv Po 301 14).toInt = 0 ∧ 1 ≤ v1.toInt ∧ v1.toInt + 2 ≤ (fv Po 301 13).toInt) := by omega
                      exact mp_iret ⟨⟨_, rfl, u486⟩, rfl⟩ dX7_crimped_184 (Or.inl rfl)
        · have c430 : (fv Po 301 14).toInt ≠ 0 := ti_eq_n c430
          refine mp_a (a_aload_n dX7_crimped_110 rfl) (mpp 111 rfl ?_)
          refine mt_getU (i := 31) (k := 12) (A := 309) hT dX7_crimped_111 rfl rl_301 (by decide) rfl (by decide) rfl un_25 (mpp 114 rfl ?_)
          refine mp_a (a_iload_n dX7_crimped_114 rfl) (mpp 115 rfl ?_)
          refine mt_ial (n := 8) hT dX7_crimped_115 rl_309 (by decide) rfl rfl (by omega) (by omega) rfl (fun g487 g488 => mpp 116 rfl ?_)
          refine mp_a (a_goto (t := 125) dX7_crimped_116 (by decide)) ?_
          refine mp_a (a_istore (L' := [(5, .int (fv Po 309 z299.toInt.toNat)), (4, .int (fv Po 309 v1.toInt.toNat)), (3, .int z299), (2, .int z290), (0, .ref 301), (1, .int v1)]) dX7_crimped_125 (by decide) rfl) (mpp 127 rfl ?_)
          refine mp_a (a_aload_n dX7_crimped_127 rfl) (mpp 128 rfl ?_)
          refine mt_getU (i := 28) (k := 11) (A := 308) hT dX7_crimped_128 rfl rl_301 (by decide) rfl (by decide) rfl un_24 (mpp 131 rfl ?_)
          refine mp_a (a_iload_n dX7_crimped_131 rfl) (mpp 132 rfl ?_)
          refine mt_ial (n := 8) hT dX7_crimped_132 rl_308 (by decide) rfl rfl (by omega) (by omega) rfl (fun g489 g490 => mpp 133 rfl ?_)
          refine mp_a (a_aload_n dX7_crimped_133 rfl) (mpp 134 rfl ?_)
          refine mt_getU (i := 28) (k := 11) (A := 308) hT dX7_crimped_134 rfl rl_301 (by decide) rfl (by decide) rfl un_24 (mpp 137 rfl ?_)
          refine mp_a (a_iload_n dX7_crimped_137 rfl) (mpp 138 rfl ?_)
          refine mt_ial (n := 8) hT dX7_crimped_138 rl_308 (by decide) rfl rfl (by omega) (by omega) rfl (fun g491 g492 => mpp 139 rfl ?_)
          refine mp_Tb (t := 185) (j_icmp_gt dX7_crimped_139) (by decide) (fun c493 => ?_) (fun c493 => mpp 142 rfl ?_)
          · have c493 : (fv Po 308 v1.toInt.toNat).toInt > (fv Po 308 z290.toInt.toNat).toInt := ti_gt c493
            obtain ⟨z494, h495⟩ := ti_ex (v1 + 1 : Int32)
            have wz494 := ti_full z494
            refine mp_a (a_iinc (v := z494) (L' := [(1, .int z494), (5, .int (fv Po 309 z299.toInt.toNat)), (4, .int (fv Po 309 v1.toInt.toNat)), (3, .int z299), (2, .int z290), (0, .ref 301)]) dX7_crimped_185 (by decide) rfl h495 rfl) (mpp 188 rfl ?_)
            try have e496 : z494.toInt = v1.toInt + 1 := ti_addz h495 rfl rfl (by omega) (by omega)
            refine mp_a (a_goto (t := 30) dX7_crimped_188 (by decide)) ?_
            refine MEvP.less (L := [(0, .ref 301), (1, .int z494)]) rfl rfl ⟨rfl, rfl, trivial⟩ ?_
            have i497 : (fv Po 301 14).toInt ≠ 0 ∨ 1 ≤ z494.toInt := by omega
            have i498 : 0 ≤ z494.toInt := by omega
            have i499 : (fv Po 301 14).toInt = 0 ∨ 3 ≤ (fv Po 301 13).toInt := by omega
            exact ih _ (by omega) _ i497 i498 i499 rfl
          · have c493 : (fv Po 308 v1.toInt.toNat).toInt ≤ (fv Po 308 z290.toInt.toNat).toInt := ti_gt_n c493
            refine mp_a (a_aload_n dX7_crimped_142 rfl) (mpp 143 rfl ?_)
            refine mt_getU (i := 28) (k := 11) (A := 308) hT dX7_crimped_143 rfl rl_301 (by decide) rfl (by decide) rfl un_24 (mpp 146 rfl ?_)
            refine mp_a (a_iload_n dX7_crimped_146 rfl) (mpp 147 rfl ?_)
            refine mt_ial (n := 8) hT dX7_crimped_147 rl_308 (by decide) rfl rfl (by omega) (by omega) rfl (fun g500 g501 => mpp 148 rfl ?_)
            refine mp_a (a_aload_n dX7_crimped_148 rfl) (mpp 149 rfl ?_)
            refine mt_getU (i := 28) (k := 11) (A := 308) hT dX7_crimped_149 rfl rl_301 (by decide) rfl (by decide) rfl un_24 (mpp 152 rfl ?_)
            refine mp_a (a_iload_n dX7_crimped_152 rfl) (mpp 153 rfl ?_)
            refine mt_ial (n := 8) hT dX7_crimped_153 rl_308 (by decide) rfl rfl (by omega) (by omega) rfl (fun g502 g503 => mpp 154 rfl ?_)
            refine mp_Tb (t := 185) (j_icmp_gt dX7_crimped_154) (by decide) (fun c504 => ?_) (fun c504 => mpp 157 rfl ?_)
            · have c504 : (fv Po 308 v1.toInt.toNat).toInt > (fv Po 308 z299.toInt.toNat).toInt := ti_gt c504
              obtain ⟨z505, h506⟩ := ti_ex (v1 + 1 : Int32)
              have wz505 := ti_full z505
              refine mp_a (a_iinc (v := z505) (L' := [(1, .int z505), (5, .int (fv Po 309 z299.toInt.toNat)), (4, .int (fv Po 309 v1.toInt.toNat)), (3, .int z299), (2, .int z290), (0, .ref 301)]) dX7_crimped_185 (by decide) rfl h506 rfl) (mpp 188 rfl ?_)
              try have e507 : z505.toInt = v1.toInt + 1 := ti_addz h506 rfl rfl (by omega) (by omega)
              refine mp_a (a_goto (t := 30) dX7_crimped_188 (by decide)) ?_
              refine MEvP.less (L := [(0, .ref 301), (1, .int z505)]) rfl rfl ⟨rfl, rfl, trivial⟩ ?_
              have i508 : (fv Po 301 14).toInt ≠ 0 ∨ 1 ≤ z505.toInt := by omega
              have i509 : 0 ≤ z505.toInt := by omega
              have i510 : (fv Po 301 14).toInt = 0 ∨ 3 ≤ (fv Po 301 13).toInt := by omega
              exact ih _ (by omega) _ i508 i509 i510 rfl
            · have c504 : (fv Po 308 v1.toInt.toNat).toInt ≤ (fv Po 308 z299.toInt.toNat).toInt := ti_gt_n c504
              refine mp_a (a_iload dX7_crimped_157 rfl) (mpp 159 rfl ?_)
              refine mp_a (a_iload dX7_crimped_159 rfl) (mpp 161 rfl ?_)
              obtain ⟨z511, h512⟩ := ti_ex ((fv Po 309 v1.toInt.toNat) + (fv Po 309 z299.toInt.toNat) : Int32)
              have wz511 := ti_full z511
              refine mp_t (s_iadd (v := z511) dX7_crimped_161 h512) (mpp 162 rfl ?_)
              try have e513 : z511.toInt = (fv Po 309 v1.toInt.toNat).toInt + (fv Po 309 z299.toInt.toNat).toInt := ti_addz h512 rfl rfl (by omega) (by omega)
              refine mp_a (a_iconst (v := 3) dX7_crimped_162 rfl) (mpp 163 rfl ?_)
              refine mp_Tb (t := 185) (j_icmp_ne dX7_crimped_163) (by decide) (fun c514 => ?_) (fun c514 => mpp 166 rfl ?_)
              · have c514 : z511.toInt ≠ 3 := ti_ne c514
                obtain ⟨z515, h516⟩ := ti_ex (v1 + 1 : Int32)
                have wz515 := ti_full z515
                refine mp_a (a_iinc (v := z515) (L' := [(1, .int z515), (5, .int (fv Po 309 z299.toInt.toNat)), (4, .int (fv Po 309 v1.toInt.toNat)), (3, .int z299), (2, .int z290), (0, .ref 301)]) dX7_crimped_185 (by decide) rfl h516 rfl) (mpp 188 rfl ?_)
                try have e517 : z515.toInt = v1.toInt + 1 := ti_addz h516 rfl rfl (by omega) (by omega)
                refine mp_a (a_goto (t := 30) dX7_crimped_188 (by decide)) ?_
                refine MEvP.less (L := [(0, .ref 301), (1, .int z515)]) rfl rfl ⟨rfl, rfl, trivial⟩ ?_
                have i518 : (fv Po 301 14).toInt ≠ 0 ∨ 1 ≤ z515.toInt := by omega
                have i519 : 0 ≤ z515.toInt := by omega
                have i520 : (fv Po 301 14).toInt = 0 ∨ 3 ≤ (fv Po 301 13).toInt := by omega
                exact ih _ (by omega) _ i518 i519 i520 rfl
              · have c514 : z511.toInt = 3 := ti_ne_n c514
                refine mp_a (a_iload dX7_crimped_166 rfl) (mpp 168 rfl ?_)
                refine mp_a (a_iload dX7_crimped_168 rfl) (mpp 170 rfl ?_)
                refine mp_Tb (t := 185) (j_icmp_eq dX7_crimped_170) (by decide) (fun c521 => ?_) (fun c521 => mpp 173 rfl ?_)
                · have c521 : (fv Po 309 v1.toInt.toNat).toInt = (fv Po 309 z299.toInt.toNat).toInt := ti_eq c521
                  obtain ⟨z522, h523⟩ := ti_ex (v1 + 1 : Int32)
                  have wz522 := ti_full z522
                  refine mp_a (a_iinc (v := z522) (L' := [(1, .int z522), (5, .int (fv Po 309 z299.toInt.toNat)), (4, .int (fv Po 309 v1.toInt.toNat)), (3, .int z299), (2, .int z290), (0, .ref 301)]) dX7_crimped_185 (by decide) rfl h523 rfl) (mpp 188 rfl ?_)
                  try have e524 : z522.toInt = v1.toInt + 1 := ti_addz h523 rfl rfl (by omega) (by omega)
                  refine mp_a (a_goto (t := 30) dX7_crimped_188 (by decide)) ?_
                  refine MEvP.less (L := [(0, .ref 301), (1, .int z522)]) rfl rfl ⟨rfl, rfl, trivial⟩ ?_
                  have i525 : (fv Po 301 14).toInt ≠ 0 ∨ 1 ≤ z522.toInt := by omega
                  have i526 : 0 ≤ z522.toInt := by omega
                  have i527 : (fv Po 301 14).toInt = 0 ∨ 3 ≤ (fv Po 301 13).toInt := by omega
                  exact ih _ (by omega) _ i525 i526 i527 rfl
                · have c521 : (fv Po 309 v1.toInt.toNat).toInt ≠ (fv Po 309 z299.toInt.toNat).toInt := ti_eq_n c521
                  refine mp_a (a_iload dX7_crimped_173 rfl) (mpp 175 rfl ?_)
                  refine mp_Tb (t := 185) (j_if_eq dX7_crimped_175) (by decide) (fun c528 => ?_) (fun c528 => mpp 178 rfl ?_)
                  · have c528 : (fv Po 309 v1.toInt.toNat).toInt = 0 := ti_eq c528
                    obtain ⟨z529, h530⟩ := ti_ex (v1 + 1 : Int32)
                    have wz529 := ti_full z529
                    refine mp_a (a_iinc (v := z529) (L' := [(1, .int z529), (5, .int (fv Po 309 z299.toInt.toNat)), (4, .int (fv Po 309 v1.toInt.toNat)), (3, .int z299), (2, .int z290), (0, .ref 301)]) dX7_crimped_185 (by decide) rfl h530 rfl) (mpp 188 rfl ?_)
                    try have e531 : z529.toInt = v1.toInt + 1 := ti_addz h530 rfl rfl (by omega) (by omega)
                    refine mp_a (a_goto (t := 30) dX7_crimped_188 (by decide)) ?_
                    refine MEvP.less (L := [(0, .ref 301), (1, .int z529)]) rfl rfl ⟨rfl, rfl, trivial⟩ ?_
                    have i532 : (fv Po 301 14).toInt ≠ 0 ∨ 1 ≤ z529.toInt := by omega
                    have i533 : 0 ≤ z529.toInt := by omega
                    have i534 : (fv Po 301 14).toInt = 0 ∨ 3 ≤ (fv Po 301 13).toInt := by omega
                    exact ih _ (by omega) _ i532 i533 i534 rfl
                  · have c528 : (fv Po 309 v1.toInt.toNat).toInt ≠ 0 := ti_eq_n c528
                    refine mp_a (a_iload dX7_crimped_178 rfl) (mpp 180 rfl ?_)
                    refine mp_Tb (t := 185) (j_if_eq dX7_crimped_180) (by decide) (fun c535 => ?_) (fun c535 => mpp 183 rfl ?_)
                    · have c535 : (fv Po 309 z299.toInt.toNat).toInt = 0 := ti_eq c535
                      obtain ⟨z536, h537⟩ := ti_ex (v1 + 1 : Int32)
                      have wz536 := ti_full z536
                      refine mp_a (a_iinc (v := z536) (L' := [(1, .int z536), (5, .int (fv Po 309 z299.toInt.toNat)), (4, .int (fv Po 309 v1.toInt.toNat)), (3, .int z299), (2, .int z290), (0, .ref 301)]) dX7_crimped_185 (by decide) rfl h537 rfl) (mpp 188 rfl ?_)
                      try have e538 : z536.toInt = v1.toInt + 1 := ti_addz h537 rfl rfl (by omega) (by omega)
                      refine mp_a (a_goto (t := 30) dX7_crimped_188 (by decide)) ?_
                      refine MEvP.less (L := [(0, .ref 301), (1, .int z536)]) rfl rfl ⟨rfl, rfl, trivial⟩ ?_
                      have i539 : (fv Po 301 14).toInt ≠ 0 ∨ 1 ≤ z536.toInt := by omega
                      have i540 : 0 ≤ z536.toInt := by omega
                      have i541 : (fv Po 301 14).toInt = 0 ∨ 3 ≤ (fv Po 301 13).toInt := by omega
                      exact ih _ (by omega) _ i539 i540 i541 rfl
                    · have c535 : (fv Po 309 z299.toInt.toNat).toInt ≠ 0 := ti_eq_n c535
                      refine mp_a (a_iload_n dX7_crimped_183 rfl) (mpp 184 rfl ?_)
                      have u542 : v1.toInt = -1 ∨ ((fv Po 301 14).toInt = 1 ∧ 3 ≤ (fv Po 301 13).toInt ∧ 0 ≤ v1.toInt ∧ v1.toInt + 1 ≤ (fv Po 301 13).toInt) ∨ ((fv Po 301 14).toInt = 0 ∧ 1 ≤ v1.toInt ∧ v1.toInt + 2 ≤ (fv Po 301 13).toInt) := by omega
                      exact mp_iret ⟨⟨_, rfl, u542⟩, rfl⟩ dX7_crimped_184 (Or.inl rfl)

