/-! methods on typed pools, 19 (written by a program) -/
set_option maxHeartbeats 4000000 in
theorem c_F_perform {Po : mP}  (hT : Typ Po) (hX : XR Po)  (hJ : Inj Po)  : EvP 6 107 [.ref 0] Po (fun r P' => (∃ x : Int32, r = some (.int x) ∧ (True)) ∧ Typ P' ∧ KW [10, 11, 12, 65, 66, 67, 192, 193, 194, 256, 320, 385, 386, 640, 641, 704, 768, 1985, 1987, 2048, 2112, 2113, 2114] Po P' ∧ Inj P' ∧ True) := by
  refine EvP.of qm_107 (Nat.le_of_ble_eq_true rfl) rfl ?_
  show MEvP _ none q_107 0 [(0, .ref 0)] [] _ 0 0 _
  refine mp_a (a_aload_n dX6_perform_0 rfl) (mpp 1 rfl ?_)
  refine mt_getU (i := 32) (k := 4) (A := 289) hT dX6_perform_1 rfl rl_0 (by decide) rfl (by decide) rfl un_8 (mpp 4 rfl ?_)
  have g1 := ti_full (fv Po 289 3)
  refine mt_getI (i := 276) (k := 3) hT dX6_perform_4 rfl rl_289 (by decide) rfl (by decide) rfl (fun g2 g3 => mpp 7 rfl ?_)
  have c4 : ((fv Po 289 3).toInt < 99 ∨ 120 < (fv Po 289 3).toInt) ∨ (fv Po 289 3).toInt = 99 ∨ (fv Po 289 3).toInt = 100 ∨ (fv Po 289 3).toInt = 101 ∨ (fv Po 289 3).toInt = 102 ∨ (fv Po 289 3).toInt = 103 ∨ (fv Po 289 3).toInt = 104 ∨ (fv Po 289 3).toInt = 105 ∨ (fv Po 289 3).toInt = 106 ∨ (fv Po 289 3).toInt = 107 ∨ (fv Po 289 3).toInt = 108 ∨ (fv Po 289 3).toInt = 109 ∨ (fv Po 289 3).toInt = 110 ∨ (fv Po 289 3).toInt = 111 ∨ (fv Po 289 3).toInt = 112 ∨ (fv Po 289 3).toInt = 113 ∨ (fv Po 289 3).toInt = 114 ∨ (fv Po 289 3).toInt = 115 ∨ (fv Po 289 3).toInt = 116 ∨ (fv Po 289 3).toInt = 117 ∨ (fv Po 289 3).toInt = 118 ∨ (fv Po 289 3).toInt = 119 ∨ (fv Po 289 3).toInt = 120 := by omega
  rcases c4 with c4 | c4 | c4 | c4 | c4 | c4 | c4 | c4 | c4 | c4 | c4 | c4 | c4 | c4 | c4 | c4 | c4 | c4 | c4 | c4 | c4 | c4 | c4
  · refine mp_t (s_tabOut (t := 230) dX6_perform_7 c4 (by decide)) ?_
    refine mp_a (a_sipush (v := -1002) dX6_perform_230 rfl) (mpp 233 rfl ?_)
    exact mp_iret ⟨⟨_, rfl, trivial⟩, hT, KW.refl, hJ, trivial⟩ dX6_perform_233 (Or.inl rfl)
  · refine mp_t (s_tabIn (t := 132) (off := 125) dX6_perform_7 (by omega) (by rw [c4]; rfl) (by decide)) ?_
    refine mp_a (a_aload_n dX6_perform_132 rfl) (mpp 133 rfl ?_)
    refine mp_a (a_aload_n dX6_perform_133 rfl) (mpp 134 rfl ?_)
    refine mp_a (a_iconst (v := 1) dX6_perform_134 rfl) (mpp 135 rfl ?_)
    refine mp_a (a_aload_n dX6_perform_135 rfl) (mpp 136 rfl ?_)
    refine mt_getU (i := 32) (k := 4) (A := 289) hT dX6_perform_136 rfl rl_0 (by decide) rfl (by decide) rfl un_8 (mpp 139 rfl ?_)
    have g5 := ti_full (fv Po 289 4)
    refine mt_getI (i := 279) (k := 4) hT dX6_perform_139 rfl rl_289 (by decide) rfl (by decide) rfl (fun g6 g7 => mpp 142 rfl ?_)
    refine mp_a (a_aload_n dX6_perform_142 rfl) (mpp 143 rfl ?_)
    refine mt_getU (i := 32) (k := 4) (A := 289) hT dX6_perform_143 rfl rl_0 (by decide) rfl (by decide) rfl un_8 (mpp 146 rfl ?_)
    have g8 := ti_full (fv Po 289 5)
    refine mt_getI (i := 282) (k := 5) hT dX6_perform_146 rfl rl_289 (by decide) rfl (by decide) rfl (fun g9 g10 => mpp 149 rfl ?_)
    refine mt_callv (i := 284) (q' := q_20) (As := [.int 1, .int (fv Po 289 4), .int (fv Po 289 5)]) (rest := [.ref 0]) hT dX6_perform_149 rfl qm_20 (by decide) rfl rl_0 (by decide) rfl (Nat.le_of_ble_eq_true rfl) rfl ⟨rfl, rfl⟩ ⟨Nat.le_of_ble_eq_true rfl, Nat.le_of_ble_eq_true rfl⟩ (EvP.mono (by decide) (c_F_add hT hX hJ )) (fun r11 P12 g13 => mpp 152 rfl ?_)
    obtain ⟨⟨x14, rfl, g15⟩, hT16, k17, J20, R18⟩ := g13
    have k19 : KW [10, 11, 12, 65, 66, 67, 192, 193, 194, 256, 320, 385, 386, 640, 641, 704, 768, 1985, 1987, 2048, 2112, 2113, 2114] Po P12 := KW.trans KW.refl k17 rfl
    have wx14 := ti_full x14
    replace g15 : KPX Po P12 ∧ addC Po P12 x14.toInt (1 : Int) (fv Po 289 4).toInt (fv Po 289 5).toInt := g15
    show MEvP _ none q_107 152 [(0, .ref 0)] [.int x14, .ref 0] _ _ _ _
    refine mt_callv (i := 288) (q' := q_108) (As := [.int x14]) (rest := []) hT16 dX6_perform_152 rfl qm_108 (by decide) rfl rl_0 (by decide) rfl (Nat.le_of_ble_eq_true rfl) rfl ⟨rfl, rfl⟩ ⟨Nat.le_of_ble_eq_true rfl, Nat.le_of_ble_eq_true rfl⟩ (EvP.mono (by decide) (c_F_withCreasesAsTold hT16 (KW.xr k19 hX) )) (fun r21 P22 g23 => mpp 155 rfl ?_)
    obtain ⟨⟨x24, rfl, g25⟩, e26⟩ := g23
    have e26 := e26.symm
    subst e26
    have wx24 := ti_full x24
    show MEvP _ none q_107 155 [(0, .ref 0)] [.int x24] _ _ _ _
    exact mp_iret ⟨⟨_, rfl, trivial⟩, hT16, k19, J20, trivial⟩ dX6_perform_155 (Or.inl rfl)
  · refine mp_t (s_tabIn (t := 230) (off := 223) dX6_perform_7 (by omega) (by rw [c4]; rfl) (by decide)) ?_
    refine mp_a (a_sipush (v := -1002) dX6_perform_230 rfl) (mpp 233 rfl ?_)
    exact mp_iret ⟨⟨_, rfl, trivial⟩, hT, KW.refl, hJ, trivial⟩ dX6_perform_233 (Or.inl rfl)
  · refine mp_t (s_tabIn (t := 230) (off := 223) dX6_perform_7 (by omega) (by rw [c4]; rfl) (by decide)) ?_
    refine mp_a (a_sipush (v := -1002) dX6_perform_230 rfl) (mpp 233 rfl ?_)
    exact mp_iret ⟨⟨_, rfl, trivial⟩, hT, KW.refl, hJ, trivial⟩ dX6_perform_233 (Or.inl rfl)
  · refine mp_t (s_tabIn (t := 194) (off := 187) dX6_perform_7 (by omega) (by rw [c4]; rfl) (by decide)) ?_
    refine mp_a (a_aload_n dX6_perform_194 rfl) (mpp 195 rfl ?_)
    refine mp_a (a_aload_n dX6_perform_195 rfl) (mpp 196 rfl ?_)
    refine mt_getU (i := 32) (k := 4) (A := 289) hT dX6_perform_196 rfl rl_0 (by decide) rfl (by decide) rfl un_8 (mpp 199 rfl ?_)
    have g27 := ti_full (fv Po 289 4)
    refine mt_getI (i := 279) (k := 4) hT dX6_perform_199 rfl rl_289 (by decide) rfl (by decide) rfl (fun g28 g29 => mpp 202 rfl ?_)
    refine mt_callv (i := 300) (q' := q_41) (As := [.int (fv Po 289 4)]) (rest := []) hT dX6_perform_202 rfl qm_41 (by decide) rfl rl_0 (by decide) rfl (Nat.le_of_ble_eq_true rfl) rfl ⟨rfl, rfl⟩ ⟨Nat.le_of_ble_eq_true rfl, Nat.le_of_ble_eq_true rfl⟩ (EvP.mono (by decide) (c_F_fold hT hX hJ )) (fun r30 P31 g32 => mpp 205 rfl ?_)
    obtain ⟨⟨x33, rfl, g34⟩, hT35, k36, J39, R37⟩ := g32
    have k38 : KW [10, 11, 12, 65, 66, 67, 192, 193, 194, 256, 320, 385, 386, 640, 641, 704, 768, 1985, 1987, 2048, 2112, 2113, 2114] Po P31 := KW.trans KW.refl k36 rfl
    have wx33 := ti_full x33
    replace g34 : KPX Po P31 ∧ foldC Po P31 x33.toInt (fv Po 289 4).toInt := g34
    show MEvP _ none q_107 205 [(0, .ref 0)] [.int x33] _ _ _ _
    exact mp_iret ⟨⟨_, rfl, trivial⟩, hT35, k38, J39, trivial⟩ dX6_perform_205 (Or.inl rfl)
  · refine mp_t (s_tabIn (t := 230) (off := 223) dX6_perform_7 (by omega) (by rw [c4]; rfl) (by decide)) ?_
    refine mp_a (a_sipush (v := -1002) dX6_perform_230 rfl) (mpp 233 rfl ?_)
    exact mp_iret ⟨⟨_, rfl, trivial⟩, hT, KW.refl, hJ, trivial⟩ dX6_perform_233 (Or.inl rfl)
  · refine mp_t (s_tabIn (t := 230) (off := 223) dX6_perform_7 (by omega) (by rw [c4]; rfl) (by decide)) ?_
    refine mp_a (a_sipush (v := -1002) dX6_perform_230 rfl) (mpp 233 rfl ?_)
    exact mp_iret ⟨⟨_, rfl, trivial⟩, hT, KW.refl, hJ, trivial⟩ dX6_perform_233 (Or.inl rfl)
  · refine mp_t (s_tabIn (t := 230) (off := 223) dX6_perform_7 (by omega) (by rw [c4]; rfl) (by decide)) ?_
    refine mp_a (a_sipush (v := -1002) dX6_perform_230 rfl) (mpp 233 rfl ?_)
    exact mp_iret ⟨⟨_, rfl, trivial⟩, hT, KW.refl, hJ, trivial⟩ dX6_perform_233 (Or.inl rfl)
  · refine mp_t (s_tabIn (t := 230) (off := 223) dX6_perform_7 (by omega) (by rw [c4]; rfl) (by decide)) ?_
    refine mp_a (a_sipush (v := -1002) dX6_perform_230 rfl) (mpp 233 rfl ?_)
    exact mp_iret ⟨⟨_, rfl, trivial⟩, hT, KW.refl, hJ, trivial⟩ dX6_perform_233 (Or.inl rfl)
  · refine mp_t (s_tabIn (t := 230) (off := 223) dX6_perform_7 (by omega) (by rw [c4]; rfl) (by decide)) ?_
    refine mp_a (a_sipush (v := -1002) dX6_perform_230 rfl) (mpp 233 rfl ?_)
    exact mp_iret ⟨⟨_, rfl, trivial⟩, hT, KW.refl, hJ, trivial⟩ dX6_perform_233 (Or.inl rfl)
  · refine mp_t (s_tabIn (t := 230) (off := 223) dX6_perform_7 (by omega) (by rw [c4]; rfl) (by decide)) ?_
    refine mp_a (a_sipush (v := -1002) dX6_perform_230 rfl) (mpp 233 rfl ?_)
    exact mp_iret ⟨⟨_, rfl, trivial⟩, hT, KW.refl, hJ, trivial⟩ dX6_perform_233 (Or.inl rfl)
  · refine mp_t (s_tabIn (t := 156) (off := 149) dX6_perform_7 (by omega) (by rw [c4]; rfl) (by decide)) ?_
    refine mp_a (a_aload_n dX6_perform_156 rfl) (mpp 157 rfl ?_)
    refine mp_a (a_aload_n dX6_perform_157 rfl) (mpp 158 rfl ?_)
    refine mt_getU (i := 32) (k := 4) (A := 289) hT dX6_perform_158 rfl rl_0 (by decide) rfl (by decide) rfl un_8 (mpp 161 rfl ?_)
    have g40 := ti_full (fv Po 289 4)
    refine mt_getI (i := 279) (k := 4) hT dX6_perform_161 rfl rl_289 (by decide) rfl (by decide) rfl (fun g41 g42 => mpp 164 rfl ?_)
    refine mp_a (a_aload_n dX6_perform_164 rfl) (mpp 165 rfl ?_)
    refine mt_getU (i := 32) (k := 4) (A := 289) hT dX6_perform_165 rfl rl_0 (by decide) rfl (by decide) rfl un_8 (mpp 168 rfl ?_)
    have g43 := ti_full (fv Po 289 5)
    refine mt_getI (i := 282) (k := 5) hT dX6_perform_168 rfl rl_289 (by decide) rfl (by decide) rfl (fun g44 g45 => mpp 171 rfl ?_)
    refine mp_a (a_aload_n dX6_perform_171 rfl) (mpp 172 rfl ?_)
    refine mt_getU (i := 32) (k := 4) (A := 289) hT dX6_perform_172 rfl rl_0 (by decide) rfl (by decide) rfl un_8 (mpp 175 rfl ?_)
    have g46 := ti_full (fv Po 289 7)
    refine mt_getI (i := 291) (k := 7) hT dX6_perform_175 rfl rl_289 (by decide) rfl (by decide) rfl (fun g47 g48 => mpp 178 rfl ?_)
    refine mt_callv (i := 294) (q' := q_28) (As := [.int (fv Po 289 4), .int (fv Po 289 5), .int (fv Po 289 7)]) (rest := []) hT dX6_perform_178 rfl qm_28 (by decide) rfl rl_0 (by decide) rfl (Nat.le_of_ble_eq_true rfl) rfl ⟨rfl, rfl⟩ ⟨Nat.le_of_ble_eq_true rfl, Nat.le_of_ble_eq_true rfl⟩ (EvP.mono (by decide) (c_F_mark hT hX hJ )) (fun r49 P50 g51 => mpp 181 rfl ?_)
    obtain ⟨⟨x52, rfl, g53⟩, hT54, k55, J58, R56⟩ := g51
    have k57 : KW [10, 11, 12, 65, 66, 67, 192, 193, 194, 256, 320, 385, 386, 640, 641, 704, 768, 1985, 1987, 2048, 2112, 2113, 2114] Po P50 := KW.trans KW.refl k55 rfl
    have wx52 := ti_full x52
    replace g53 : KPX Po P50 ∧ markC Po P50 x52.toInt (fv Po 289 4).toInt (fv Po 289 5).toInt (fv Po 289 7).toInt := g53
    show MEvP _ none q_107 181 [(0, .ref 0)] [.int x52] _ _ _ _
    exact mp_iret ⟨⟨_, rfl, trivial⟩, hT54, k57, J58, trivial⟩ dX6_perform_181 (Or.inl rfl)
  · refine mp_t (s_tabIn (t := 230) (off := 223) dX6_perform_7 (by omega) (by rw [c4]; rfl) (by decide)) ?_
    refine mp_a (a_sipush (v := -1002) dX6_perform_230 rfl) (mpp 233 rfl ?_)
    exact mp_iret ⟨⟨_, rfl, trivial⟩, hT, KW.refl, hJ, trivial⟩ dX6_perform_233 (Or.inl rfl)
  · refine mp_t (s_tabIn (t := 230) (off := 223) dX6_perform_7 (by omega) (by rw [c4]; rfl) (by decide)) ?_
    refine mp_a (a_sipush (v := -1002) dX6_perform_230 rfl) (mpp 233 rfl ?_)
    exact mp_iret ⟨⟨_, rfl, trivial⟩, hT, KW.refl, hJ, trivial⟩ dX6_perform_233 (Or.inl rfl)
  · refine mp_t (s_tabIn (t := 230) (off := 223) dX6_perform_7 (by omega) (by rw [c4]; rfl) (by decide)) ?_
    refine mp_a (a_sipush (v := -1002) dX6_perform_230 rfl) (mpp 233 rfl ?_)
    exact mp_iret ⟨⟨_, rfl, trivial⟩, hT, KW.refl, hJ, trivial⟩ dX6_perform_233 (Or.inl rfl)
  · refine mp_t (s_tabIn (t := 230) (off := 223) dX6_perform_7 (by omega) (by rw [c4]; rfl) (by decide)) ?_
    refine mp_a (a_sipush (v := -1002) dX6_perform_230 rfl) (mpp 233 rfl ?_)
    exact mp_iret ⟨⟨_, rfl, trivial⟩, hT, KW.refl, hJ, trivial⟩ dX6_perform_233 (Or.inl rfl)
  · refine mp_t (s_tabIn (t := 230) (off := 223) dX6_perform_7 (by omega) (by rw [c4]; rfl) (by decide)) ?_
    refine mp_a (a_sipush (v := -1002) dX6_perform_230 rfl) (mpp 233 rfl ?_)
    exact mp_iret ⟨⟨_, rfl, trivial⟩, hT, KW.refl, hJ, trivial⟩ dX6_perform_233 (Or.inl rfl)
  · refine mp_t (s_tabIn (t := 108) (off := 101) dX6_perform_7 (by omega) (by rw [c4]; rfl) (by decide)) ?_
    refine mp_a (a_aload_n dX6_perform_108 rfl) (mpp 109 rfl ?_)
    refine mp_a (a_aload_n dX6_perform_109 rfl) (mpp 110 rfl ?_)
    refine mp_a (a_iconst (v := 0) dX6_perform_110 rfl) (mpp 111 rfl ?_)
    refine mp_a (a_aload_n dX6_perform_111 rfl) (mpp 112 rfl ?_)
    refine mt_getU (i := 32) (k := 4) (A := 289) hT dX6_perform_112 rfl rl_0 (by decide) rfl (by decide) rfl un_8 (mpp 115 rfl ?_)
    have g59 := ti_full (fv Po 289 4)
    refine mt_getI (i := 279) (k := 4) hT dX6_perform_115 rfl rl_289 (by decide) rfl (by decide) rfl (fun g60 g61 => mpp 118 rfl ?_)
    refine mp_a (a_aload_n dX6_perform_118 rfl) (mpp 119 rfl ?_)
    refine mt_getU (i := 32) (k := 4) (A := 289) hT dX6_perform_119 rfl rl_0 (by decide) rfl (by decide) rfl un_8 (mpp 122 rfl ?_)
    have g62 := ti_full (fv Po 289 5)
    refine mt_getI (i := 282) (k := 5) hT dX6_perform_122 rfl rl_289 (by decide) rfl (by decide) rfl (fun g63 g64 => mpp 125 rfl ?_)
    refine mt_callv (i := 284) (q' := q_20) (As := [.int 0, .int (fv Po 289 4), .int (fv Po 289 5)]) (rest := [.ref 0]) hT dX6_perform_125 rfl qm_20 (by decide) rfl rl_0 (by decide) rfl (Nat.le_of_ble_eq_true rfl) rfl ⟨rfl, rfl⟩ ⟨Nat.le_of_ble_eq_true rfl, Nat.le_of_ble_eq_true rfl⟩ (EvP.mono (by decide) (c_F_add hT hX hJ )) (fun r65 P66 g67 => mpp 128 rfl ?_)
    obtain ⟨⟨x68, rfl, g69⟩, hT70, k71, J74, R72⟩ := g67
    have k73 : KW [10, 11, 12, 65, 66, 67, 192, 193, 194, 256, 320, 385, 386, 640, 641, 704, 768, 1985, 1987, 2048, 2112, 2113, 2114] Po P66 := KW.trans KW.refl k71 rfl
    have wx68 := ti_full x68
    replace g69 : KPX Po P66 ∧ addC Po P66 x68.toInt (0 : Int) (fv Po 289 4).toInt (fv Po 289 5).toInt := g69
    show MEvP _ none q_107 128 [(0, .ref 0)] [.int x68, .ref 0] _ _ _ _
    refine mt_callv (i := 288) (q' := q_108) (As := [.int x68]) (rest := []) hT70 dX6_perform_128 rfl qm_108 (by decide) rfl rl_0 (by decide) rfl (Nat.le_of_ble_eq_true rfl) rfl ⟨rfl, rfl⟩ ⟨Nat.le_of_ble_eq_true rfl, Nat.le_of_ble_eq_true rfl⟩ (EvP.mono (by decide) (c_F_withCreasesAsTold hT70 (KW.xr k73 hX) )) (fun r75 P76 g77 => mpp 131 rfl ?_)
    obtain ⟨⟨x78, rfl, g79⟩, e80⟩ := g77
    have e80 := e80.symm
    subst e80
    have wx78 := ti_full x78
    show MEvP _ none q_107 131 [(0, .ref 0)] [.int x78] _ _ _ _
    exact mp_iret ⟨⟨_, rfl, trivial⟩, hT70, k73, J74, trivial⟩ dX6_perform_131 (Or.inl rfl)
  · refine mp_t (s_tabIn (t := 182) (off := 175) dX6_perform_7 (by omega) (by rw [c4]; rfl) (by decide)) ?_
    refine mp_a (a_aload_n dX6_perform_182 rfl) (mpp 183 rfl ?_)
    refine mp_a (a_aload_n dX6_perform_183 rfl) (mpp 184 rfl ?_)
    refine mt_getU (i := 32) (k := 4) (A := 289) hT dX6_perform_184 rfl rl_0 (by decide) rfl (by decide) rfl un_8 (mpp 187 rfl ?_)
    have g81 := ti_full (fv Po 289 4)
    refine mt_getI (i := 279) (k := 4) hT dX6_perform_187 rfl rl_289 (by decide) rfl (by decide) rfl (fun g82 g83 => mpp 190 rfl ?_)
    refine mt_callv (i := 297) (q' := q_30) (As := [.int (fv Po 289 4)]) (rest := []) hT dX6_perform_190 rfl qm_30 (by decide) rfl rl_0 (by decide) rfl (Nat.le_of_ble_eq_true rfl) rfl ⟨rfl, rfl⟩ ⟨Nat.le_of_ble_eq_true rfl, Nat.le_of_ble_eq_true rfl⟩ (EvP.mono (by decide) (c_F_turn hT hX hJ )) (fun r84 P85 g86 => mpp 193 rfl ?_)
    obtain ⟨⟨x87, rfl, g88⟩, hT89, k90, J93, R91⟩ := g86
    have k92 : KW [10, 11, 12, 65, 66, 67, 192, 193, 194, 256, 320, 385, 386, 640, 641, 704, 768, 1985, 1987, 2048, 2112, 2113, 2114] Po P85 := KW.trans KW.refl k90 rfl
    have wx87 := ti_full x87
    replace g88 : KPX Po P85 ∧ turnC Po P85 x87.toInt (fv Po 289 4).toInt := g88
    show MEvP _ none q_107 193 [(0, .ref 0)] [.int x87] _ _ _ _
    exact mp_iret ⟨⟨_, rfl, trivial⟩, hT89, k92, J93, trivial⟩ dX6_perform_193 (Or.inl rfl)
  · refine mp_t (s_tabIn (t := 206) (off := 199) dX6_perform_7 (by omega) (by rw [c4]; rfl) (by decide)) ?_
    refine mp_a (a_aload_n dX6_perform_206 rfl) (mpp 207 rfl ?_)
    refine mp_a (a_aload_n dX6_perform_207 rfl) (mpp 208 rfl ?_)
    refine mt_getU (i := 32) (k := 4) (A := 289) hT dX6_perform_208 rfl rl_0 (by decide) rfl (by decide) rfl un_8 (mpp 211 rfl ?_)
    have g94 := ti_full (fv Po 289 4)
    refine mt_getI (i := 279) (k := 4) hT dX6_perform_211 rfl rl_289 (by decide) rfl (by decide) rfl (fun g95 g96 => mpp 214 rfl ?_)
    refine mt_callv (i := 303) (q' := q_56) (As := [.int (fv Po 289 4)]) (rest := []) hT dX6_perform_214 rfl qm_56 (by decide) rfl rl_0 (by decide) rfl (Nat.le_of_ble_eq_true rfl) rfl ⟨rfl, rfl⟩ ⟨Nat.le_of_ble_eq_true rfl, Nat.le_of_ble_eq_true rfl⟩ (EvP.mono (by decide) (c_F_unfold hT hX hJ )) (fun r97 P98 g99 => mpp 217 rfl ?_)
    obtain ⟨⟨x100, rfl, g101⟩, hT102, k103, J106, R104⟩ := g99
    have k105 : KW [10, 11, 12, 65, 66, 67, 192, 193, 194, 256, 320, 385, 386, 640, 641, 704, 768, 1985, 1987, 2048, 2112, 2113, 2114] Po P98 := KW.trans KW.refl k103 rfl
    have wx100 := ti_full x100
    replace g101 : KPX Po P98 ∧ unfoldC Po P98 x100.toInt (fv Po 289 4).toInt := g101
    show MEvP _ none q_107 217 [(0, .ref 0)] [.int x100] _ _ _ _
    exact mp_iret ⟨⟨_, rfl, trivial⟩, hT102, k105, J106, trivial⟩ dX6_perform_217 (Or.inl rfl)
  · refine mp_t (s_tabIn (t := 230) (off := 223) dX6_perform_7 (by omega) (by rw [c4]; rfl) (by decide)) ?_
    refine mp_a (a_sipush (v := -1002) dX6_perform_230 rfl) (mpp 233 rfl ?_)
    exact mp_iret ⟨⟨_, rfl, trivial⟩, hT, KW.refl, hJ, trivial⟩ dX6_perform_233 (Or.inl rfl)
  · refine mp_t (s_tabIn (t := 230) (off := 223) dX6_perform_7 (by omega) (by rw [c4]; rfl) (by decide)) ?_
    refine mp_a (a_sipush (v := -1002) dX6_perform_230 rfl) (mpp 233 rfl ?_)
    exact mp_iret ⟨⟨_, rfl, trivial⟩, hT, KW.refl, hJ, trivial⟩ dX6_perform_233 (Or.inl rfl)
  · refine mp_t (s_tabIn (t := 218) (off := 211) dX6_perform_7 (by omega) (by rw [c4]; rfl) (by decide)) ?_
    refine mp_a (a_aload_n dX6_perform_218 rfl) (mpp 219 rfl ?_)
    refine mp_a (a_aload_n dX6_perform_219 rfl) (mpp 220 rfl ?_)
    refine mt_getU (i := 32) (k := 4) (A := 289) hT dX6_perform_220 rfl rl_0 (by decide) rfl (by decide) rfl un_8 (mpp 223 rfl ?_)
    have g107 := ti_full (fv Po 289 4)
    refine mt_getI (i := 279) (k := 4) hT dX6_perform_223 rfl rl_289 (by decide) rfl (by decide) rfl (fun g108 g109 => mpp 226 rfl ?_)
    refine mt_callv (i := 306) (q' := q_57) (As := [.int (fv Po 289 4)]) (rest := []) hT dX6_perform_226 rfl qm_57 (by decide) rfl rl_0 (by decide) rfl (Nat.le_of_ble_eq_true rfl) rfl ⟨rfl, rfl⟩ ⟨Nat.le_of_ble_eq_true rfl, Nat.le_of_ble_eq_true rfl⟩ (EvP.mono (by decide) (c_F_drop hT hX hJ )) (fun r110 P111 g112 => mpp 229 rfl ?_)
    obtain ⟨⟨x113, rfl, g114⟩, hT115, k116, J119, R117⟩ := g112
    have k118 : KW [10, 11, 12, 65, 66, 67, 192, 193, 194, 256, 320, 385, 386, 640, 641, 704, 768, 1985, 1987, 2048, 2112, 2113, 2114] Po P111 := KW.trans KW.refl k116 rfl
    have wx113 := ti_full x113
    replace g114 : KPX Po P111 ∧ dropC Po P111 x113.toInt (fv Po 289 4).toInt := g114
    show MEvP _ none q_107 229 [(0, .ref 0)] [.int x113] _ _ _ _
    exact mp_iret ⟨⟨_, rfl, trivial⟩, hT115, k118, J119, trivial⟩ dX6_perform_229 (Or.inl rfl)

set_option maxHeartbeats 4000000 in
theorem c_F_read_l58 {Po : mP}  (hTo : Typ Po) (hX : XR Po) (hJo : Inj Po)  : ∀ (n : Nat) (v1 : Int32) (v2 : Int32) (v3 : Int32), ∀ (P : mP), Typ P → KW [9, 10, 11, 12, 65, 66, 67, 192, 193, 194, 256, 320, 385, 386, 387, 513, 514, 515, 516, 517, 518, 519, 640, 641, 704, 768, 1985, 1986, 1987, 2048, 2112, 2113, 2114] Po P → Inj P → (0 ≤ v2.toInt) → (2147483647 - v2.toInt).toNat = n → MEvP 6 none q_94 58 [(0, .ref 0), (1, .int v1), (2, .int v2), (3, .int v3)] [] P 0 0 (fun r P' => (∃ x : Int32, r = some (.int x) ∧ ((fv P' 289 1).toInt = 0)) ∧ Typ P' ∧ KW [9, 10, 11, 12, 65, 66, 67, 192, 193, 194, 256, 320, 385, 386, 387, 513, 514, 515, 516, 517, 518, 519, 640, 641, 704, 768, 1985, 1986, 1987, 2048, 2112, 2113, 2114] Po P' ∧ Inj P' ∧ True) := by
  intro n
  induction n using Nat.strongRecOn with | _ n ih => ?_
  intro v1 v2 v3 P hT hK hJ i_0 hm
  have w_v1 := ti_full v1
  have w_v2 := ti_full v2
  have w_v3 := ti_full v3
  refine mp_a (a_iload_n dX6_read_58 rfl) (mpp 59 rfl ?_)
  refine mp_a (a_bipush (v := 80) dX6_read_59 rfl) (mpp 61 rfl ?_)
  refine mp_Tb (t := 104) (j_icmp_ge dX6_read_61) (by decide) (fun c1 => ?_) (fun c1 => mpp 64 rfl ?_)
  · have c1 : v2.toInt ≥ 80 := ti_ge c1
    refine mp_a (a_aload_n dX6_read_104 rfl) (mpp 105 rfl ?_)
    refine mp_a (a_sipush (v := -1004) dX6_read_105 rfl) (mpp 108 rfl ?_)
    refine mt_putI (i := 57) (k := 9) (x := (-1004)) hT dX6_read_108 rfl rl_0 (by decide) rfl (by decide) rfl (by decide) rfl rfl (fun P2 hT3 f4 f5 f6 => mpp 111 rfl ?_)
    have k7 : KW [9, 10, 11, 12, 65, 66, 67, 192, 193, 194, 256, 320, 385, 386, 387, 513, 514, 515, 516, 517, 518, 519, 640, 641, 704, 768, 1985, 1986, 1987, 2048, 2112, 2113, 2114] Po P2 := KW.step hK rl_0 rfl f5 f6
    have J8 := Inj.st hJ f6
    have e9 : (fv P2 0 9).toInt = (-1004) := congrArg Int32.toInt f4
    refine mp_a (a_aload_n dX6_read_111 rfl) (mpp 112 rfl ?_)
    refine mt_getU (i := 25) (k := 3) (A := 79) hT3 dX6_read_112 rfl rl_0 (by decide) rfl (by decide) rfl un_6 (mpp 115 rfl ?_)
    refine mp_a (a_iconst (v := 0) dX6_read_115 rfl) (mpp 116 rfl ?_)
    refine mt_putI (i := 230) (k := 3) (x := 0) hT3 dX6_read_116 rfl rl_79 (by decide) rfl (by decide) rfl (by decide) rfl rfl (fun P10 hT11 f12 f13 f14 => mpp 119 rfl ?_)
    have k15 : KW [9, 10, 11, 12, 65, 66, 67, 192, 193, 194, 256, 320, 385, 386, 387, 513, 514, 515, 516, 517, 518, 519, 640, 641, 704, 768, 1985, 1986, 1987, 2048, 2112, 2113, 2114] Po P10 := KW.step k7 rl_79 rfl f13 f14
    have J16 := Inj.st J8 f14
    have e17 : (fv P10 79 3).toInt = 0 := congrArg Int32.toInt f12
    refine mp_a (a_aload_n dX6_read_119 rfl) (mpp 120 rfl ?_)
    refine mt_getU (i := 32) (k := 4) (A := 289) hT11 dX6_read_120 rfl rl_0 (by decide) rfl (by decide) rfl un_8 (mpp 123 rfl ?_)
    refine mt_callv (i := 225) (q' := q_106) (As := []) (rest := []) hT11 dX6_read_123 rfl qm_106 (by decide) rfl rl_289 (by decide) rfl (Nat.le_of_ble_eq_true rfl) rfl ⟨rfl, rfl⟩ ⟨Nat.le_of_ble_eq_true rfl, Nat.le_of_ble_eq_true rfl⟩ (EvP.mono (by decide) (c_CS_clear_Script hT11 (KW.xr k15 hX) )) (fun r18 P19 g20 => mpp 126 rfl ?_)
    obtain ⟨⟨rfl, g22⟩, hT23, k24, R25⟩ := g20
    have k26 : KW [9, 10, 11, 12, 65, 66, 67, 192, 193, 194, 256, 320, 385, 386, 387, 513, 514, 515, 516, 517, 518, 519, 640, 641, 704, 768, 1985, 1986, 1987, 2048, 2112, 2113, 2114] Po P19 := KW.trans k15 k24 rfl
    have J28 := Inj.kw J16 k24 rfl
    replace g22 : (fv P19 289 1).toInt = 0 := g22
    have g29 : (0 : Int) ≤ (fv P19 289 1).toInt ∧ (fv P19 289 1).toInt ≤ 80 := Typ.rng hT23 rl_289 (by decide) (by decide) rfl
    show MEvP _ none q_94 126 [(0, .ref 0), (1, .int v1), (2, .int v2), (3, .int v3)] [] _ _ _ _
    refine mp_a (a_iload_n dX6_read_126 rfl) (mpp 127 rfl ?_)
    refine mp_Tb (t := 158) (j_if_ge dX6_read_127) (by decide) (fun c30 => ?_) (fun c30 => mpp 130 rfl ?_)
    · have c30 : v3.toInt ≥ 0 := ti_ge c30
      refine mp_a (a_aload_n dX6_read_158 rfl) (mpp 159 rfl ?_)
      refine mt_getU (i := 25) (k := 3) (A := 79) hT23 dX6_read_159 rfl rl_0 (by decide) rfl (by decide) rfl un_6 (mpp 162 rfl ?_)
      refine mp_a (a_aload_n dX6_read_162 rfl) (mpp 163 rfl ?_)
      refine mt_getE (i := 16) (k := 1) hT23 dX6_read_163 rfl rl_0 (by decide) rfl (by decide) rfl (KW.xr k26 hX).2.2.2.1 (fun q31 => mpp 166 rfl ?_)
      have p32 : 27 + 26 ≤ 81 := by omega
      refine mt_callv (i := 72) (q' := q_15) (As := [.ref 27]) (rest := []) hT23 dX6_read_166 rfl qm_15 (by decide) rfl rl_79 (by decide) rfl (Nat.le_of_ble_eq_true rfl) rfl ⟨rfl, rfl⟩ ⟨Nat.le_of_ble_eq_true rfl, Nat.le_of_ble_eq_true rfl⟩ (EvP.mono (by decide) (c_CH_push_History_State hT23 (KW.xr k26 hX) J28 p32 q31)) (fun r33 P34 g35 => mpp 169 rfl ?_)
      obtain ⟨⟨rfl, g37⟩, hT38, k39, J42, R40⟩ := g35
      have k41 : KW [9, 10, 11, 12, 65, 66, 67, 192, 193, 194, 256, 320, 385, 386, 387, 513, 514, 515, 516, 517, 518, 519, 640, 641, 704, 768, 1985, 1986, 1987, 2048, 2112, 2113, 2114] Po P34 := KW.trans k26 k39 rfl
      show MEvP _ none q_94 169 [(0, .ref 0), (1, .int v1), (2, .int v2), (3, .int v3)] [] _ _ _ _
      refine mp_a (a_iload_n dX6_read_169 rfl) (mpp 170 rfl ?_)
      have e43 : (fv P34 289 1).toInt = (fv P19 289 1).toInt := congrArg Int32.toInt (KW.at k39 1 rl_289 rfl)
      have u44 : (fv P34 289 1).toInt = 0 := by omega
      exact mp_iret ⟨⟨_, rfl, u44⟩, hT38, k41, J42, trivial⟩ dX6_read_170 (Or.inl rfl)
    · have c30 : v3.toInt < 0 := ti_ge_n c30
      refine mp_a (a_aload_n dX6_read_130 rfl) (mpp 131 rfl ?_)
      refine mt_getU (i := 10) (k := 0) (A := 1) hT23 dX6_read_131 rfl rl_0 (by decide) rfl (by decide) rfl un_31 (mpp 134 rfl ?_)
      refine mp_a (a_aload_n dX6_read_134 rfl) (mpp 135 rfl ?_)
      refine mt_getE (i := 16) (k := 1) hT23 dX6_read_135 rfl rl_0 (by decide) rfl (by decide) rfl (KW.xr k26 hX).2.2.2.1 (fun q45 => mpp 138 rfl ?_)
      refine mt_callv (i := 228) (q' := q_17) (As := [.ref 27]) (rest := []) hT23 dX6_read_138 rfl qm_17 (by decide) rfl rl_1 (by decide) rfl (Nat.le_of_ble_eq_true rfl) rfl ⟨rfl, rfl⟩ ⟨Nat.le_of_ble_eq_true rfl, Nat.le_of_ble_eq_true rfl⟩ (EvP.mono (by decide) (c_CS_copyFrom_NState_State hT23 (KW.xr k26 hX) J28 q45)) (fun r46 P47 g48 => mpp 141 rfl ?_)
      obtain ⟨⟨rfl, g50⟩, hT51, k52, J55, R53⟩ := g48
      have k54 : KW [9, 10, 11, 12, 65, 66, 67, 192, 193, 194, 256, 320, 385, 386, 387, 513, 514, 515, 516, 517, 518, 519, 640, 641, 704, 768, 1985, 1986, 1987, 2048, 2112, 2113, 2114] Po P47 := KW.trans k26 k52 rfl
      show MEvP _ none q_94 141 [(0, .ref 0), (1, .int v1), (2, .int v2), (3, .int v3)] [] _ _ _ _
      refine mp_a (a_iload_n dX6_read_141 rfl) (mpp 142 rfl ?_)
      refine mp_a (a_sipush (v := -1003) dX6_read_142 rfl) (mpp 145 rfl ?_)
      refine mp_Tb (t := 154) (j_icmp_ne dX6_read_145) (by decide) (fun c56 => ?_) (fun c56 => mpp 148 rfl ?_)
      · have c56 : v3.toInt ≠ (-1003) := ti_ne c56
        refine mp_a (a_sipush (v := -1002) dX6_read_154 rfl) (mpp 157 rfl ?_)
        have e57 : (fv P47 289 1).toInt = (fv P19 289 1).toInt := congrArg Int32.toInt (KW.at k52 1 rl_289 rfl)
        have u58 : (fv P47 289 1).toInt = 0 := by omega
        exact mp_iret ⟨⟨_, rfl, u58⟩, hT51, k54, J55, trivial⟩ dX6_read_157 (Or.inl rfl)
      · have c56 : v3.toInt = (-1003) := ti_ne_n c56
        refine mp_a (a_sipush (v := -1003) dX6_read_148 rfl) (mpp 151 rfl ?_)
        refine mp_a (a_goto (t := 157) dX6_read_151 (by decide)) ?_
        have e59 : (fv P47 289 1).toInt = (fv P19 289 1).toInt := congrArg Int32.toInt (KW.at k52 1 rl_289 rfl)
        have u60 : (fv P47 289 1).toInt = 0 := by omega
        exact mp_iret ⟨⟨_, rfl, u60⟩, hT51, k54, J55, trivial⟩ dX6_read_157 (Or.inl rfl)
  · have c1 : v2.toInt < 80 := ti_ge_n c1
    refine mp_a (a_iload_n dX6_read_64 rfl) (mpp 65 rfl ?_)
    refine mp_Tb (t := 104) (j_if_lt dX6_read_65) (by decide) (fun c61 => ?_) (fun c61 => mpp 68 rfl ?_)
    · have c61 : v3.toInt < 0 := ti_lt c61
      refine mp_a (a_aload_n dX6_read_104 rfl) (mpp 105 rfl ?_)
      refine mp_a (a_sipush (v := -1004) dX6_read_105 rfl) (mpp 108 rfl ?_)
      refine mt_putI (i := 57) (k := 9) (x := (-1004)) hT dX6_read_108 rfl rl_0 (by decide) rfl (by decide) rfl (by decide) rfl rfl (fun P62 hT63 f64 f65 f66 => mpp 111 rfl ?_)
      have k67 : KW [9, 10, 11, 12, 65, 66, 67, 192, 193, 194, 256, 320, 385, 386, 387, 513, 514, 515, 516, 517, 518, 519, 640, 641, 704, 768, 1985, 1986, 1987, 2048, 2112, 2113, 2114] Po P62 := KW.step hK rl_0 rfl f65 f66
      have J68 := Inj.st hJ f66
      have e69 : (fv P62 0 9).toInt = (-1004) := congrArg Int32.toInt f64
      refine mp_a (a_aload_n dX6_read_111 rfl) (mpp 112 rfl ?_)
      refine mt_getU (i := 25) (k := 3) (A := 79) hT63 dX6_read_112 rfl rl_0 (by decide) rfl (by decide) rfl un_6 (mpp 115 rfl ?_)
      refine mp_a (a_iconst (v := 0) dX6_read_115 rfl) (mpp 116 rfl ?_)
      refine mt_putI (i := 230) (k := 3) (x := 0) hT63 dX6_read_116 rfl rl_79 (by decide) rfl (by decide) rfl (by decide) rfl rfl (fun P70 hT71 f72 f73 f74 => mpp 119 rfl ?_)
      have k75 : KW [9, 10, 11, 12, 65, 66, 67, 192, 193, 194, 256, 320, 385, 386, 387, 513, 514, 515, 516, 517, 518, 519, 640, 641, 704, 768, 1985, 1986, 1987, 2048, 2112, 2113, 2114] Po P70 := KW.step k67 rl_79 rfl f73 f74
      have J76 := Inj.st J68 f74
      have e77 : (fv P70 79 3).toInt = 0 := congrArg Int32.toInt f72
      refine mp_a (a_aload_n dX6_read_119 rfl) (mpp 120 rfl ?_)
      refine mt_getU (i := 32) (k := 4) (A := 289) hT71 dX6_read_120 rfl rl_0 (by decide) rfl (by decide) rfl un_8 (mpp 123 rfl ?_)
      refine mt_callv (i := 225) (q' := q_106) (As := []) (rest := []) hT71 dX6_read_123 rfl qm_106 (by decide) rfl rl_289 (by decide) rfl (Nat.le_of_ble_eq_true rfl) rfl ⟨rfl, rfl⟩ ⟨Nat.le_of_ble_eq_true rfl, Nat.le_of_ble_eq_true rfl⟩ (EvP.mono (by decide) (c_CS_clear_Script hT71 (KW.xr k75 hX) )) (fun r78 P79 g80 => mpp 126 rfl ?_)
      obtain ⟨⟨rfl, g82⟩, hT83, k84, R85⟩ := g80
      have k86 : KW [9, 10, 11, 12, 65, 66, 67, 192, 193, 194, 256, 320, 385, 386, 387, 513, 514, 515, 516, 517, 518, 519, 640, 641, 704, 768, 1985, 1986, 1987, 2048, 2112, 2113, 2114] Po P79 := KW.trans k75 k84 rfl
      have J88 := Inj.kw J76 k84 rfl
      replace g82 : (fv P79 289 1).toInt = 0 := g82
      have g89 : (0 : Int) ≤ (fv P79 289 1).toInt ∧ (fv P79 289 1).toInt ≤ 80 := Typ.rng hT83 rl_289 (by decide) (by decide) rfl
      show MEvP _ none q_94 126 [(0, .ref 0), (1, .int v1), (2, .int v2), (3, .int v3)] [] _ _ _ _
      refine mp_a (a_iload_n dX6_read_126 rfl) (mpp 127 rfl ?_)
      refine mp_Tb (t := 158) (j_if_ge dX6_read_127) (by decide) (fun c90 => ?_) (fun c90 => mpp 130 rfl ?_)
      · have c90 : v3.toInt ≥ 0 := ti_ge c90
        refine mp_a (a_aload_n dX6_read_158 rfl) (mpp 159 rfl ?_)
        refine mt_getU (i := 25) (k := 3) (A := 79) hT83 dX6_read_159 rfl rl_0 (by decide) rfl (by decide) rfl un_6 (mpp 162 rfl ?_)
        refine mp_a (a_aload_n dX6_read_162 rfl) (mpp 163 rfl ?_)
        refine mt_getE (i := 16) (k := 1) hT83 dX6_read_163 rfl rl_0 (by decide) rfl (by decide) rfl (KW.xr k86 hX).2.2.2.1 (fun q91 => mpp 166 rfl ?_)
        have p92 : 27 + 26 ≤ 81 := by omega
        refine mt_callv (i := 72) (q' := q_15) (As := [.ref 27]) (rest := []) hT83 dX6_read_166 rfl qm_15 (by decide) rfl rl_79 (by decide) rfl (Nat.le_of_ble_eq_true rfl) rfl ⟨rfl, rfl⟩ ⟨Nat.le_of_ble_eq_true rfl, Nat.le_of_ble_eq_true rfl⟩ (EvP.mono (by decide) (c_CH_push_History_State hT83 (KW.xr k86 hX) J88 p92 q91)) (fun r93 P94 g95 => mpp 169 rfl ?_)
        obtain ⟨⟨rfl, g97⟩, hT98, k99, J102, R100⟩ := g95
        have k101 : KW [9, 10, 11, 12, 65, 66, 67, 192, 193, 194, 256, 320, 385, 386, 387, 513, 514, 515, 516, 517, 518, 519, 640, 641, 704, 768, 1985, 1986, 1987, 2048, 2112, 2113, 2114] Po P94 := KW.trans k86 k99 rfl
        show MEvP _ none q_94 169 [(0, .ref 0), (1, .int v1), (2, .int v2), (3, .int v3)] [] _ _ _ _
        refine mp_a (a_iload_n dX6_read_169 rfl) (mpp 170 rfl ?_)
        have e103 : (fv P94 289 1).toInt = (fv P79 289 1).toInt := congrArg Int32.toInt (KW.at k99 1 rl_289 rfl)
        have u104 : (fv P94 289 1).toInt = 0 := by omega
        exact mp_iret ⟨⟨_, rfl, u104⟩, hT98, k101, J102, trivial⟩ dX6_read_170 (Or.inl rfl)
      · have c90 : v3.toInt < 0 := ti_ge_n c90
        refine mp_a (a_aload_n dX6_read_130 rfl) (mpp 131 rfl ?_)
        refine mt_getU (i := 10) (k := 0) (A := 1) hT83 dX6_read_131 rfl rl_0 (by decide) rfl (by decide) rfl un_31 (mpp 134 rfl ?_)
        refine mp_a (a_aload_n dX6_read_134 rfl) (mpp 135 rfl ?_)
        refine mt_getE (i := 16) (k := 1) hT83 dX6_read_135 rfl rl_0 (by decide) rfl (by decide) rfl (KW.xr k86 hX).2.2.2.1 (fun q105 => mpp 138 rfl ?_)
        refine mt_callv (i := 228) (q' := q_17) (As := [.ref 27]) (rest := []) hT83 dX6_read_138 rfl qm_17 (by decide) rfl rl_1 (by decide) rfl (Nat.le_of_ble_eq_true rfl) rfl ⟨rfl, rfl⟩ ⟨Nat.le_of_ble_eq_true rfl, Nat.le_of_ble_eq_true rfl⟩ (EvP.mono (by decide) (c_CS_copyFrom_NState_State hT83 (KW.xr k86 hX) J88 q105)) (fun r106 P107 g108 => mpp 141 rfl ?_)
        obtain ⟨⟨rfl, g110⟩, hT111, k112, J115, R113⟩ := g108
        have k114 : KW [9, 10, 11, 12, 65, 66, 67, 192, 193, 194, 256, 320, 385, 386, 387, 513, 514, 515, 516, 517, 518, 519, 640, 641, 704, 768, 1985, 1986, 1987, 2048, 2112, 2113, 2114] Po P107 := KW.trans k86 k112 rfl
        show MEvP _ none q_94 141 [(0, .ref 0), (1, .int v1), (2, .int v2), (3, .int v3)] [] _ _ _ _
        refine mp_a (a_iload_n dX6_read_141 rfl) (mpp 142 rfl ?_)
        refine mp_a (a_sipush (v := -1003) dX6_read_142 rfl) (mpp 145 rfl ?_)
        refine mp_Tb (t := 154) (j_icmp_ne dX6_read_145) (by decide) (fun c116 => ?_) (fun c116 => mpp 148 rfl ?_)
        · have c116 : v3.toInt ≠ (-1003) := ti_ne c116
          refine mp_a (a_sipush (v := -1002) dX6_read_154 rfl) (mpp 157 rfl ?_)
          have e117 : (fv P107 289 1).toInt = (fv P79 289 1).toInt := congrArg Int32.toInt (KW.at k112 1 rl_289 rfl)
          have u118 : (fv P107 289 1).toInt = 0 := by omega
          exact mp_iret ⟨⟨_, rfl, u118⟩, hT111, k114, J115, trivial⟩ dX6_read_157 (Or.inl rfl)
        · have c116 : v3.toInt = (-1003) := ti_ne_n c116
          refine mp_a (a_sipush (v := -1003) dX6_read_148 rfl) (mpp 151 rfl ?_)
          refine mp_a (a_goto (t := 157) dX6_read_151 (by decide)) ?_
          have e119 : (fv P107 289 1).toInt = (fv P79 289 1).toInt := congrArg Int32.toInt (KW.at k112 1 rl_289 rfl)
          have u120 : (fv P107 289 1).toInt = 0 := by omega
          exact mp_iret ⟨⟨_, rfl, u120⟩, hT111, k114, J115, trivial⟩ dX6_read_157 (Or.inl rfl)
    · have c61 : v3.toInt ≥ 0 := ti_lt_n c61
      refine mp_a (a_aload_n dX6_read_68 rfl) (mpp 69 rfl ?_)
      refine mt_getU (i := 32) (k := 4) (A := 289) hT dX6_read_69 rfl rl_0 (by decide) rfl (by decide) rfl un_8 (mpp 72 rfl ?_)
      have g121 := ti_full (fv P 289 2)
      have p122 : 0 ≤ (fv P 289 2).toInt := by omega
      refine mt_callv (i := 236) (q' := q_97) (As := []) (rest := []) hT dX6_read_72 rfl qm_97 (by decide) rfl rl_289 (by decide) rfl (Nat.le_of_ble_eq_true rfl) rfl ⟨rfl, rfl⟩ ⟨Nat.le_of_ble_eq_true rfl, Nat.le_of_ble_eq_true rfl⟩ (EvP.mono (by decide) (c_CS_takeCommand_Script hT (KW.xr hK hX) p122 )) (fun r123 P124 g125 => mpp 75 rfl ?_)
      obtain ⟨⟨x126, rfl, g127⟩, hT128, k129, R130⟩ := g125
      have k131 : KW [9, 10, 11, 12, 65, 66, 67, 192, 193, 194, 256, 320, 385, 386, 387, 513, 514, 515, 516, 517, 518, 519, 640, 641, 704, 768, 1985, 1986, 1987, 2048, 2112, 2113, 2114] Po P124 := KW.trans hK k129 rfl
      have J133 := Inj.kw hJ k129 rfl
      have wx126 := ti_full x126
      replace g127 : 0 ≤ x126.toInt ∧ x126.toInt ≤ 1 ∧ ((x126.toInt = 1 ∧ CMD (chC P) (fv P 289 2).toInt (fv P124 289 2).toInt (fv P124 289 3).toInt (fv P124 289 4).toInt (fv P124 289 5).toInt (fv P124 289 6).toInt (fv P124 289 7).toInt) ∨ (x126.toInt = 0 ∧ ¬ CMO (chC P) (fv P 289 2).toInt)) := g127
      have g134 := ti_full (fv P124 289 2)
      have g135 := ti_full (fv P124 289 3)
      have g136 := ti_full (fv P124 289 4)
      have g137 := ti_full (fv P124 289 5)
      have g138 := ti_full (fv P124 289 6)
      have g139 := ti_full (fv P124 289 7)
      show MEvP _ none q_94 75 [(0, .ref 0), (1, .int v1), (2, .int v2), (3, .int v3)] [.int x126] _ _ _ _
      refine mp_Tb (t := 104) (j_if_eq dX6_read_75) (by decide) (fun c140 => ?_) (fun c140 => mpp 78 rfl ?_)
      · have c140 : x126.toInt = 0 := ti_eq c140
        refine mp_a (a_aload_n dX6_read_104 rfl) (mpp 105 rfl ?_)
        refine mp_a (a_sipush (v := -1004) dX6_read_105 rfl) (mpp 108 rfl ?_)
        refine mt_putI (i := 57) (k := 9) (x := (-1004)) hT128 dX6_read_108 rfl rl_0 (by decide) rfl (by decide) rfl (by decide) rfl rfl (fun P141 hT142 f143 f144 f145 => mpp 111 rfl ?_)
        have k146 : KW [9, 10, 11, 12, 65, 66, 67, 192, 193, 194, 256, 320, 385, 386, 387, 513, 514, 515, 516, 517, 518, 519, 640, 641, 704, 768, 1985, 1986, 1987, 2048, 2112, 2113, 2114] Po P141 := KW.step k131 rl_0 rfl f144 f145
        have J147 := Inj.st J133 f145
        have e148 : (fv P141 0 9).toInt = (-1004) := congrArg Int32.toInt f143
        refine mp_a (a_aload_n dX6_read_111 rfl) (mpp 112 rfl ?_)
        refine mt_getU (i := 25) (k := 3) (A := 79) hT142 dX6_read_112 rfl rl_0 (by decide) rfl (by decide) rfl un_6 (mpp 115 rfl ?_)
        refine mp_a (a_iconst (v := 0) dX6_read_115 rfl) (mpp 116 rfl ?_)
        refine mt_putI (i := 230) (k := 3) (x := 0) hT142 dX6_read_116 rfl rl_79 (by decide) rfl (by decide) rfl (by decide) rfl rfl (fun P149 hT150 f151 f152 f153 => mpp 119 rfl ?_)
        have k154 : KW [9, 10, 11, 12, 65, 66, 67, 192, 193, 194, 256, 320, 385, 386, 387, 513, 514, 515, 516, 517, 518, 519, 640, 641, 704, 768, 1985, 1986, 1987, 2048, 2112, 2113, 2114] Po P149 := KW.step k146 rl_79 rfl f152 f153
        have J155 := Inj.st J147 f153
        have e156 : (fv P149 79 3).toInt = 0 := congrArg Int32.toInt f151
        refine mp_a (a_aload_n dX6_read_119 rfl) (mpp 120 rfl ?_)
        refine mt_getU (i := 32) (k := 4) (A := 289) hT150 dX6_read_120 rfl rl_0 (by decide) rfl (by decide) rfl un_8 (mpp 123 rfl ?_)
        refine mt_callv (i := 225) (q' := q_106) (As := []) (rest := []) hT150 dX6_read_123 rfl qm_106 (by decide) rfl rl_289 (by decide) rfl (Nat.le_of_ble_eq_true rfl) rfl ⟨rfl, rfl⟩ ⟨Nat.le_of_ble_eq_true rfl, Nat.le_of_ble_eq_true rfl⟩ (EvP.mono (by decide) (c_CS_clear_Script hT150 (KW.xr k154 hX) )) (fun r157 P158 g159 => mpp 126 rfl ?_)
        obtain ⟨⟨rfl, g161⟩, hT162, k163, R164⟩ := g159
        have k165 : KW [9, 10, 11, 12, 65, 66, 67, 192, 193, 194, 256, 320, 385, 386, 387, 513, 514, 515, 516, 517, 518, 519, 640, 641, 704, 768, 1985, 1986, 1987, 2048, 2112, 2113, 2114] Po P158 := KW.trans k154 k163 rfl
        have J167 := Inj.kw J155 k163 rfl
        replace g161 : (fv P158 289 1).toInt = 0 := g161
        have g168 : (0 : Int) ≤ (fv P158 289 1).toInt ∧ (fv P158 289 1).toInt ≤ 80 := Typ.rng hT162 rl_289 (by decide) (by decide) rfl
        show MEvP _ none q_94 126 [(0, .ref 0), (1, .int v1), (2, .int v2), (3, .int v3)] [] _ _ _ _
        refine mp_a (a_iload_n dX6_read_126 rfl) (mpp 127 rfl ?_)
        refine mp_Tb (t := 158) (j_if_ge dX6_read_127) (by decide) (fun c169 => ?_) (fun c169 => mpp 130 rfl ?_)
        · have c169 : v3.toInt ≥ 0 := ti_ge c169
          refine mp_a (a_aload_n dX6_read_158 rfl) (mpp 159 rfl ?_)
          refine mt_getU (i := 25) (k := 3) (A := 79) hT162 dX6_read_159 rfl rl_0 (by decide) rfl (by decide) rfl un_6 (mpp 162 rfl ?_)
          refine mp_a (a_aload_n dX6_read_162 rfl) (mpp 163 rfl ?_)
          refine mt_getE (i := 16) (k := 1) hT162 dX6_read_163 rfl rl_0 (by decide) rfl (by decide) rfl (KW.xr k165 hX).2.2.2.1 (fun q170 => mpp 166 rfl ?_)
          have p171 : 27 + 26 ≤ 81 := by omega
          refine mt_callv (i := 72) (q' := q_15) (As := [.ref 27]) (rest := []) hT162 dX6_read_166 rfl qm_15 (by decide) rfl rl_79 (by decide) rfl (Nat.le_of_ble_eq_true rfl) rfl ⟨rfl, rfl⟩ ⟨Nat.le_of_ble_eq_true rfl, Nat.le_of_ble_eq_true rfl⟩ (EvP.mono (by decide) (c_CH_push_History_State hT162 (KW.xr k165 hX) J167 p171 q170)) (fun r172 P173 g174 => mpp 169 rfl ?_)
          obtain ⟨⟨rfl, g176⟩, hT177, k178, J181, R179⟩ := g174
          have k180 : KW [9, 10, 11, 12, 65, 66, 67, 192, 193, 194, 256, 320, 385, 386, 387, 513, 514, 515, 516, 517, 518, 519, 640, 641, 704, 768, 1985, 1986, 1987, 2048, 2112, 2113, 2114] Po P173 := KW.trans k165 k178 rfl
          show MEvP _ none q_94 169 [(0, .ref 0), (1, .int v1), (2, .int v2), (3, .int v3)] [] _ _ _ _
          refine mp_a (a_iload_n dX6_read_169 rfl) (mpp 170 rfl ?_)
          have e182 : (fv P173 289 1).toInt = (fv P158 289 1).toInt := congrArg Int32.toInt (KW.at k178 1 rl_289 rfl)
          have u183 : (fv P173 289 1).toInt = 0 := by omega
          exact mp_iret ⟨⟨_, rfl, u183⟩, hT177, k180, J181, trivial⟩ dX6_read_170 (Or.inl rfl)
        · have c169 : v3.toInt < 0 := ti_ge_n c169
          refine mp_a (a_aload_n dX6_read_130 rfl) (mpp 131 rfl ?_)
          refine mt_getU (i := 10) (k := 0) (A := 1) hT162 dX6_read_131 rfl rl_0 (by decide) rfl (by decide) rfl un_31 (mpp 134 rfl ?_)
          refine mp_a (a_aload_n dX6_read_134 rfl) (mpp 135 rfl ?_)
          refine mt_getE (i := 16) (k := 1) hT162 dX6_read_135 rfl rl_0 (by decide) rfl (by decide) rfl (KW.xr k165 hX).2.2.2.1 (fun q184 => mpp 138 rfl ?_)
          refine mt_callv (i := 228) (q' := q_17) (As := [.ref 27]) (rest := []) hT162 dX6_read_138 rfl qm_17 (by decide) rfl rl_1 (by decide) rfl (Nat.le_of_ble_eq_true rfl) rfl ⟨rfl, rfl⟩ ⟨Nat.le_of_ble_eq_true rfl, Nat.le_of_ble_eq_true rfl⟩ (EvP.mono (by decide) (c_CS_copyFrom_NState_State hT162 (KW.xr k165 hX) J167 q184)) (fun r185 P186 g187 => mpp 141 rfl ?_)
          obtain ⟨⟨rfl, g189⟩, hT190, k191, J194, R192⟩ := g187
          have k193 : KW [9, 10, 11, 12, 65, 66, 67, 192, 193, 194, 256, 320, 385, 386, 387, 513, 514, 515, 516, 517, 518, 519, 640, 641, 704, 768, 1985, 1986, 1987, 2048, 2112, 2113, 2114] Po P186 := KW.trans k165 k191 rfl
          show MEvP _ none q_94 141 [(0, .ref 0), (1, .int v1), (2, .int v2), (3, .int v3)] [] _ _ _ _
          refine mp_a (a_iload_n dX6_read_141 rfl) (mpp 142 rfl ?_)
          refine mp_a (a_sipush (v := -1003) dX6_read_142 rfl) (mpp 145 rfl ?_)
          refine mp_Tb (t := 154) (j_icmp_ne dX6_read_145) (by decide) (fun c195 => ?_) (fun c195 => mpp 148 rfl ?_)
          · have c195 : v3.toInt ≠ (-1003) := ti_ne c195
            refine mp_a (a_sipush (v := -1002) dX6_read_154 rfl) (mpp 157 rfl ?_)
            have e196 : (fv P186 289 1).toInt = (fv P158 289 1).toInt := congrArg Int32.toInt (KW.at k191 1 rl_289 rfl)
            have u197 : (fv P186 289 1).toInt = 0 := by omega
            exact mp_iret ⟨⟨_, rfl, u197⟩, hT190, k193, J194, trivial⟩ dX6_read_157 (Or.inl rfl)
          · have c195 : v3.toInt = (-1003) := ti_ne_n c195
            refine mp_a (a_sipush (v := -1003) dX6_read_148 rfl) (mpp 151 rfl ?_)
            refine mp_a (a_goto (t := 157) dX6_read_151 (by decide)) ?_
            have e198 : (fv P186 289 1).toInt = (fv P158 289 1).toInt := congrArg Int32.toInt (KW.at k191 1 rl_289 rfl)
            have u199 : (fv P186 289 1).toInt = 0 := by omega
            exact mp_iret ⟨⟨_, rfl, u199⟩, hT190, k193, J194, trivial⟩ dX6_read_157 (Or.inl rfl)
      · have c140 : x126.toInt ≠ 0 := ti_eq_n c140
        refine mp_a (a_aload_n dX6_read_78 rfl) (mpp 79 rfl ?_)
        refine mp_a (a_iload_n dX6_read_79 rfl) (mpp 80 rfl ?_)
        refine mt_putI (i := 57) (k := 9) (x := v2) hT128 dX6_read_80 rfl rl_0 (by decide) rfl (by decide) rfl (ti_full v2) rfl rfl (fun P200 hT201 f202 f203 f204 => mpp 83 rfl ?_)
        have k205 : KW [9, 10, 11, 12, 65, 66, 67, 192, 193, 194, 256, 320, 385, 386, 387, 513, 514, 515, 516, 517, 518, 519, 640, 641, 704, 768, 1985, 1986, 1987, 2048, 2112, 2113, 2114] Po P200 := KW.step k131 rl_0 rfl f203 f204
        have J206 := Inj.st J133 f204
        have e207 : (fv P200 0 9).toInt = v2.toInt := congrArg Int32.toInt f202
        refine mp_a (a_aload_n dX6_read_83 rfl) (mpp 84 rfl ?_)
        refine mt_callv (i := 239) (q' := q_107) (As := []) (rest := []) hT201 dX6_read_84 rfl qm_107 (by decide) rfl rl_0 (by decide) rfl (Nat.le_of_ble_eq_true rfl) rfl ⟨rfl, rfl⟩ ⟨Nat.le_of_ble_eq_true rfl, Nat.le_of_ble_eq_true rfl⟩ (EvP.mono (by decide) (c_F_perform hT201 (KW.xr k205 hX) J206 )) (fun r208 P209 g210 => mpp 87 rfl ?_)
        obtain ⟨⟨x211, rfl, g212⟩, hT213, k214, J217, R215⟩ := g210
        have k216 : KW [9, 10, 11, 12, 65, 66, 67, 192, 193, 194, 256, 320, 385, 386, 387, 513, 514, 515, 516, 517, 518, 519, 640, 641, 704, 768, 1985, 1986, 1987, 2048, 2112, 2113, 2114] Po P209 := KW.trans k205 k214 rfl
        have wx211 := ti_full x211
        show MEvP _ none q_94 87 [(0, .ref 0), (1, .int v1), (2, .int v2), (3, .int v3)] [.int x211] _ _ _ _
        refine mp_a (a_istore_n (L' := [(3, .int x211), (0, .ref 0), (1, .int v1), (2, .int v2)]) dX6_read_87 (by decide) rfl) (mpp 88 rfl ?_)
        obtain ⟨z218, h219⟩ := ti_ex (v2 + 1 : Int32)
        have wz218 := ti_full z218
        refine mp_a (a_iinc (v := z218) (L' := [(2, .int z218), (3, .int x211), (0, .ref 0), (1, .int v1)]) dX6_read_88 (by decide) rfl h219 rfl) (mpp 91 rfl ?_)
        try have e220 : z218.toInt = v2.toInt + 1 := ti_addz h219 rfl rfl (by omega) (by omega)
        refine mp_a (a_aload_n dX6_read_91 rfl) (mpp 92 rfl ?_)
        refine mt_getU (i := 32) (k := 4) (A := 289) hT213 dX6_read_92 rfl rl_0 (by decide) rfl (by decide) rfl un_8 (mpp 95 rfl ?_)
        refine mp_a (a_bipush (v := 59) dX6_read_95 rfl) (mpp 97 rfl ?_)
        have e221 : (fv P209 289 2).toInt = (fv P124 289 2).toInt := congrArg Int32.toInt ((KW.at k214 2 rl_289 rfl).trans (f203 289 2 (ne_r rl_289 rl_0 rfl)))
        have p222 : 0 ≤ (fv P209 289 2).toInt := by omega
        have p223 : 1 ≤ (59 : Int) := by omega
        refine mt_callv (i := 242) (q' := q_100) (As := [.int 59]) (rest := []) hT213 dX6_read_97 rfl qm_100 (by decide) rfl rl_289 (by decide) rfl (Nat.le_of_ble_eq_true rfl) rfl ⟨rfl, rfl⟩ ⟨Nat.le_of_ble_eq_true rfl, Nat.le_of_ble_eq_true rfl⟩ (EvP.mono (by decide) (c_CS_takeSign_Script hT213 (KW.xr k216 hX) p222 p223 )) (fun r224 P225 g226 => mpp 100 rfl ?_)
        obtain ⟨⟨x227, rfl, g228⟩, hT229, k230, R231⟩ := g226
        have k232 : KW [9, 10, 11, 12, 65, 66, 67, 192, 193, 194, 256, 320, 385, 386, 387, 513, 514, 515, 516, 517, 518, 519, 640, 641, 704, 768, 1985, 1986, 1987, 2048, 2112, 2113, 2114] Po P225 := KW.trans k216 k230 rfl
        have J234 := Inj.kw J217 k230 rfl
        have wx227 := ti_full x227
        replace g228 : 0 ≤ x227.toInt ∧ x227.toInt ≤ 1 ∧ ((x227.toInt = 1 ∧ (chC P209 (fv P209 289 2).toInt).toInt = (59 : Int) ∧ (fv P225 289 2).toInt = (fv P209 289 2).toInt + 1) ∨ (x227.toInt = 0 ∧ ¬ (chC P209 (fv P209 289 2).toInt).toInt = (59 : Int) ∧ (fv P225 289 2).toInt = (fv P209 289 2).toInt)) := g228
        have g235 := ti_full (fv P225 289 2)
        have g236 := ti_full (fv P225 289 2)
        show MEvP _ none q_94 100 [(2, .int z218), (3, .int x211), (0, .ref 0), (1, .int v1)] [.int x227] _ _ _ _
        refine mp_t (s_pop dX6_read_100 rfl) (mpp 101 rfl ?_)
        refine mp_a (a_goto (t := 58) dX6_read_101 (by decide)) ?_
        refine MEvP.less (L := [(0, .ref 0), (1, .int v1), (2, .int z218), (3, .int x211)]) rfl rfl ⟨rfl, rfl, rfl, rfl, trivial⟩ ?_
        have i237 : 0 ≤ z218.toInt := by omega
        exact ih _ (by omega) _ _ _ P225 hT229 k232 J234 i237 rfl

set_option maxHeartbeats 4000000 in
theorem c_F_read {Po : mP}  (hT : Typ Po) (hX : XR Po)  (hJ : Inj Po)  : EvP 7 94 [.ref 0] Po (fun r P' => (∃ x : Int32, r = some (.int x) ∧ ((fv P' 289 1).toInt = 0)) ∧ Typ P' ∧ KW [9, 10, 11, 12, 65, 66, 67, 192, 193, 194, 256, 320, 385, 386, 387, 513, 514, 515, 516, 517, 518, 519, 640, 641, 704, 768, 1985, 1986, 1987, 2048, 2112, 2113, 2114] Po P' ∧ Inj P' ∧ True) := by
  refine EvP.of qm_94 (Nat.le_of_ble_eq_true rfl) rfl ?_
  show MEvP _ none q_94 0 [(0, .ref 0)] [] _ 0 0 _
  refine mp_a (a_aload_n dX6_read_0 rfl) (mpp 1 rfl ?_)
  refine mt_getU (i := 32) (k := 4) (A := 289) hT dX6_read_1 rfl rl_0 (by decide) rfl (by decide) rfl un_8 (mpp 4 rfl ?_)
  refine mt_callv (i := 222) (q' := q_95) (As := []) (rest := []) hT dX6_read_4 rfl qm_95 (by decide) rfl rl_289 (by decide) rfl (Nat.le_of_ble_eq_true rfl) rfl ⟨rfl, rfl⟩ ⟨Nat.le_of_ble_eq_true rfl, Nat.le_of_ble_eq_true rfl⟩ (EvP.mono (by decide) (c_CS_faultPosition_Script hT hX )) (fun r1 P2 g3 => mpp 7 rfl ?_)
  obtain ⟨⟨x4, rfl, g5⟩, hT6, k7, R8⟩ := g3
  have k9 : KW [9, 10, 11, 12, 65, 66, 67, 192, 193, 194, 256, 320, 385, 386, 387, 513, 514, 515, 516, 517, 518, 519, 640, 641, 704, 768, 1985, 1986, 1987, 2048, 2112, 2113, 2114] Po P2 := KW.trans KW.refl k7 rfl
  have J11 := Inj.kw hJ k7 rfl
  have wx4 := ti_full x4
  show MEvP _ none q_94 7 [(0, .ref 0)] [.int x4] _ _ _ _
  refine mp_a (a_istore_n (L' := [(1, .int x4), (0, .ref 0)]) dX6_read_7 (by decide) rfl) (mpp 8 rfl ?_)
  refine mp_a (a_iload_n dX6_read_8 rfl) (mpp 9 rfl ?_)
  refine mp_a (a_sipush (v := -1004) dX6_read_9 rfl) (mpp 12 rfl ?_)
  refine mp_Tb (t := 28) (j_icmp_eq dX6_read_12) (by decide) (fun c12 => ?_) (fun c12 => mpp 15 rfl ?_)
  · have c12 : x4.toInt = (-1004) := ti_eq c12
    refine mp_a (a_aload_n dX6_read_28 rfl) (mpp 29 rfl ?_)
    refine mt_getE (i := 16) (k := 1) hT6 dX6_read_29 rfl rl_0 (by decide) rfl (by decide) rfl (KW.xr k9 hX).2.2.2.1 (fun q13 => mpp 32 rfl ?_)
    refine mp_a (a_aload_n dX6_read_32 rfl) (mpp 33 rfl ?_)
    refine mt_getU (i := 10) (k := 0) (A := 1) hT6 dX6_read_33 rfl rl_0 (by decide) rfl (by decide) rfl un_31 (mpp 36 rfl ?_)
    refine mt_callv (i := 228) (q' := q_17) (As := [.ref 1]) (rest := []) hT6 dX6_read_36 rfl qm_17 (by decide) rfl q13 (by decide) rfl (Nat.le_of_ble_eq_true rfl) rfl ⟨rfl, rfl⟩ ⟨Nat.le_of_ble_eq_true rfl, Nat.le_of_ble_eq_true rfl⟩ (EvP.mono (by decide) (c_CS_copyFrom_State_NState hT6 (KW.xr k9 hX) J11 q13)) (fun r14 P15 g16 => mpp 39 rfl ?_)
    obtain ⟨⟨rfl, g18⟩, hT19, k20, J23, R21⟩ := g16
    have k22 : KW [9, 10, 11, 12, 65, 66, 67, 192, 193, 194, 256, 320, 385, 386, 387, 513, 514, 515, 516, 517, 518, 519, 640, 641, 704, 768, 1985, 1986, 1987, 2048, 2112, 2113, 2114] Po P15 := KW.trans k9 k20 rfl
    show MEvP _ none q_94 39 [(1, .int x4), (0, .ref 0)] [] _ _ _ _
    refine mp_a (a_aload_n dX6_read_39 rfl) (mpp 40 rfl ?_)
    refine mt_getU (i := 25) (k := 3) (A := 79) hT19 dX6_read_40 rfl rl_0 (by decide) rfl (by decide) rfl un_6 (mpp 43 rfl ?_)
    refine mp_a (a_iconst (v := 1) dX6_read_43 rfl) (mpp 44 rfl ?_)
    refine mt_putI (i := 230) (k := 3) (x := 1) hT19 dX6_read_44 rfl rl_79 (by decide) rfl (by decide) rfl (by decide) rfl rfl (fun P24 hT25 f26 f27 f28 => mpp 47 rfl ?_)
    have k29 : KW [9, 10, 11, 12, 65, 66, 67, 192, 193, 194, 256, 320, 385, 386, 387, 513, 514, 515, 516, 517, 518, 519, 640, 641, 704, 768, 1985, 1986, 1987, 2048, 2112, 2113, 2114] Po P24 := KW.step k22 rl_79 rfl f27 f28
    have J30 := Inj.st J23 f28
    have e31 : (fv P24 79 3).toInt = 1 := congrArg Int32.toInt f26
    refine mp_a (a_aload_n dX6_read_47 rfl) (mpp 48 rfl ?_)
    refine mt_getU (i := 32) (k := 4) (A := 289) hT25 dX6_read_48 rfl rl_0 (by decide) rfl (by decide) rfl un_8 (mpp 51 rfl ?_)
    refine mt_callv (i := 233) (q' := q_96) (As := []) (rest := []) hT25 dX6_read_51 rfl qm_96 (by decide) rfl rl_289 (by decide) rfl (Nat.le_of_ble_eq_true rfl) rfl ⟨rfl, rfl⟩ ⟨Nat.le_of_ble_eq_true rfl, Nat.le_of_ble_eq_true rfl⟩ (EvP.mono (by decide) (c_CS_rewind_Script hT25 (KW.xr k29 hX) )) (fun r32 P33 g34 => mpp 54 rfl ?_)
    obtain ⟨⟨rfl, g36⟩, hT37, k38, R39⟩ := g34
    have k40 : KW [9, 10, 11, 12, 65, 66, 67, 192, 193, 194, 256, 320, 385, 386, 387, 513, 514, 515, 516, 517, 518, 519, 640, 641, 704, 768, 1985, 1986, 1987, 2048, 2112, 2113, 2114] Po P33 := KW.trans k29 k38 rfl
    have J42 := Inj.kw J30 k38 rfl
    show MEvP _ none q_94 54 [(1, .int x4), (0, .ref 0)] [] _ _ _ _
    refine mp_a (a_iconst (v := 0) dX6_read_54 rfl) (mpp 55 rfl ?_)
    refine mp_a (a_istore_n (L' := [(2, .int 0), (1, .int x4), (0, .ref 0)]) dX6_read_55 (by decide) rfl) (mpp 56 rfl ?_)
    refine mp_a (a_iconst (v := 0) dX6_read_56 rfl) (mpp 57 rfl ?_)
    refine mp_a (a_istore_n (L' := [(3, .int 0), (2, .int 0), (1, .int x4), (0, .ref 0)]) dX6_read_57 (by decide) rfl) (mpp 58 rfl ?_)
    refine MEvP.less (L := [(0, .ref 0), (1, .int x4), (2, .int 0), (3, .int 0)]) rfl rfl ⟨rfl, rfl, rfl, rfl, trivial⟩ ?_
    have i43 : 0 ≤ (0 : Int) := by omega
    exact c_F_read_l58 hT hX hJ  _ _ _ _ P33 hT37 k40 J42 i43 rfl
  · have c12 : x4.toInt ≠ (-1004) := ti_eq_n c12
    refine mp_a (a_aload_n dX6_read_15 rfl) (mpp 16 rfl ?_)
    refine mt_getU (i := 32) (k := 4) (A := 289) hT6 dX6_read_16 rfl rl_0 (by decide) rfl (by decide) rfl un_8 (mpp 19 rfl ?_)
    refine mt_callv (i := 225) (q' := q_106) (As := []) (rest := []) hT6 dX6_read_19 rfl qm_106 (by decide) rfl rl_289 (by decide) rfl (Nat.le_of_ble_eq_true rfl) rfl ⟨rfl, rfl⟩ ⟨Nat.le_of_ble_eq_true rfl, Nat.le_of_ble_eq_true rfl⟩ (EvP.mono (by decide) (c_CS_clear_Script hT6 (KW.xr k9 hX) )) (fun r44 P45 g46 => mpp 22 rfl ?_)
    obtain ⟨⟨rfl, g48⟩, hT49, k50, R51⟩ := g46
    have k52 : KW [9, 10, 11, 12, 65, 66, 67, 192, 193, 194, 256, 320, 385, 386, 387, 513, 514, 515, 516, 517, 518, 519, 640, 641, 704, 768, 1985, 1986, 1987, 2048, 2112, 2113, 2114] Po P45 := KW.trans k9 k50 rfl
    have J54 := Inj.kw J11 k50 rfl
    replace g48 : (fv P45 289 1).toInt = 0 := g48
    have g55 : (0 : Int) ≤ (fv P45 289 1).toInt ∧ (fv P45 289 1).toInt ≤ 80 := Typ.rng hT49 rl_289 (by decide) (by decide) rfl
    show MEvP _ none q_94 22 [(1, .int x4), (0, .ref 0)] [] _ _ _ _
    refine mp_a (a_sipush (v := -2000) dX6_read_22 rfl) (mpp 25 rfl ?_)
    refine mp_a (a_iload_n dX6_read_25 rfl) (mpp 26 rfl ?_)
    obtain ⟨z56, h57⟩ := ti_ex ((-2000) - x4 : Int32)
    have wz56 := ti_full z56
    refine mp_t (s_isub (v := z56) dX6_read_26 h57) (mpp 27 rfl ?_)
    try have e58 : z56.toInt = (-2000) - x4.toInt := ti_subz h57 rfl rfl (by omega) (by omega)
    have u59 : (fv P45 289 1).toInt = 0 := by omega
    exact mp_iret ⟨⟨_, rfl, u59⟩, hT49, k52, J54, trivial⟩ dX6_read_27 (Or.inl rfl)

set_option maxHeartbeats 4000000 in
theorem c_F_refusal {Po : mP} {t1 : Int32} (hT : Typ Po) (hX : XR Po)   : EvP 1 109 [.ref 0, .int t1] Po (fun r P' => (∃ x : Int32, r = some (.int x) ∧ (True)) ∧ P' = Po) := by
  refine EvP.of qm_109 (Nat.le_of_ble_eq_true rfl) rfl ?_
  show MEvP _ none q_109 0 [(0, .ref 0), (1, .int t1)] [] _ 0 0 _
  have w_t1 := ti_full t1
  refine mp_a (a_iload_n dX6_refusal_0 rfl) (mpp 1 rfl ?_)
  refine mp_Tb (t := 9) (j_if_lt dX6_refusal_1) (by decide) (fun c1 => ?_) (fun c1 => mpp 4 rfl ?_)
  · have c1 : t1.toInt < 0 := ti_lt c1
    refine mp_a (a_sipush (v := -1002) dX6_refusal_9 rfl) (mpp 12 rfl ?_)
    exact mp_iret ⟨⟨_, rfl, trivial⟩, rfl⟩ dX6_refusal_12 (Or.inl rfl)
  · have c1 : t1.toInt ≥ 0 := ti_lt_n c1
    refine mp_a (a_iload_n dX6_refusal_4 rfl) (mpp 5 rfl ?_)
    refine mp_a (a_iconst (v := 2) dX6_refusal_5 rfl) (mpp 6 rfl ?_)
    refine mp_Tb (t := 13) (j_icmp_le dX6_refusal_6) (by decide) (fun c2 => ?_) (fun c2 => mpp 9 rfl ?_)
    · have c2 : t1.toInt ≤ 2 := ti_le c2
      refine mp_a (a_aload_n dX6_refusal_13 rfl) (mpp 14 rfl ?_)
      have g3 := ti_full (fv Po 0 10)
      refine mt_getI (i := 246) (k := 10) hT dX6_refusal_14 rfl rl_0 (by decide) rfl (by decide) rfl (fun g4 g5 => mpp 17 rfl ?_)
      refine mp_Tb (t := 24) (j_if_ne dX6_refusal_17) (by decide) (fun c6 => ?_) (fun c6 => mpp 20 rfl ?_)
      · have c6 : (fv Po 0 10).toInt ≠ 0 := ti_ne c6
        refine mp_a (a_iload_n dX6_refusal_24 rfl) (mpp 25 rfl ?_)
        refine mp_Tb (t := 33) (j_if_ne dX6_refusal_25) (by decide) (fun c7 => ?_) (fun c7 => mpp 28 rfl ?_)
        · have c7 : t1.toInt ≠ 0 := ti_ne c7
          refine mp_a (a_iload_n dX6_refusal_33 rfl) (mpp 34 rfl ?_)
          refine mp_a (a_iconst (v := 1) dX6_refusal_34 rfl) (mpp 35 rfl ?_)
          refine mp_Tb (t := 45) (j_icmp_ne dX6_refusal_35) (by decide) (fun c8 => ?_) (fun c8 => mpp 38 rfl ?_)
          · have c8 : t1.toInt ≠ 1 := ti_ne c8
            refine mp_a (a_aload_n dX6_refusal_45 rfl) (mpp 46 rfl ?_)
            have g9 := ti_full (fv Po 0 12)
            refine mt_getI (i := 61) (k := 12) hT dX6_refusal_46 rfl rl_0 (by decide) rfl (by decide) rfl (fun g10 g11 => mpp 49 rfl ?_)
            exact mp_iret ⟨⟨_, rfl, trivial⟩, rfl⟩ dX6_refusal_49 (Or.inl rfl)
          · have c8 : t1.toInt = 1 := ti_ne_n c8
            refine mp_a (a_aload_n dX6_refusal_38 rfl) (mpp 39 rfl ?_)
            have g12 := ti_full (fv Po 0 11)
            refine mt_getI (i := 249) (k := 11) hT dX6_refusal_39 rfl rl_0 (by decide) rfl (by decide) rfl (fun g13 g14 => mpp 42 rfl ?_)
            refine mp_a (a_goto (t := 49) dX6_refusal_42 (by decide)) ?_
            exact mp_iret ⟨⟨_, rfl, trivial⟩, rfl⟩ dX6_refusal_49 (Or.inl rfl)
        · have c7 : t1.toInt = 0 := ti_ne_n c7
          refine mp_a (a_aload_n dX6_refusal_28 rfl) (mpp 29 rfl ?_)
          refine mt_getI (i := 246) (k := 10) hT dX6_refusal_29 rfl rl_0 (by decide) rfl (by decide) rfl (fun g15 g16 => mpp 32 rfl ?_)
          exact mp_iret ⟨⟨_, rfl, trivial⟩, rfl⟩ dX6_refusal_32 (Or.inl rfl)
      · have c6 : (fv Po 0 10).toInt = 0 := ti_ne_n c6
        refine mp_a (a_sipush (v := -1004) dX6_refusal_20 rfl) (mpp 23 rfl ?_)
        exact mp_iret ⟨⟨_, rfl, trivial⟩, rfl⟩ dX6_refusal_23 (Or.inl rfl)
    · have c2 : t1.toInt > 2 := ti_le_n c2
      refine mp_a (a_sipush (v := -1002) dX6_refusal_9 rfl) (mpp 12 rfl ?_)
      exact mp_iret ⟨⟨_, rfl, trivial⟩, rfl⟩ dX6_refusal_12 (Or.inl rfl)

set_option maxHeartbeats 4000000 in
theorem c_CS_countOfKind_NState_l4 {Po : mP} {t1 : Int32} (hT : Typ Po) (hX : XR Po)   : ∀ (n : Nat) (v2 : Int32) (v3 : Int32), (0 ≤ v3.toInt) → (2147483647 - v3.toInt).toNat = n → MEvP 1 none q_111 4 [(0, .ref 1), (1, .int t1), (2, .int v2), (3, .int v3)] [] Po 0 0 (fun r P' => (∃ x : Int32, r = some (.int x) ∧ (True)) ∧ P' = Po) := by
  intro n
  induction n using Nat.strongRecOn with | _ n ih => ?_
  intro v2 v3 i_0 hm
  have w_t1 := ti_full t1
  have w_v2 := ti_full v2
  have w_v3 := ti_full v3
  refine mp_a (a_iload_n dX5_countOfKind_4 rfl) (mpp 5 rfl ?_)
  refine mp_a (a_aload_n dX5_countOfKind_5 rfl) (mpp 6 rfl ?_)
  have g1 : (0 : Int) ≤ (fv Po 1 1).toInt ∧ (fv Po 1 1).toInt ≤ 8 := Typ.rng hT rl_1 (by decide) (by decide) rfl
  refine mt_getI (i := 22) (k := 1) hT dX5_countOfKind_6 rfl rl_1 (by decide) rfl (by decide) rfl (fun g2 g3 => mpp 9 rfl ?_)
  refine mp_Tb (t := 42) (j_icmp_ge dX5_countOfKind_9) (by decide) (fun c4 => ?_) (fun c4 => mpp 12 rfl ?_)
  · have c4 : v3.toInt ≥ (fv Po 1 1).toInt := ti_ge c4
    refine mp_a (a_iload_n dX5_countOfKind_42 rfl) (mpp 43 rfl ?_)
    exact mp_iret ⟨⟨_, rfl, trivial⟩, rfl⟩ dX5_countOfKind_43 (Or.inl rfl)
  · have c4 : v3.toInt < (fv Po 1 1).toInt := ti_ge_n c4
    refine mp_a (a_aload_n dX5_countOfKind_12 rfl) (mpp 13 rfl ?_)
    refine mp_a (a_iload_n dX5_countOfKind_13 rfl) (mpp 14 rfl ?_)
    refine mt_callv (i := 28) (q' := q_9) (As := [.int v3]) (rest := []) hT dX5_countOfKind_14 rfl qm_9 (by decide) rfl rl_1 (by decide) rfl (Nat.le_of_ble_eq_true rfl) rfl ⟨rfl, rfl⟩ ⟨Nat.le_of_ble_eq_true rfl, Nat.le_of_ble_eq_true rfl⟩ (EvP.mono (by decide) (c_CS_pieceAt_NState hT hX )) (fun r5 P6 g7 => mpp 17 rfl ?_)
    obtain ⟨g7, e8⟩ := g7
    have e8 := e8.symm
    subst e8
    rcases g7 with ⟨rfl, q10n⟩ | ⟨b9, rfl, q10, q10r⟩
    · show MEvP _ none q_111 17 [(0, .ref 1), (1, .int t1), (2, .int v2), (3, .int v3)] [.null] _ _ _ _
      replace q10n : v3.toInt < 0 ∨ (fv Po 1 1).toInt ≤ v3.toInt ∨ 8 ≤ v3.toInt := q10n
      refine mp_a (a_astoreN (L' := [(4, .null), (0, .ref 1), (1, .int t1), (2, .int v2), (3, .int v3)]) dX5_countOfKind_17 (by decide) rfl) (mpp 19 rfl ?_)
      refine mp_a (a_aloadN dX5_countOfKind_19 rfl) (mpp 21 rfl ?_)
      refine mp_t (s_ifnullN (t := 36) dX5_countOfKind_21 (by decide)) ?_
      obtain ⟨z11, h12⟩ := ti_ex (v3 + 1 : Int32)
      have wz11 := ti_full z11
      refine mp_a (a_iinc (v := z11) (L' := [(3, .int z11), (4, .null), (0, .ref 1), (1, .int t1), (2, .int v2)]) dX5_countOfKind_36 (by decide) rfl h12 rfl) (mpp 39 rfl ?_)
      try have e13 : z11.toInt = v3.toInt + 1 := ti_addz h12 rfl rfl (by omega) (by omega)
      refine mp_a (a_goto (t := 4) dX5_countOfKind_39 (by decide)) ?_
      refine MEvP.less (L := [(0, .ref 1), (1, .int t1), (2, .int v2), (3, .int z11)]) rfl rfl ⟨rfl, rfl, rfl, rfl, trivial⟩ ?_
      have i14 : 0 ≤ z11.toInt := by omega
      exact ih _ (by omega) _ _ i14 rfl
    · show MEvP _ none q_111 17 [(0, .ref 1), (1, .int t1), (2, .int v2), (3, .int v3)] [.ref b9] _ _ _ _
      replace q10r : 0 ≤ v3.toInt ∧ v3.toInt ≤ 7 ∧ v3.toInt + 1 ≤ (fv Po 1 1).toInt ∧ rv Po 2 v3.toInt.toNat = b9 := q10r
      have w15 := np_ar q10
      refine mp_a (a_astore (L' := [(4, .ref b9), (0, .ref 1), (1, .int t1), (2, .int v2), (3, .int v3)]) dX5_countOfKind_17 (by decide) rfl) (mpp 19 rfl ?_)
      refine mp_a (a_aload dX5_countOfKind_19 rfl) (mpp 21 rfl ?_)
      refine mp_t (s_ifnullR dX5_countOfKind_21) (mpp 24 rfl ?_)
      refine mp_a (a_aload dX5_countOfKind_24 rfl) (mpp 26 rfl ?_)
      have g16 := ti_full (fv Po b9 0)
      refine mt_getI (i := 43) (k := 0) hT dX5_countOfKind_26 rfl q10 (by decide) rfl (by decide) rfl (fun g17 g18 => mpp 29 rfl ?_)
      refine mp_a (a_iload_n dX5_countOfKind_29 rfl) (mpp 30 rfl ?_)
      refine mp_Tb (t := 36) (j_icmp_ne dX5_countOfKind_30) (by decide) (fun c19 => ?_) (fun c19 => mpp 33 rfl ?_)
      · have c19 : (fv Po b9 0).toInt ≠ t1.toInt := ti_ne c19
        obtain ⟨z20, h21⟩ := ti_ex (v3 + 1 : Int32)
        have wz20 := ti_full z20
        refine mp_a (a_iinc (v := z20) (L' := [(3, .int z20), (4, .ref b9), (0, .ref 1), (1, .int t1), (2, .int v2)]) dX5_countOfKind_36 (by decide) rfl h21 rfl) (mpp 39 rfl ?_)
        try have e22 : z20.toInt = v3.toInt + 1 := ti_addz h21 rfl rfl (by omega) (by omega)
        refine mp_a (a_goto (t := 4) dX5_countOfKind_39 (by decide)) ?_
        refine MEvP.less (L := [(0, .ref 1), (1, .int t1), (2, .int v2), (3, .int z20)]) rfl rfl ⟨rfl, rfl, rfl, rfl, trivial⟩ ?_
        have i23 : 0 ≤ z20.toInt := by omega
        exact ih _ (by omega) _ _ i23 rfl
      · have c19 : (fv Po b9 0).toInt = t1.toInt := ti_ne_n c19
        obtain ⟨z24, h25⟩ := ti_ex (v2 + 1 : Int32)
        have wz24 := ti_full z24
        refine mp_a (a_iinc (v := z24) (L' := [(2, .int z24), (4, .ref b9), (0, .ref 1), (1, .int t1), (3, .int v3)]) dX5_countOfKind_33 (by decide) rfl h25 rfl) (mpp 36 rfl ?_)
        try have e26 : z24.toInt = v2.toInt + 1 := ti_addz h25 rfl rfl (by omega) (by omega)
        obtain ⟨z27, h28⟩ := ti_ex (v3 + 1 : Int32)
        have wz27 := ti_full z27
        refine mp_a (a_iinc (v := z27) (L' := [(3, .int z27), (2, .int z24), (4, .ref b9), (0, .ref 1), (1, .int t1)]) dX5_countOfKind_36 (by decide) rfl h28 rfl) (mpp 39 rfl ?_)
        try have e29 : z27.toInt = v3.toInt + 1 := ti_addz h28 rfl rfl (by omega) (by omega)
        refine mp_a (a_goto (t := 4) dX5_countOfKind_39 (by decide)) ?_
        refine MEvP.less (L := [(0, .ref 1), (1, .int t1), (2, .int z24), (3, .int z27)]) rfl rfl ⟨rfl, rfl, rfl, rfl, trivial⟩ ?_
        have i30 : 0 ≤ z27.toInt := by omega
        exact ih _ (by omega) _ _ i30 rfl

set_option maxHeartbeats 4000000 in
theorem c_CS_countOfKind_NState {Po : mP} {t1 : Int32} (hT : Typ Po) (hX : XR Po)   : EvP 2 111 [.ref 1, .int t1] Po (fun r P' => (∃ x : Int32, r = some (.int x) ∧ (True)) ∧ P' = Po) := by
  refine EvP.of qm_111 (Nat.le_of_ble_eq_true rfl) rfl ?_
  show MEvP _ none q_111 0 [(0, .ref 1), (1, .int t1)] [] _ 0 0 _
  have w_t1 := ti_full t1
  refine mp_a (a_iconst (v := 0) dX5_countOfKind_0 rfl) (mpp 1 rfl ?_)
  refine mp_a (a_istore_n (L' := [(2, .int 0), (0, .ref 1), (1, .int t1)]) dX5_countOfKind_1 (by decide) rfl) (mpp 2 rfl ?_)
  refine mp_a (a_iconst (v := 0) dX5_countOfKind_2 rfl) (mpp 3 rfl ?_)
  refine mp_a (a_istore_n (L' := [(3, .int 0), (2, .int 0), (0, .ref 1), (1, .int t1)]) dX5_countOfKind_3 (by decide) rfl) (mpp 4 rfl ?_)
  refine MEvP.less (L := [(0, .ref 1), (1, .int t1), (2, .int 0), (3, .int 0)]) rfl rfl ⟨rfl, rfl, rfl, rfl, trivial⟩ ?_
  have i1 : 0 ≤ (0 : Int) := by omega
  exact c_CS_countOfKind_NState_l4 hT hX   _ _ _ i1 rfl

set_option maxHeartbeats 4000000 in
theorem c_CS_foldedCount_NState_l4 {Po : mP}  (hT : Typ Po) (hX : XR Po)   : ∀ (n : Nat) (v1 : Int32) (v2 : Int32), (0 ≤ v2.toInt) → (2147483647 - v2.toInt).toNat = n → MEvP 1 none q_112 4 [(0, .ref 1), (1, .int v1), (2, .int v2)] [] Po 0 0 (fun r P' => (∃ x : Int32, r = some (.int x) ∧ (True)) ∧ P' = Po) := by
  intro n
  induction n using Nat.strongRecOn with | _ n ih => ?_
  intro v1 v2 i_0 hm
  have w_v1 := ti_full v1
  have w_v2 := ti_full v2
  refine mp_a (a_iload_n dX5_foldedCount_4 rfl) (mpp 5 rfl ?_)
  refine mp_a (a_aload_n dX5_foldedCount_5 rfl) (mpp 6 rfl ?_)
  have g1 : (0 : Int) ≤ (fv Po 1 1).toInt ∧ (fv Po 1 1).toInt ≤ 8 := Typ.rng hT rl_1 (by decide) (by decide) rfl
  refine mt_getI (i := 22) (k := 1) hT dX5_foldedCount_6 rfl rl_1 (by decide) rfl (by decide) rfl (fun g2 g3 => mpp 9 rfl ?_)
  refine mp_Tb (t := 38) (j_icmp_ge dX5_foldedCount_9) (by decide) (fun c4 => ?_) (fun c4 => mpp 12 rfl ?_)
  · have c4 : v2.toInt ≥ (fv Po 1 1).toInt := ti_ge c4
    refine mp_a (a_iload_n dX5_foldedCount_38 rfl) (mpp 39 rfl ?_)
    exact mp_iret ⟨⟨_, rfl, trivial⟩, rfl⟩ dX5_foldedCount_39 (Or.inl rfl)
  · have c4 : v2.toInt < (fv Po 1 1).toInt := ti_ge_n c4
    refine mp_a (a_aload_n dX5_foldedCount_12 rfl) (mpp 13 rfl ?_)
    refine mp_a (a_iload_n dX5_foldedCount_13 rfl) (mpp 14 rfl ?_)
    refine mt_callv (i := 28) (q' := q_9) (As := [.int v2]) (rest := []) hT dX5_foldedCount_14 rfl qm_9 (by decide) rfl rl_1 (by decide) rfl (Nat.le_of_ble_eq_true rfl) rfl ⟨rfl, rfl⟩ ⟨Nat.le_of_ble_eq_true rfl, Nat.le_of_ble_eq_true rfl⟩ (EvP.mono (by decide) (c_CS_pieceAt_NState hT hX )) (fun r5 P6 g7 => mpp 17 rfl ?_)
    obtain ⟨g7, e8⟩ := g7
    have e8 := e8.symm
    subst e8
    rcases g7 with ⟨rfl, q10n⟩ | ⟨b9, rfl, q10, q10r⟩
    · show MEvP _ none q_112 17 [(0, .ref 1), (1, .int v1), (2, .int v2)] [.null] _ _ _ _
      replace q10n : v2.toInt < 0 ∨ (fv Po 1 1).toInt ≤ v2.toInt ∨ 8 ≤ v2.toInt := q10n
      refine mp_a (a_astore_nN (L' := [(3, .null), (0, .ref 1), (1, .int v1), (2, .int v2)]) dX5_foldedCount_17 (by decide) rfl) (mpp 18 rfl ?_)
      refine mp_a (a_aload_nN dX5_foldedCount_18 rfl) (mpp 19 rfl ?_)
      refine mp_t (s_ifnullN (t := 32) dX5_foldedCount_19 (by decide)) ?_
      obtain ⟨z11, h12⟩ := ti_ex (v2 + 1 : Int32)
      have wz11 := ti_full z11
      refine mp_a (a_iinc (v := z11) (L' := [(2, .int z11), (3, .null), (0, .ref 1), (1, .int v1)]) dX5_foldedCount_32 (by decide) rfl h12 rfl) (mpp 35 rfl ?_)
      try have e13 : z11.toInt = v2.toInt + 1 := ti_addz h12 rfl rfl (by omega) (by omega)
      refine mp_a (a_goto (t := 4) dX5_foldedCount_35 (by decide)) ?_
      refine MEvP.less (L := [(0, .ref 1), (1, .int v1), (2, .int z11)]) rfl rfl ⟨rfl, rfl, rfl, trivial⟩ ?_
      have i14 : 0 ≤ z11.toInt := by omega
      exact ih _ (by omega) _ _ i14 rfl
    · show MEvP _ none q_112 17 [(0, .ref 1), (1, .int v1), (2, .int v2)] [.ref b9] _ _ _ _
      replace q10r : 0 ≤ v2.toInt ∧ v2.toInt ≤ 7 ∧ v2.toInt + 1 ≤ (fv Po 1 1).toInt ∧ rv Po 2 v2.toInt.toNat = b9 := q10r
      have w15 := np_ar q10
      refine mp_a (a_astore_n (L' := [(3, .ref b9), (0, .ref 1), (1, .int v1), (2, .int v2)]) dX5_foldedCount_17 (by decide) rfl) (mpp 18 rfl ?_)
      refine mp_a (a_aload_n dX5_foldedCount_18 rfl) (mpp 19 rfl ?_)
      refine mp_t (s_ifnullR dX5_foldedCount_19) (mpp 22 rfl ?_)
      refine mp_a (a_aload_n dX5_foldedCount_22 rfl) (mpp 23 rfl ?_)
      have g16 : (0 : Int) ≤ (fv Po b9 2).toInt ∧ (fv Po b9 2).toInt ≤ 1 := Typ.rng hT q10 (by decide) (by decide) rfl
      refine mt_getI (i := 36) (k := 2) hT dX5_foldedCount_23 rfl q10 (by decide) rfl (by decide) rfl (fun g17 g18 => mpp 26 rfl ?_)
      refine mp_Tb (t := 32) (j_if_eq dX5_foldedCount_26) (by decide) (fun c19 => ?_) (fun c19 => mpp 29 rfl ?_)
      · have c19 : (fv Po b9 2).toInt = 0 := ti_eq c19
        obtain ⟨z20, h21⟩ := ti_ex (v2 + 1 : Int32)
        have wz20 := ti_full z20
        refine mp_a (a_iinc (v := z20) (L' := [(2, .int z20), (3, .ref b9), (0, .ref 1), (1, .int v1)]) dX5_foldedCount_32 (by decide) rfl h21 rfl) (mpp 35 rfl ?_)
        try have e22 : z20.toInt = v2.toInt + 1 := ti_addz h21 rfl rfl (by omega) (by omega)
        refine mp_a (a_goto (t := 4) dX5_foldedCount_35 (by decide)) ?_
        refine MEvP.less (L := [(0, .ref 1), (1, .int v1), (2, .int z20)]) rfl rfl ⟨rfl, rfl, rfl, trivial⟩ ?_
        have i23 : 0 ≤ z20.toInt := by omega
        exact ih _ (by omega) _ _ i23 rfl
      · have c19 : (fv Po b9 2).toInt ≠ 0 := ti_eq_n c19
        obtain ⟨z24, h25⟩ := ti_ex (v1 + 1 : Int32)
        have wz24 := ti_full z24
        refine mp_a (a_iinc (v := z24) (L' := [(1, .int z24), (3, .ref b9), (0, .ref 1), (2, .int v2)]) dX5_foldedCount_29 (by decide) rfl h25 rfl) (mpp 32 rfl ?_)
        try have e26 : z24.toInt = v1.toInt + 1 := ti_addz h25 rfl rfl (by omega) (by omega)
        obtain ⟨z27, h28⟩ := ti_ex (v2 + 1 : Int32)
        have wz27 := ti_full z27
        refine mp_a (a_iinc (v := z27) (L' := [(2, .int z27), (1, .int z24), (3, .ref b9), (0, .ref 1)]) dX5_foldedCount_32 (by decide) rfl h28 rfl) (mpp 35 rfl ?_)
        try have e29 : z27.toInt = v2.toInt + 1 := ti_addz h28 rfl rfl (by omega) (by omega)
        refine mp_a (a_goto (t := 4) dX5_foldedCount_35 (by decide)) ?_
        refine MEvP.less (L := [(0, .ref 1), (1, .int z24), (2, .int z27)]) rfl rfl ⟨rfl, rfl, rfl, trivial⟩ ?_
        have i30 : 0 ≤ z27.toInt := by omega
        exact ih _ (by omega) _ _ i30 rfl

