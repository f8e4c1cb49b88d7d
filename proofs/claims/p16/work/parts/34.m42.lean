/-! methods on typed pools, 42 (written by a program) -/
set_option maxHeartbeats 4000000 in
theorem c_M_gives_r5 {Po : mP} {t1 : Int32} (hT : Typ Po)  (hp0 : 0 ≤ t1.toInt) (hp1 : (fv Po 301 20).toInt = t1.toInt + 5) (hp2 : (fv Po 301 20).toInt ≤ 7) (hp3 : TKN Po t1.toInt.toNat) (hp4 : 0 ≤ (fv Po 301 21).toInt) (hp5 : (fv Po 301 21).toInt + gMc Po 5 (oM Po) ≤ 2000000)  : EvP 10 201 [.ref 301, .int t1] Po (fun r P' => (r = none ∧ (GVP Po P' t1.toInt.toNat 5)) ∧ Typ P' ∧ KW [1109, 1664, 1728, 1856] Po P' ∧ True) := by
  refine EvP.of qm_201 (Nat.le_of_ble_eq_true rfl) rfl ?_
  show MEvP _ none q_201 0 [(0, .ref 301), (1, .int t1)] [] _ 0 0 _
  have w_t1 := ti_full t1
  have g1 : (0 : Int) ≤ (fv Po 301 20).toInt ∧ (fv Po 301 20).toInt ≤ 8 := Typ.rng hT rl_301 (by decide) (by decide) rfl
  have g2 := ti_full (fv Po 301 21)
  refine mp_a (a_iload_n dX7_gives_0 rfl) (mpp 1 rfl ?_)
  refine mp_a (a_aload_n dX7_gives_1 rfl) (mpp 2 rfl ?_)
  refine mt_getI (i := 255) (k := 20) hT dX7_gives_2 rfl rl_301 (by decide) rfl (by decide) rfl (fun g3 g4 => mpp 5 rfl ?_)
  refine mp_Tb (t := 61) (j_icmp_ne dX7_gives_5) (by decide) (fun c5 => ?_) (fun c5 => mpp 8 rfl ?_)
  · have c5 : t1.toInt ≠ (fv Po 301 20).toInt := ti_ne c5
    refine mp_a (a_iconst (v := 0) dX7_gives_61 rfl) (mpp 62 rfl ?_)
    refine mp_a (a_istore_n (L' := [(2, .int 0), (0, .ref 301), (1, .int t1)]) dX7_gives_62 (by decide) rfl) (mpp 63 rfl ?_)
    refine MEvP.less (L := [(0, .ref 301), (1, .int t1), (2, .int 0)]) rfl rfl ⟨rfl, rfl, rfl, trivial⟩ ?_
    have i6 : GI Po Po t1.toInt.toNat 4 (0 : Int).toNat := GI.start rfl
    have i7 : (0 : Int) ≤ (fv Po 301 20).toInt := by omega
    have i8 : 0 ≤ (0 : Int) := by omega
    exact c_M_gives_r5_l63   hp0 hp1 hp2 hp3 hp4 hp5 _ _ Po hT KW.refl i6 i7 i8 rfl
  · have c5 : t1.toInt = (fv Po 301 20).toInt := ti_ne_n c5
    exfalso
    omega

set_option maxHeartbeats 4000000 in
theorem c_M_gives_r6_l63 {Po : mP} {t1 : Int32} (hp0 : 0 ≤ t1.toInt) (hp1 : (fv Po 301 20).toInt = t1.toInt + 6) (hp2 : (fv Po 301 20).toInt ≤ 7) (hp3 : TKN Po t1.toInt.toNat) (hp4 : 0 ≤ (fv Po 301 21).toInt) (hp5 : (fv Po 301 21).toInt + gMc Po 6 (oM Po) ≤ 2000000)  : ∀ (n : Nat) (v2 : Int32), ∀ (P : mP), Typ P → KW [1109, 1664, 1728, 1856] Po P → (GI Po P t1.toInt.toNat 5 v2.toInt.toNat) → (v2.toInt ≤ (fv Po 301 20).toInt) → (0 ≤ v2.toInt) → (2147483647 - v2.toInt).toNat = n → MEvP 10 none q_201 63 [(0, .ref 301), (1, .int t1), (2, .int v2)] [] P 0 0 (fun r P' => (r = none ∧ (GVP Po P' t1.toInt.toNat 6)) ∧ Typ P' ∧ KW [1109, 1664, 1728, 1856] Po P' ∧ True) := by
  intro n
  induction n using Nat.strongRecOn with | _ n ih => ?_
  intro v2 P hT hK i_0 i_1 i_2 hm
  have w_t1 := ti_full t1
  have w_v2 := ti_full v2
  refine mp_a (a_iload_n dX7_gives_63 rfl) (mpp 64 rfl ?_)
  refine mp_a (a_aload_n dX7_gives_64 rfl) (mpp 65 rfl ?_)
  have e1 : (fv P 301 20).toInt = (fv Po 301 20).toInt := congrArg Int32.toInt (KW.at hK 20 rl_301 rfl)
  refine mt_getI (i := 255) (k := 20) hT dX7_gives_65 rfl rl_301 (by decide) rfl (by decide) rfl (fun g2 g3 => mpp 68 rfl ?_)
  refine mp_Tb (t := 148) (j_icmp_ge dX7_gives_68) (by decide) (fun c4 => ?_) (fun c4 => mpp 71 rfl ?_)
  · have c4 : v2.toInt ≥ (fv P 301 20).toInt := ti_ge c4
    have u5 : GVP Po P t1.toInt.toNat 6 := i_0.fin (by show v2.toInt.toNat = (fv Po 301 20).toInt.toNat; omega) (by show t1.toInt.toNat + 1 + 5 = (fv Po 301 20).toInt.toNat; omega)
    exact mp_ret ⟨⟨rfl, u5⟩, hT, hK, trivial⟩ dX7_gives_148 rfl
  · have c4 : v2.toInt < (fv P 301 20).toInt := ti_ge_n c4
    refine mp_a (a_aload_n dX7_gives_71 rfl) (mpp 72 rfl ?_)
    refine mt_getU (i := 43) (k := 18) (A := 313) hT dX7_gives_72 rfl rl_301 (by decide) rfl (by decide) rfl un_29 (mpp 75 rfl ?_)
    refine mp_a (a_iload_n dX7_gives_75 rfl) (mpp 76 rfl ?_)
    refine mt_bal (n := 7) hT dX7_gives_76 rl_313 (by decide) rfl rfl (by omega) (by omega) rfl (fun g6 g7 => mpp 77 rfl ?_)
    refine mp_Tb (t := 142) (j_if_ne dX7_gives_77) (by decide) (fun c8 => ?_) (fun c8 => mpp 80 rfl ?_)
    · have c8 : (fv P 313 v2.toInt.toNat).toInt ≠ 0 := ti_ne c8
      obtain ⟨z9, h10⟩ := ti_ex (v2 + 1 : Int32)
      have wz9 := ti_full z9
      refine mp_a (a_iinc (v := z9) (L' := [(2, .int z9), (0, .ref 301), (1, .int t1)]) dX7_gives_142 (by decide) rfl h10 rfl) (mpp 145 rfl ?_)
      try have e11 : z9.toInt = v2.toInt + 1 := ti_addz h10 rfl rfl (by omega) (by omega)
      refine mp_a (a_goto (t := 63) dX7_gives_145 (by decide)) ?_
      refine MEvP.less (L := [(0, .ref 301), (1, .int t1), (2, .int z9)]) rfl rfl ⟨rfl, rfl, rfl, trivial⟩ ?_
      have w13_f := i_0.2.2.2.2.fns
      have w13_t : (fv P 313 v2.toInt.toNat).toInt = 1 ↔ ∃ j : Nat, j < t1.toInt.toNat ∧ (fv Po 310 j).toInt = (v2.toInt.toNat : Int) := by rw [i_0.2.2.1 v2.toInt.toNat (by omega)]; exact hp3 v2.toInt.toNat (by omega)
      have i12 : GI Po P t1.toInt.toNat 5 z9.toInt.toNat := i_0.skip (fun q => by obtain ⟨j, j1, j2⟩ := w13_t.mp (by omega); exact q.1 j j1 j2) (by omega)
      have i14 : z9.toInt ≤ (fv Po 301 20).toInt := by omega
      have i15 : 0 ≤ z9.toInt := by omega
      exact ih _ (by omega) _ P hT hK i12 i14 i15 rfl
    · have c8 : (fv P 313 v2.toInt.toNat).toInt = 0 := ti_ne_n c8
      refine mp_a (a_iload_n dX7_gives_80 rfl) (mpp 81 rfl ?_)
      refine mp_Tb (t := 114) (j_if_le dX7_gives_81) (by decide) (fun c16 => ?_) (fun c16 => mpp 84 rfl ?_)
      · have c16 : t1.toInt ≤ 0 := ti_le c16
        refine mp_a (a_aload_n dX7_gives_114 rfl) (mpp 115 rfl ?_)
        refine mt_getU (i := 43) (k := 18) (A := 313) hT dX7_gives_115 rfl rl_301 (by decide) rfl (by decide) rfl un_29 (mpp 118 rfl ?_)
        refine mp_a (a_iload_n dX7_gives_118 rfl) (mpp 119 rfl ?_)
        refine mp_a (a_iconst (v := 1) dX7_gives_119 rfl) (mpp 120 rfl ?_)
        refine mt_bas (n := 7) hT dX7_gives_120 rl_313 (by decide) rfl rfl (by omega) (by omega) rfl (by decide) (fun P17 hT18 f19 f20 f21 => mpp 121 rfl ?_)
        have k22 : KW [1109, 1664, 1728, 1856] Po P17 := KW.step hK rl_313 rfl f20 f21
        refine mp_a (a_aload_n dX7_gives_121 rfl) (mpp 122 rfl ?_)
        refine mt_getU (i := 34) (k := 15) (A := 310) hT18 dX7_gives_122 rfl rl_301 (by decide) rfl (by decide) rfl un_26 (mpp 125 rfl ?_)
        refine mp_a (a_iload_n dX7_gives_125 rfl) (mpp 126 rfl ?_)
        refine mp_a (a_iload_n dX7_gives_126 rfl) (mpp 127 rfl ?_)
        refine mt_ias (n := 7) hT18 dX7_gives_127 rl_310 (by decide) rfl rfl (by omega) (by omega) rfl (ti_full v2) (fun P23 hT24 f25 f26 f27 => mpp 128 rfl ?_)
        have k28 : KW [1109, 1664, 1728, 1856] Po P23 := KW.step k22 rl_310 rfl f26 f27
        refine mp_a (a_aload_n dX7_gives_128 rfl) (mpp 129 rfl ?_)
        refine mp_a (a_iload_n dX7_gives_129 rfl) (mpp 130 rfl ?_)
        refine mp_a (a_iconst (v := 1) dX7_gives_130 rfl) (mpp 131 rfl ?_)
        obtain ⟨z29, h30⟩ := ti_ex (t1 + 1 : Int32)
        have wz29 := ti_full z29
        refine mp_t (s_iadd (v := z29) dX7_gives_131 h30) (mpp 132 rfl ?_)
        try have e31 : z29.toInt = t1.toInt + 1 := ti_addz h30 rfl rfl (by omega) (by omega)
        have w32_f := i_0.2.2.2.2.fns
        have w32_t : (fv P 313 v2.toInt.toNat).toInt = 1 ↔ ∃ j : Nat, j < t1.toInt.toNat ∧ (fv Po 310 j).toInt = (v2.toInt.toNat : Int) := by rw [i_0.2.2.1 v2.toInt.toNat (by omega)]; exact hp3 v2.toInt.toNat (by omega)
        have w32_k : okO (crM Po) (oM Po) t1.toInt.toNat (v2.toInt.toNat : Int) := ⟨(fun j j1 j2 => by have q := w32_t.mpr ⟨j, j1, j2⟩; omega), Or.inl (by omega)⟩
        have w32_1 : (fv P23 310 t1.toInt.toNat).toInt = (v2.toInt.toNat : Int) := by rw [f25]; omega
        have w32_2 : ∀ j : Nat, ¬ j = t1.toInt.toNat → fv P23 310 j = fv P 310 j := fun j hj => (f26 310 j (by omega)).trans (f20 310 j (by omega))
        have w32_s : SMV P P23 := ⟨congrArg Int32.toInt ((f26 301 19 (by omega)).trans (f20 301 19 (by omega))), congrArg Int32.toInt ((f26 301 20 (by omega)).trans (f20 301 20 (by omega))), fun j => (f26 302 j (by omega)).trans (f20 302 j (by omega)), fun j => (f26 312 j (by omega)).trans (f20 312 j (by omega))⟩
        have w32_v : (fv P23 301 21).toInt = (fv P 301 21).toInt := congrArg Int32.toInt ((f26 301 21 (by omega)).trans (f20 301 21 (by omega)))
        have w32_b := i_0.bnd w32_k (by show v2.toInt.toNat < (fv Po 301 20).toInt.toNat; omega) (by show t1.toInt.toNat + 1 + 5 = (fv Po 301 20).toInt.toNat; omega) w32_1 w32_2 w32_s w32_v
        have w32_n : (fv P23 301 20).toInt = (fv Po 301 20).toInt := w32_s.2.1.trans i_0.2.2.2.2.2.1
        have w32_T : TKN P23 (t1.toInt.toNat + 1) := TKN.add (P := P) (a := v2.toInt.toNat) (TKN.same hp3 i_0.2.1 i_0.2.2.1) (by rw [f26 313 v2.toInt.toNat (by omega), f19]; rfl) (fun l hl => (f26 313 l (by omega)).trans (f20 313 l (by omega))) w32_1 w32_2
        have e33 : (fv P23 301 20).toInt = (fv P 301 20).toInt := congrArg Int32.toInt ((f26 301 20 (ne_r rl_301 rl_310 rfl)).trans (f20 301 20 (ne_r rl_301 rl_313 rfl)))
        have g34 := ti_full (fv P23 301 21)
        have p35 : 0 ≤ z29.toInt := by omega
        have p36 : (fv P23 301 20).toInt = z29.toInt + 5 := by have q := w32_n; have q2 := hp1; omega
        have p37 : (fv P23 301 20).toInt ≤ 7 := by have q := w32_n; have q2 := hp2; omega
        have p38 : TKN P23 z29.toInt.toNat := by rw [show z29.toInt.toNat = t1.toInt.toNat + 1 from by omega]; exact w32_T
        have p39 : 0 ≤ (fv P23 301 21).toInt := by have q := w32_b.1; have q2 := hp4; have q3 := w32_v; omega
        have p40 : (fv P23 301 21).toInt + gMc P23 5 (oM P23) ≤ 2000000 := Int.le_trans w32_b.2 hp5
        refine mt_callv (i := 276) (q' := q_201) (As := [.int z29]) (rest := []) hT24 dX7_gives_132 rfl qm_201 (by decide) rfl rl_301 (by decide) rfl (Nat.le_of_ble_eq_true rfl) rfl ⟨rfl, rfl⟩ ⟨Nat.le_of_ble_eq_true rfl, Nat.le_of_ble_eq_true rfl⟩ (EvP.mono (by decide) (c_M_gives_r5 hT24 p35 p36 p37 p38 p39 p40 )) (fun r41 P42 g43 => mpp 135 rfl ?_)
        obtain ⟨⟨rfl, g45⟩, hT46, k47, R48⟩ := g43
        have k49 : KW [1109, 1664, 1728, 1856] Po P42 := KW.trans k28 k47 rfl
        replace g45 : GVP P23 P42 z29.toInt.toNat 5 := g45
        show MEvP _ none q_201 135 [(0, .ref 301), (1, .int t1), (2, .int v2)] [] _ _ _ _
        refine mp_a (a_aload_n dX7_gives_135 rfl) (mpp 136 rfl ?_)
        refine mt_getU (i := 43) (k := 18) (A := 313) hT46 dX7_gives_136 rfl rl_301 (by decide) rfl (by decide) rfl un_29 (mpp 139 rfl ?_)
        refine mp_a (a_iload_n dX7_gives_139 rfl) (mpp 140 rfl ?_)
        refine mp_a (a_iconst (v := 0) dX7_gives_140 rfl) (mpp 141 rfl ?_)
        refine mt_bas (n := 7) hT46 dX7_gives_141 rl_313 (by decide) rfl rfl (by omega) (by omega) rfl (by decide) (fun P51 hT52 f53 f54 f55 => mpp 142 rfl ?_)
        have k56 : KW [1109, 1664, 1728, 1856] Po P51 := KW.step k49 rl_313 rfl f54 f55
        obtain ⟨z57, h58⟩ := ti_ex (v2 + 1 : Int32)
        have wz57 := ti_full z57
        refine mp_a (a_iinc (v := z57) (L' := [(2, .int z57), (0, .ref 301), (1, .int t1)]) dX7_gives_142 (by decide) rfl h58 rfl) (mpp 145 rfl ?_)
        try have e59 : z57.toInt = v2.toInt + 1 := ti_addz h58 rfl rfl (by omega) (by omega)
        refine mp_a (a_goto (t := 63) dX7_gives_145 (by decide)) ?_
        refine MEvP.less (L := [(0, .ref 301), (1, .int t1), (2, .int z57)]) rfl rfl ⟨rfl, rfl, rfl, trivial⟩ ?_
        have w61_f := i_0.2.2.2.2.fns
        have w61_t : (fv P 313 v2.toInt.toNat).toInt = 1 ↔ ∃ j : Nat, j < t1.toInt.toNat ∧ (fv Po 310 j).toInt = (v2.toInt.toNat : Int) := by rw [i_0.2.2.1 v2.toInt.toNat (by omega)]; exact hp3 v2.toInt.toNat (by omega)
        have w61_g : GVP P23 P42 (t1.toInt.toNat + 1) 5 := by have q := g45; rw [show z29.toInt.toNat = t1.toInt.toNat + 1 from by omega] at q; exact q
        have i60 : GI Po P51 t1.toInt.toNat 5 z57.toInt.toNat := i_0.go w32_k (by show t1.toInt.toNat + 1 + 5 = (fv Po 301 20).toInt.toNat; omega) hp4 w32_1 w32_2 w32_s w32_v (fun j => (f26 311 j (by omega)).trans (f20 311 j (by omega))) (fun l hl => (f26 313 l (by omega)).trans (f20 313 l (by omega))) w61_g ⟨congrArg Int32.toInt (KW.at k47 19 rl_301 rfl), congrArg Int32.toInt (KW.at k47 20 rl_301 rfl), fun j => KW.at k47 j rl_302 rfl, fun j => KW.at k47 j rl_312 rfl⟩ (congrArg Int32.toInt (f54 301 21 (by omega))) (fun j => f54 310 j (by omega)) (fun j => f54 311 j (by omega)) (fun l hl => f54 313 l (by omega)) (f53.trans (Int32.toInt_inj.mp (show (0 : Int) = (fv Po 313 v2.toInt.toNat).toInt from by rw [← i_0.2.2.1 v2.toInt.toNat (by omega)]; omega))) ⟨congrArg Int32.toInt (f54 301 19 (by omega)), congrArg Int32.toInt (f54 301 20 (by omega)), fun j => f54 302 j (by omega), fun j => f54 312 j (by omega)⟩ (by omega)
        have i62 : z57.toInt ≤ (fv Po 301 20).toInt := by omega
        have i63 : 0 ≤ z57.toInt := by omega
        exact ih _ (by omega) _ P51 hT52 k56 i60 i62 i63 rfl
      · have c16 : t1.toInt > 0 := ti_le_n c16
        refine mp_a (a_iload_n dX7_gives_84 rfl) (mpp 85 rfl ?_)
        refine mp_a (a_aload_n dX7_gives_85 rfl) (mpp 86 rfl ?_)
        refine mt_getU (i := 34) (k := 15) (A := 310) hT dX7_gives_86 rfl rl_301 (by decide) rfl (by decide) rfl un_26 (mpp 89 rfl ?_)
        refine mp_a (a_iload_n dX7_gives_89 rfl) (mpp 90 rfl ?_)
        refine mp_a (a_iconst (v := 1) dX7_gives_90 rfl) (mpp 91 rfl ?_)
        obtain ⟨z64, h65⟩ := ti_ex (t1 - 1 : Int32)
        have wz64 := ti_full z64
        refine mp_t (s_isub (v := z64) dX7_gives_91 h65) (mpp 92 rfl ?_)
        try have e66 : z64.toInt = t1.toInt - 1 := ti_subz h65 rfl rfl (by omega) (by omega)
        refine mt_ial (n := 7) hT dX7_gives_92 rl_310 (by decide) rfl rfl (by omega) (by omega) rfl (fun g67 g68 => mpp 93 rfl ?_)
        refine mp_Tb (t := 100) (j_icmp_le dX7_gives_93) (by decide) (fun c69 => ?_) (fun c69 => mpp 96 rfl ?_)
        · have c69 : v2.toInt ≤ (fv P 310 z64.toInt.toNat).toInt := ti_le c69
          refine mp_a (a_iconst (v := 0) dX7_gives_100 rfl) (mpp 101 rfl ?_)
          refine mp_a (a_aload_n dX7_gives_101 rfl) (mpp 102 rfl ?_)
          refine mp_a (a_iload_n dX7_gives_102 rfl) (mpp 103 rfl ?_)
          refine mp_a (a_iconst (v := 1) dX7_gives_103 rfl) (mpp 104 rfl ?_)
          obtain ⟨z70, h71⟩ := ti_ex (t1 - 1 : Int32)
          have wz70 := ti_full z70
          refine mp_t (s_isub (v := z70) dX7_gives_104 h71) (mpp 105 rfl ?_)
          try have e72 : z70.toInt = t1.toInt - 1 := ti_subz h71 rfl rfl (by omega) (by omega)
          have p73 : 0 ≤ z70.toInt := by omega
          have p74 : z70.toInt ≤ 7 := by omega
          refine mt_callv (i := 273) (q' := q_206) (As := [.int z70]) (rest := [.int 0]) hT dX7_gives_105 rfl qm_206 (by decide) rfl rl_301 (by decide) rfl (Nat.le_of_ble_eq_true rfl) rfl ⟨rfl, rfl⟩ ⟨Nat.le_of_ble_eq_true rfl, Nat.le_of_ble_eq_true rfl⟩ (EvP.mono (by decide) (c_M_isAbove hT p73 p74 )) (fun r75 P76 g77 => mpp 108 rfl ?_)
          obtain ⟨⟨x78, rfl, g79⟩, e80⟩ := g77
          have e80 := e80.symm
          subst e80
          have wx78 := ti_full x78
          replace g79 : 0 ≤ x78.toInt ∧ x78.toInt ≤ 1 ∧ ((x78.toInt = 1 ∧ abv (crM P) z70.toInt.toNat) ∨ (x78.toInt = 0 ∧ ¬ abv (crM P) z70.toInt.toNat)) := g79
          show MEvP _ none q_201 108 [(0, .ref 301), (1, .int t1), (2, .int v2)] [.int x78, .int 0] _ _ _ _
          refine mp_Tb (t := 114) (j_icmp_eq dX7_gives_108) (by decide) (fun c81 => ?_) (fun c81 => mpp 111 rfl ?_)
          · have c81 : 0 = x78.toInt := ti_eq c81
            refine mp_a (a_aload_n dX7_gives_114 rfl) (mpp 115 rfl ?_)
            refine mt_getU (i := 43) (k := 18) (A := 313) hT dX7_gives_115 rfl rl_301 (by decide) rfl (by decide) rfl un_29 (mpp 118 rfl ?_)
            refine mp_a (a_iload_n dX7_gives_118 rfl) (mpp 119 rfl ?_)
            refine mp_a (a_iconst (v := 1) dX7_gives_119 rfl) (mpp 120 rfl ?_)
            refine mt_bas (n := 7) hT dX7_gives_120 rl_313 (by decide) rfl rfl (by omega) (by omega) rfl (by decide) (fun P82 hT83 f84 f85 f86 => mpp 121 rfl ?_)
            have k87 : KW [1109, 1664, 1728, 1856] Po P82 := KW.step hK rl_313 rfl f85 f86
            refine mp_a (a_aload_n dX7_gives_121 rfl) (mpp 122 rfl ?_)
            refine mt_getU (i := 34) (k := 15) (A := 310) hT83 dX7_gives_122 rfl rl_301 (by decide) rfl (by decide) rfl un_26 (mpp 125 rfl ?_)
            refine mp_a (a_iload_n dX7_gives_125 rfl) (mpp 126 rfl ?_)
            refine mp_a (a_iload_n dX7_gives_126 rfl) (mpp 127 rfl ?_)
            refine mt_ias (n := 7) hT83 dX7_gives_127 rl_310 (by decide) rfl rfl (by omega) (by omega) rfl (ti_full v2) (fun P88 hT89 f90 f91 f92 => mpp 128 rfl ?_)
            have k93 : KW [1109, 1664, 1728, 1856] Po P88 := KW.step k87 rl_310 rfl f91 f92
            refine mp_a (a_aload_n dX7_gives_128 rfl) (mpp 129 rfl ?_)
            refine mp_a (a_iload_n dX7_gives_129 rfl) (mpp 130 rfl ?_)
            refine mp_a (a_iconst (v := 1) dX7_gives_130 rfl) (mpp 131 rfl ?_)
            obtain ⟨z94, h95⟩ := ti_ex (t1 + 1 : Int32)
            have wz94 := ti_full z94
            refine mp_t (s_iadd (v := z94) dX7_gives_131 h95) (mpp 132 rfl ?_)
            try have e96 : z94.toInt = t1.toInt + 1 := ti_addz h95 rfl rfl (by omega) (by omega)
            have w97_f := i_0.2.2.2.2.fns
            have w97_t : (fv P 313 v2.toInt.toNat).toInt = 1 ↔ ∃ j : Nat, j < t1.toInt.toNat ∧ (fv Po 310 j).toInt = (v2.toInt.toNat : Int) := by rw [i_0.2.2.1 v2.toInt.toNat (by omega)]; exact hp3 v2.toInt.toNat (by omega)
            have w97_a := g79.2.2
            rw [show z70.toInt.toNat = t1.toInt.toNat - 1 from by omega, show crM P = crM Po from w97_f.2.1] at w97_a
            have w97_o : (fv Po 310 (t1.toInt.toNat - 1)).toInt = (fv P 310 z70.toInt.toNat).toInt := by rw [show z70.toInt.toNat = t1.toInt.toNat - 1 from by omega, i_0.2.1 (t1.toInt.toNat - 1) (by omega)]
            have w97_c : (fv Po 310 (t1.toInt.toNat - 1)).toInt < (v2.toInt.toNat : Int) ↔ abv (crM Po) (t1.toInt.toNat - 1) := by
              rcases w97_a with ⟨a1, a2⟩ | ⟨a1, a2⟩
              · exact ⟨fun _ => a2, fun _ => by omega⟩
              · exact ⟨fun _ => by omega, fun q => absurd q a2⟩
            have w97_k : okO (crM Po) (oM Po) t1.toInt.toNat (v2.toInt.toNat : Int) := ⟨(fun j j1 j2 => by have q := w97_t.mpr ⟨j, j1, j2⟩; omega), Or.inr w97_c⟩
            have w97_1 : (fv P88 310 t1.toInt.toNat).toInt = (v2.toInt.toNat : Int) := by rw [f90]; omega
            have w97_2 : ∀ j : Nat, ¬ j = t1.toInt.toNat → fv P88 310 j = fv P 310 j := fun j hj => (f91 310 j (by omega)).trans (f85 310 j (by omega))
            have w97_s : SMV P P88 := ⟨congrArg Int32.toInt ((f91 301 19 (by omega)).trans (f85 301 19 (by omega))), congrArg Int32.toInt ((f91 301 20 (by omega)).trans (f85 301 20 (by omega))), fun j => (f91 302 j (by omega)).trans (f85 302 j (by omega)), fun j => (f91 312 j (by omega)).trans (f85 312 j (by omega))⟩
            have w97_v : (fv P88 301 21).toInt = (fv P 301 21).toInt := congrArg Int32.toInt ((f91 301 21 (by omega)).trans (f85 301 21 (by omega)))
            have w97_b := i_0.bnd w97_k (by show v2.toInt.toNat < (fv Po 301 20).toInt.toNat; omega) (by show t1.toInt.toNat + 1 + 5 = (fv Po 301 20).toInt.toNat; omega) w97_1 w97_2 w97_s w97_v
            have w97_n : (fv P88 301 20).toInt = (fv Po 301 20).toInt := w97_s.2.1.trans i_0.2.2.2.2.2.1
            have w97_T : TKN P88 (t1.toInt.toNat + 1) := TKN.add (P := P) (a := v2.toInt.toNat) (TKN.same hp3 i_0.2.1 i_0.2.2.1) (by rw [f91 313 v2.toInt.toNat (by omega), f84]; rfl) (fun l hl => (f91 313 l (by omega)).trans (f85 313 l (by omega))) w97_1 w97_2
            have e98 : (fv P88 301 20).toInt = (fv P 301 20).toInt := congrArg Int32.toInt ((f91 301 20 (ne_r rl_301 rl_310 rfl)).trans (f85 301 20 (ne_r rl_301 rl_313 rfl)))
            have g99 := ti_full (fv P88 301 21)
            have p100 : 0 ≤ z94.toInt := by omega
            have p101 : (fv P88 301 20).toInt = z94.toInt + 5 := by have q := w97_n; have q2 := hp1; omega
            have p102 : (fv P88 301 20).toInt ≤ 7 := by have q := w97_n; have q2 := hp2; omega
            have p103 : TKN P88 z94.toInt.toNat := by rw [show z94.toInt.toNat = t1.toInt.toNat + 1 from by omega]; exact w97_T
            have p104 : 0 ≤ (fv P88 301 21).toInt := by have q := w97_b.1; have q2 := hp4; have q3 := w97_v; omega
            have p105 : (fv P88 301 21).toInt + gMc P88 5 (oM P88) ≤ 2000000 := Int.le_trans w97_b.2 hp5
            refine mt_callv (i := 276) (q' := q_201) (As := [.int z94]) (rest := []) hT89 dX7_gives_132 rfl qm_201 (by decide) rfl rl_301 (by decide) rfl (Nat.le_of_ble_eq_true rfl) rfl ⟨rfl, rfl⟩ ⟨Nat.le_of_ble_eq_true rfl, Nat.le_of_ble_eq_true rfl⟩ (EvP.mono (by decide) (c_M_gives_r5 hT89 p100 p101 p102 p103 p104 p105 )) (fun r106 P107 g108 => mpp 135 rfl ?_)
            obtain ⟨⟨rfl, g110⟩, hT111, k112, R113⟩ := g108
            have k114 : KW [1109, 1664, 1728, 1856] Po P107 := KW.trans k93 k112 rfl
            replace g110 : GVP P88 P107 z94.toInt.toNat 5 := g110
            show MEvP _ none q_201 135 [(0, .ref 301), (1, .int t1), (2, .int v2)] [] _ _ _ _
            refine mp_a (a_aload_n dX7_gives_135 rfl) (mpp 136 rfl ?_)
            refine mt_getU (i := 43) (k := 18) (A := 313) hT111 dX7_gives_136 rfl rl_301 (by decide) rfl (by decide) rfl un_29 (mpp 139 rfl ?_)
            refine mp_a (a_iload_n dX7_gives_139 rfl) (mpp 140 rfl ?_)
            refine mp_a (a_iconst (v := 0) dX7_gives_140 rfl) (mpp 141 rfl ?_)
            refine mt_bas (n := 7) hT111 dX7_gives_141 rl_313 (by decide) rfl rfl (by omega) (by omega) rfl (by decide) (fun P116 hT117 f118 f119 f120 => mpp 142 rfl ?_)
            have k121 : KW [1109, 1664, 1728, 1856] Po P116 := KW.step k114 rl_313 rfl f119 f120
            obtain ⟨z122, h123⟩ := ti_ex (v2 + 1 : Int32)
            have wz122 := ti_full z122
            refine mp_a (a_iinc (v := z122) (L' := [(2, .int z122), (0, .ref 301), (1, .int t1)]) dX7_gives_142 (by decide) rfl h123 rfl) (mpp 145 rfl ?_)
            try have e124 : z122.toInt = v2.toInt + 1 := ti_addz h123 rfl rfl (by omega) (by omega)
            refine mp_a (a_goto (t := 63) dX7_gives_145 (by decide)) ?_
            refine MEvP.less (L := [(0, .ref 301), (1, .int t1), (2, .int z122)]) rfl rfl ⟨rfl, rfl, rfl, trivial⟩ ?_
            have w126_f := i_0.2.2.2.2.fns
            have w126_t : (fv P 313 v2.toInt.toNat).toInt = 1 ↔ ∃ j : Nat, j < t1.toInt.toNat ∧ (fv Po 310 j).toInt = (v2.toInt.toNat : Int) := by rw [i_0.2.2.1 v2.toInt.toNat (by omega)]; exact hp3 v2.toInt.toNat (by omega)
            have w126_a := g79.2.2
            rw [show z70.toInt.toNat = t1.toInt.toNat - 1 from by omega, show crM P = crM Po from w126_f.2.1] at w126_a
            have w126_o : (fv Po 310 (t1.toInt.toNat - 1)).toInt = (fv P 310 z70.toInt.toNat).toInt := by rw [show z70.toInt.toNat = t1.toInt.toNat - 1 from by omega, i_0.2.1 (t1.toInt.toNat - 1) (by omega)]
            have w126_g : GVP P88 P107 (t1.toInt.toNat + 1) 5 := by have q := g110; rw [show z94.toInt.toNat = t1.toInt.toNat + 1 from by omega] at q; exact q
            have i125 : GI Po P116 t1.toInt.toNat 5 z122.toInt.toNat := i_0.go w97_k (by show t1.toInt.toNat + 1 + 5 = (fv Po 301 20).toInt.toNat; omega) hp4 w97_1 w97_2 w97_s w97_v (fun j => (f91 311 j (by omega)).trans (f85 311 j (by omega))) (fun l hl => (f91 313 l (by omega)).trans (f85 313 l (by omega))) w126_g ⟨congrArg Int32.toInt (KW.at k112 19 rl_301 rfl), congrArg Int32.toInt (KW.at k112 20 rl_301 rfl), fun j => KW.at k112 j rl_302 rfl, fun j => KW.at k112 j rl_312 rfl⟩ (congrArg Int32.toInt (f119 301 21 (by omega))) (fun j => f119 310 j (by omega)) (fun j => f119 311 j (by omega)) (fun l hl => f119 313 l (by omega)) (f118.trans (Int32.toInt_inj.mp (show (0 : Int) = (fv Po 313 v2.toInt.toNat).toInt from by rw [← i_0.2.2.1 v2.toInt.toNat (by omega)]; omega))) ⟨congrArg Int32.toInt (f119 301 19 (by omega)), congrArg Int32.toInt (f119 301 20 (by omega)), fun j => f119 302 j (by omega), fun j => f119 312 j (by omega)⟩ (by omega)
            have i127 : z122.toInt ≤ (fv Po 301 20).toInt := by omega
            have i128 : 0 ≤ z122.toInt := by omega
            exact ih _ (by omega) _ P116 hT117 k121 i125 i127 i128 rfl
          · have c81 : 0 ≠ x78.toInt := ti_eq_n c81
            refine mp_a (a_goto (t := 142) dX7_gives_111 (by decide)) ?_
            obtain ⟨z129, h130⟩ := ti_ex (v2 + 1 : Int32)
            have wz129 := ti_full z129
            refine mp_a (a_iinc (v := z129) (L' := [(2, .int z129), (0, .ref 301), (1, .int t1)]) dX7_gives_142 (by decide) rfl h130 rfl) (mpp 145 rfl ?_)
            try have e131 : z129.toInt = v2.toInt + 1 := ti_addz h130 rfl rfl (by omega) (by omega)
            refine mp_a (a_goto (t := 63) dX7_gives_145 (by decide)) ?_
            refine MEvP.less (L := [(0, .ref 301), (1, .int t1), (2, .int z129)]) rfl rfl ⟨rfl, rfl, rfl, trivial⟩ ?_
            have w133_f := i_0.2.2.2.2.fns
            have w133_t : (fv P 313 v2.toInt.toNat).toInt = 1 ↔ ∃ j : Nat, j < t1.toInt.toNat ∧ (fv Po 310 j).toInt = (v2.toInt.toNat : Int) := by rw [i_0.2.2.1 v2.toInt.toNat (by omega)]; exact hp3 v2.toInt.toNat (by omega)
            have w133_a := g79.2.2
            rw [show z70.toInt.toNat = t1.toInt.toNat - 1 from by omega, show crM P = crM Po from w133_f.2.1] at w133_a
            have w133_o : (fv Po 310 (t1.toInt.toNat - 1)).toInt = (fv P 310 z70.toInt.toNat).toInt := by rw [show z70.toInt.toNat = t1.toInt.toNat - 1 from by omega, i_0.2.1 (t1.toInt.toNat - 1) (by omega)]
            have i132 : GI Po P t1.toInt.toNat 5 z129.toInt.toNat := i_0.skip (fun q => by have q2 : (fv Po 310 (t1.toInt.toNat - 1)).toInt < (v2.toInt.toNat : Int) ↔ abv (crM Po) (t1.toInt.toNat - 1) := q.2.resolve_left (by omega)
                rcases w133_a with ⟨a1, a2⟩ | ⟨a1, a2⟩
                · have q3 := q2.mpr a2; omega
                · by_cases q4 : (fv Po 310 (t1.toInt.toNat - 1)).toInt < (v2.toInt.toNat : Int)
                  · exact a2 (q2.mp q4)
                  · omega) (by omega)
            have i134 : z129.toInt ≤ (fv Po 301 20).toInt := by omega
            have i135 : 0 ≤ z129.toInt := by omega
            exact ih _ (by omega) _ P hT hK i132 i134 i135 rfl
        · have c69 : v2.toInt > (fv P 310 z64.toInt.toNat).toInt := ti_le_n c69
          refine mp_a (a_iconst (v := 1) dX7_gives_96 rfl) (mpp 97 rfl ?_)
          refine mp_a (a_goto (t := 101) dX7_gives_97 (by decide)) ?_
          refine mp_a (a_aload_n dX7_gives_101 rfl) (mpp 102 rfl ?_)
          refine mp_a (a_iload_n dX7_gives_102 rfl) (mpp 103 rfl ?_)
          refine mp_a (a_iconst (v := 1) dX7_gives_103 rfl) (mpp 104 rfl ?_)
          obtain ⟨z136, h137⟩ := ti_ex (t1 - 1 : Int32)
          have wz136 := ti_full z136
          refine mp_t (s_isub (v := z136) dX7_gives_104 h137) (mpp 105 rfl ?_)
          try have e138 : z136.toInt = t1.toInt - 1 := ti_subz h137 rfl rfl (by omega) (by omega)
          have p139 : 0 ≤ z136.toInt := by omega
          have p140 : z136.toInt ≤ 7 := by omega
          refine mt_callv (i := 273) (q' := q_206) (As := [.int z136]) (rest := [.int 1]) hT dX7_gives_105 rfl qm_206 (by decide) rfl rl_301 (by decide) rfl (Nat.le_of_ble_eq_true rfl) rfl ⟨rfl, rfl⟩ ⟨Nat.le_of_ble_eq_true rfl, Nat.le_of_ble_eq_true rfl⟩ (EvP.mono (by decide) (c_M_isAbove hT p139 p140 )) (fun r141 P142 g143 => mpp 108 rfl ?_)
          obtain ⟨⟨x144, rfl, g145⟩, e146⟩ := g143
          have e146 := e146.symm
          subst e146
          have wx144 := ti_full x144
          replace g145 : 0 ≤ x144.toInt ∧ x144.toInt ≤ 1 ∧ ((x144.toInt = 1 ∧ abv (crM P) z136.toInt.toNat) ∨ (x144.toInt = 0 ∧ ¬ abv (crM P) z136.toInt.toNat)) := g145
          show MEvP _ none q_201 108 [(0, .ref 301), (1, .int t1), (2, .int v2)] [.int x144, .int 1] _ _ _ _
          refine mp_Tb (t := 114) (j_icmp_eq dX7_gives_108) (by decide) (fun c147 => ?_) (fun c147 => mpp 111 rfl ?_)
          · have c147 : 1 = x144.toInt := ti_eq c147
            refine mp_a (a_aload_n dX7_gives_114 rfl) (mpp 115 rfl ?_)
            refine mt_getU (i := 43) (k := 18) (A := 313) hT dX7_gives_115 rfl rl_301 (by decide) rfl (by decide) rfl un_29 (mpp 118 rfl ?_)
            refine mp_a (a_iload_n dX7_gives_118 rfl) (mpp 119 rfl ?_)
            refine mp_a (a_iconst (v := 1) dX7_gives_119 rfl) (mpp 120 rfl ?_)
            refine mt_bas (n := 7) hT dX7_gives_120 rl_313 (by decide) rfl rfl (by omega) (by omega) rfl (by decide) (fun P148 hT149 f150 f151 f152 => mpp 121 rfl ?_)
            have k153 : KW [1109, 1664, 1728, 1856] Po P148 := KW.step hK rl_313 rfl f151 f152
            refine mp_a (a_aload_n dX7_gives_121 rfl) (mpp 122 rfl ?_)
            refine mt_getU (i := 34) (k := 15) (A := 310) hT149 dX7_gives_122 rfl rl_301 (by decide) rfl (by decide) rfl un_26 (mpp 125 rfl ?_)
            refine mp_a (a_iload_n dX7_gives_125 rfl) (mpp 126 rfl ?_)
            refine mp_a (a_iload_n dX7_gives_126 rfl) (mpp 127 rfl ?_)
            refine mt_ias (n := 7) hT149 dX7_gives_127 rl_310 (by decide) rfl rfl (by omega) (by omega) rfl (ti_full v2) (fun P154 hT155 f156 f157 f158 => mpp 128 rfl ?_)
            have k159 : KW [1109, 1664, 1728, 1856] Po P154 := KW.step k153 rl_310 rfl f157 f158
            refine mp_a (a_aload_n dX7_gives_128 rfl) (mpp 129 rfl ?_)
            refine mp_a (a_iload_n dX7_gives_129 rfl) (mpp 130 rfl ?_)
            refine mp_a (a_iconst (v := 1) dX7_gives_130 rfl) (mpp 131 rfl ?_)
            obtain ⟨z160, h161⟩ := ti_ex (t1 + 1 : Int32)
            have wz160 := ti_full z160
            refine mp_t (s_iadd (v := z160) dX7_gives_131 h161) (mpp 132 rfl ?_)
            try have e162 : z160.toInt = t1.toInt + 1 := ti_addz h161 rfl rfl (by omega) (by omega)
            have w163_f := i_0.2.2.2.2.fns
            have w163_t : (fv P 313 v2.toInt.toNat).toInt = 1 ↔ ∃ j : Nat, j < t1.toInt.toNat ∧ (fv Po 310 j).toInt = (v2.toInt.toNat : Int) := by rw [i_0.2.2.1 v2.toInt.toNat (by omega)]; exact hp3 v2.toInt.toNat (by omega)
            have w163_a := g145.2.2
            rw [show z136.toInt.toNat = t1.toInt.toNat - 1 from by omega, show crM P = crM Po from w163_f.2.1] at w163_a
            have w163_o : (fv Po 310 (t1.toInt.toNat - 1)).toInt = (fv P 310 z136.toInt.toNat).toInt := by rw [show z136.toInt.toNat = t1.toInt.toNat - 1 from by omega, i_0.2.1 (t1.toInt.toNat - 1) (by omega)]
            have w163_c : (fv Po 310 (t1.toInt.toNat - 1)).toInt < (v2.toInt.toNat : Int) ↔ abv (crM Po) (t1.toInt.toNat - 1) := by
              rcases w163_a with ⟨a1, a2⟩ | ⟨a1, a2⟩
              · exact ⟨fun _ => a2, fun _ => by omega⟩
              · exact ⟨fun _ => by omega, fun q => absurd q a2⟩
            have w163_k : okO (crM Po) (oM Po) t1.toInt.toNat (v2.toInt.toNat : Int) := ⟨(fun j j1 j2 => by have q := w163_t.mpr ⟨j, j1, j2⟩; omega), Or.inr w163_c⟩
            have w163_1 : (fv P154 310 t1.toInt.toNat).toInt = (v2.toInt.toNat : Int) := by rw [f156]; omega
            have w163_2 : ∀ j : Nat, ¬ j = t1.toInt.toNat → fv P154 310 j = fv P 310 j := fun j hj => (f157 310 j (by omega)).trans (f151 310 j (by omega))
            have w163_s : SMV P P154 := ⟨congrArg Int32.toInt ((f157 301 19 (by omega)).trans (f151 301 19 (by omega))), congrArg Int32.toInt ((f157 301 20 (by omega)).trans (f151 301 20 (by omega))), fun j => (f157 302 j (by omega)).trans (f151 302 j (by omega)), fun j => (f157 312 j (by omega)).trans (f151 312 j (by omega))⟩
            have w163_v : (fv P154 301 21).toInt = (fv P 301 21).toInt := congrArg Int32.toInt ((f157 301 21 (by omega)).trans (f151 301 21 (by omega)))
            have w163_b := i_0.bnd w163_k (by show v2.toInt.toNat < (fv Po 301 20).toInt.toNat; omega) (by show t1.toInt.toNat + 1 + 5 = (fv Po 301 20).toInt.toNat; omega) w163_1 w163_2 w163_s w163_v
            have w163_n : (fv P154 301 20).toInt = (fv Po 301 20).toInt := w163_s.2.1.trans i_0.2.2.2.2.2.1
            have w163_T : TKN P154 (t1.toInt.toNat + 1) := TKN.add (P := P) (a := v2.toInt.toNat) (TKN.same hp3 i_0.2.1 i_0.2.2.1) (by rw [f157 313 v2.toInt.toNat (by omega), f150]; rfl) (fun l hl => (f157 313 l (by omega)).trans (f151 313 l (by omega))) w163_1 w163_2
            have e164 : (fv P154 301 20).toInt = (fv P 301 20).toInt := congrArg Int32.toInt ((f157 301 20 (ne_r rl_301 rl_310 rfl)).trans (f151 301 20 (ne_r rl_301 rl_313 rfl)))
            have g165 := ti_full (fv P154 301 21)
            have p166 : 0 ≤ z160.toInt := by omega
            have p167 : (fv P154 301 20).toInt = z160.toInt + 5 := by have q := w163_n; have q2 := hp1; omega
            have p168 : (fv P154 301 20).toInt ≤ 7 := by have q := w163_n; have q2 := hp2; omega
            have p169 : TKN P154 z160.toInt.toNat := by rw [show z160.toInt.toNat = t1.toInt.toNat + 1 from by omega]; exact w163_T
            have p170 : 0 ≤ (fv P154 301 21).toInt := by have q := w163_b.1; have q2 := hp4; have q3 := w163_v; omega
            have p171 : (fv P154 301 21).toInt + gMc P154 5 (oM P154) ≤ 2000000 := Int.le_trans w163_b.2 hp5
            refine mt_callv (i := 276) (q' := q_201) (As := [.int z160]) (rest := []) hT155 dX7_gives_132 rfl qm_201 (by decide) rfl rl_301 (by decide) rfl (Nat.le_of_ble_eq_true rfl) rfl ⟨rfl, rfl⟩ ⟨Nat.le_of_ble_eq_true rfl, Nat.le_of_ble_eq_true rfl⟩ (EvP.mono (by decide) (c_M_gives_r5 hT155 p166 p167 p168 p169 p170 p171 )) (fun r172 P173 g174 => mpp 135 rfl ?_)
            obtain ⟨⟨rfl, g176⟩, hT177, k178, R179⟩ := g174
            have k180 : KW [1109, 1664, 1728, 1856] Po P173 := KW.trans k159 k178 rfl
            replace g176 : GVP P154 P173 z160.toInt.toNat 5 := g176
            show MEvP _ none q_201 135 [(0, .ref 301), (1, .int t1), (2, .int v2)] [] _ _ _ _
            refine mp_a (a_aload_n dX7_gives_135 rfl) (mpp 136 rfl ?_)
            refine mt_getU (i := 43) (k := 18) (A := 313) hT177 dX7_gives_136 rfl rl_301 (by decide) rfl (by decide) rfl un_29 (mpp 139 rfl ?_)
            refine mp_a (a_iload_n dX7_gives_139 rfl) (mpp 140 rfl ?_)
            refine mp_a (a_iconst (v := 0) dX7_gives_140 rfl) (mpp 141 rfl ?_)
            refine mt_bas (n := 7) hT177 dX7_gives_141 rl_313 (by decide) rfl rfl (by omega) (by omega) rfl (by decide) (fun P182 hT183 f184 f185 f186 => mpp 142 rfl ?_)
            have k187 : KW [1109, 1664, 1728, 1856] Po P182 := KW.step k180 rl_313 rfl f185 f186
            obtain ⟨z188, h189⟩ := ti_ex (v2 + 1 : Int32)
            have wz188 := ti_full z188
            refine mp_a (a_iinc (v := z188) (L' := [(2, .int z188), (0, .ref 301), (1, .int t1)]) dX7_gives_142 (by decide) rfl h189 rfl) (mpp 145 rfl ?_)
            try have e190 : z188.toInt = v2.toInt + 1 := ti_addz h189 rfl rfl (by omega) (by omega)
            refine mp_a (a_goto (t := 63) dX7_gives_145 (by decide)) ?_
            refine MEvP.less (L := [(0, .ref 301), (1, .int t1), (2, .int z188)]) rfl rfl ⟨rfl, rfl, rfl, trivial⟩ ?_
            have w192_f := i_0.2.2.2.2.fns
            have w192_t : (fv P 313 v2.toInt.toNat).toInt = 1 ↔ ∃ j : Nat, j < t1.toInt.toNat ∧ (fv Po 310 j).toInt = (v2.toInt.toNat : Int) := by rw [i_0.2.2.1 v2.toInt.toNat (by omega)]; exact hp3 v2.toInt.toNat (by omega)
            have w192_a := g145.2.2
            rw [show z136.toInt.toNat = t1.toInt.toNat - 1 from by omega, show crM P = crM Po from w192_f.2.1] at w192_a
            have w192_o : (fv Po 310 (t1.toInt.toNat - 1)).toInt = (fv P 310 z136.toInt.toNat).toInt := by rw [show z136.toInt.toNat = t1.toInt.toNat - 1 from by omega, i_0.2.1 (t1.toInt.toNat - 1) (by omega)]
            have w192_g : GVP P154 P173 (t1.toInt.toNat + 1) 5 := by have q := g176; rw [show z160.toInt.toNat = t1.toInt.toNat + 1 from by omega] at q; exact q
            have i191 : GI Po P182 t1.toInt.toNat 5 z188.toInt.toNat := i_0.go w163_k (by show t1.toInt.toNat + 1 + 5 = (fv Po 301 20).toInt.toNat; omega) hp4 w163_1 w163_2 w163_s w163_v (fun j => (f157 311 j (by omega)).trans (f151 311 j (by omega))) (fun l hl => (f157 313 l (by omega)).trans (f151 313 l (by omega))) w192_g ⟨congrArg Int32.toInt (KW.at k178 19 rl_301 rfl), congrArg Int32.toInt (KW.at k178 20 rl_301 rfl), fun j => KW.at k178 j rl_302 rfl, fun j => KW.at k178 j rl_312 rfl⟩ (congrArg Int32.toInt (f185 301 21 (by omega))) (fun j => f185 310 j (by omega)) (fun j => f185 311 j (by omega)) (fun l hl => f185 313 l (by omega)) (f184.trans (Int32.toInt_inj.mp (show (0 : Int) = (fv Po 313 v2.toInt.toNat).toInt from by rw [← i_0.2.2.1 v2.toInt.toNat (by omega)]; omega))) ⟨congrArg Int32.toInt (f185 301 19 (by omega)), congrArg Int32.toInt (f185 301 20 (by omega)), fun j => f185 302 j (by omega), fun j => f185 312 j (by omega)⟩ (by omega)
            have i193 : z188.toInt ≤ (fv Po 301 20).toInt := by omega
            have i194 : 0 ≤ z188.toInt := by omega
            exact ih _ (by omega) _ P182 hT183 k187 i191 i193 i194 rfl
          · have c147 : 1 ≠ x144.toInt := ti_eq_n c147
            refine mp_a (a_goto (t := 142) dX7_gives_111 (by decide)) ?_
            obtain ⟨z195, h196⟩ := ti_ex (v2 + 1 : Int32)
            have wz195 := ti_full z195
            refine mp_a (a_iinc (v := z195) (L' := [(2, .int z195), (0, .ref 301), (1, .int t1)]) dX7_gives_142 (by decide) rfl h196 rfl) (mpp 145 rfl ?_)
            try have e197 : z195.toInt = v2.toInt + 1 := ti_addz h196 rfl rfl (by omega) (by omega)
            refine mp_a (a_goto (t := 63) dX7_gives_145 (by decide)) ?_
            refine MEvP.less (L := [(0, .ref 301), (1, .int t1), (2, .int z195)]) rfl rfl ⟨rfl, rfl, rfl, trivial⟩ ?_
            have w199_f := i_0.2.2.2.2.fns
            have w199_t : (fv P 313 v2.toInt.toNat).toInt = 1 ↔ ∃ j : Nat, j < t1.toInt.toNat ∧ (fv Po 310 j).toInt = (v2.toInt.toNat : Int) := by rw [i_0.2.2.1 v2.toInt.toNat (by omega)]; exact hp3 v2.toInt.toNat (by omega)
            have w199_a := g145.2.2
            rw [show z136.toInt.toNat = t1.toInt.toNat - 1 from by omega, show crM P = crM Po from w199_f.2.1] at w199_a
            have w199_o : (fv Po 310 (t1.toInt.toNat - 1)).toInt = (fv P 310 z136.toInt.toNat).toInt := by rw [show z136.toInt.toNat = t1.toInt.toNat - 1 from by omega, i_0.2.1 (t1.toInt.toNat - 1) (by omega)]
            have i198 : GI Po P t1.toInt.toNat 5 z195.toInt.toNat := i_0.skip (fun q => by have q2 : (fv Po 310 (t1.toInt.toNat - 1)).toInt < (v2.toInt.toNat : Int) ↔ abv (crM Po) (t1.toInt.toNat - 1) := q.2.resolve_left (by omega)
                rcases w199_a with ⟨a1, a2⟩ | ⟨a1, a2⟩
                · have q3 := q2.mpr a2; omega
                · by_cases q4 : (fv Po 310 (t1.toInt.toNat - 1)).toInt < (v2.toInt.toNat : Int)
                  · exact a2 (q2.mp q4)
                  · omega) (by omega)
            have i200 : z195.toInt ≤ (fv Po 301 20).toInt := by omega
            have i201 : 0 ≤ z195.toInt := by omega
            exact ih _ (by omega) _ P hT hK i198 i200 i201 rfl

set_option maxHeartbeats 4000000 in
theorem c_M_gives_r6 {Po : mP} {t1 : Int32} (hT : Typ Po)  (hp0 : 0 ≤ t1.toInt) (hp1 : (fv Po 301 20).toInt = t1.toInt + 6) (hp2 : (fv Po 301 20).toInt ≤ 7) (hp3 : TKN Po t1.toInt.toNat) (hp4 : 0 ≤ (fv Po 301 21).toInt) (hp5 : (fv Po 301 21).toInt + gMc Po 6 (oM Po) ≤ 2000000)  : EvP 11 201 [.ref 301, .int t1] Po (fun r P' => (r = none ∧ (GVP Po P' t1.toInt.toNat 6)) ∧ Typ P' ∧ KW [1109, 1664, 1728, 1856] Po P' ∧ True) := by
  refine EvP.of qm_201 (Nat.le_of_ble_eq_true rfl) rfl ?_
  show MEvP _ none q_201 0 [(0, .ref 301), (1, .int t1)] [] _ 0 0 _
  have w_t1 := ti_full t1
  have g1 : (0 : Int) ≤ (fv Po 301 20).toInt ∧ (fv Po 301 20).toInt ≤ 8 := Typ.rng hT rl_301 (by decide) (by decide) rfl
  have g2 := ti_full (fv Po 301 21)
  refine mp_a (a_iload_n dX7_gives_0 rfl) (mpp 1 rfl ?_)
  refine mp_a (a_aload_n dX7_gives_1 rfl) (mpp 2 rfl ?_)
  refine mt_getI (i := 255) (k := 20) hT dX7_gives_2 rfl rl_301 (by decide) rfl (by decide) rfl (fun g3 g4 => mpp 5 rfl ?_)
  refine mp_Tb (t := 61) (j_icmp_ne dX7_gives_5) (by decide) (fun c5 => ?_) (fun c5 => mpp 8 rfl ?_)
  · have c5 : t1.toInt ≠ (fv Po 301 20).toInt := ti_ne c5
    refine mp_a (a_iconst (v := 0) dX7_gives_61 rfl) (mpp 62 rfl ?_)
    refine mp_a (a_istore_n (L' := [(2, .int 0), (0, .ref 301), (1, .int t1)]) dX7_gives_62 (by decide) rfl) (mpp 63 rfl ?_)
    refine MEvP.less (L := [(0, .ref 301), (1, .int t1), (2, .int 0)]) rfl rfl ⟨rfl, rfl, rfl, trivial⟩ ?_
    have i6 : GI Po Po t1.toInt.toNat 5 (0 : Int).toNat := GI.start rfl
    have i7 : (0 : Int) ≤ (fv Po 301 20).toInt := by omega
    have i8 : 0 ≤ (0 : Int) := by omega
    exact c_M_gives_r6_l63   hp0 hp1 hp2 hp3 hp4 hp5 _ _ Po hT KW.refl i6 i7 i8 rfl
  · have c5 : t1.toInt = (fv Po 301 20).toInt := ti_ne_n c5
    exfalso
    omega

