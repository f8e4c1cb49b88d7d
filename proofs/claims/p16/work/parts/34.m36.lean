/-! methods on typed pools, 36 (written by a program) -/
set_option maxHeartbeats 4000000 in
theorem c_M_foldsOnStage {Po : mP} {t1 : Int32} (hT : Typ Po) (hR : Rel Po)  : EvP 8 188 [.ref 301, .int t1] Po (fun r P' => (∃ x : Int32, r = some (.int x) ∧ (foldsM (sr Po) (sr P') x.toInt t1.toInt)) ∧ Typ P' ∧ KW [1093, 1094, 1101, 1102, 1152, 1536, 1600] Po P' ∧ Rel P') := by
  refine EvP.of qm_188 (Nat.le_of_ble_eq_true rfl) rfl ?_
  show MEvP _ none q_188 0 [(0, .ref 301), (1, .int t1)] [] _ 0 0 _
  have w_t1 := ti_full t1
  refine mp_a (a_aload_n dX7_foldsOnStage_0 rfl) (mpp 1 rfl ?_)
  refine mp_a (a_iload_n dX7_foldsOnStage_1 rfl) (mpp 2 rfl ?_)
  refine mt_callv (i := 85) (q' := q_144) (As := [.int t1]) (rest := []) hT dX7_foldsOnStage_2 rfl qm_144 (by decide) rfl rl_301 (by decide) rfl (Nat.le_of_ble_eq_true rfl) rfl ⟨rfl, rfl⟩ ⟨Nat.le_of_ble_eq_true rfl, Nat.le_of_ble_eq_true rfl⟩ (EvP.mono (by decide) (c_M_isPiece hT )) (fun r1 P2 g3 => mpp 5 rfl ?_)
  obtain ⟨⟨x4, rfl, g5⟩, e6⟩ := g3
  have e6 := e6.symm
  subst e6
  have wx4 := ti_full x4
  replace g5 : 0 ≤ x4.toInt ∧ x4.toInt ≤ 1 ∧ ((x4.toInt = 1 ∧ 0 ≤ t1.toInt ∧ t1.toInt + 1 ≤ (fv Po 302 0).toInt ∧ t1.toInt ≤ 7) ∨ (x4.toInt = 0 ∧ (t1.toInt < 0 ∨ (fv Po 302 0).toInt ≤ t1.toInt))) := g5
  have g7 : (0 : Int) ≤ (fv Po 302 0).toInt ∧ (fv Po 302 0).toInt ≤ 8 := Typ.rng hT rl_302 (by decide) (by decide) rfl
  show MEvP _ none q_188 5 [(0, .ref 301), (1, .int t1)] [.int x4] _ _ _ _
  refine mp_Tb (t := 12) (j_if_ne dX7_foldsOnStage_5) (by decide) (fun c8 => ?_) (fun c8 => mpp 8 rfl ?_)
  · have c8 : x4.toInt ≠ 0 := ti_ne c8
    refine mp_a (a_aload_n dX7_foldsOnStage_12 rfl) (mpp 13 rfl ?_)
    refine mp_a (a_iload_n dX7_foldsOnStage_13 rfl) (mpp 14 rfl ?_)
    have p9 : 0 ≤ t1.toInt := by omega
    have p10 : t1.toInt ≤ 7 := by omega
    refine mt_callv (i := 130) (q' := q_145) (As := [.int t1]) (rest := []) hT dX7_foldsOnStage_14 rfl qm_145 (by decide) rfl rl_301 (by decide) rfl (Nat.le_of_ble_eq_true rfl) rfl ⟨rfl, rfl⟩ ⟨Nat.le_of_ble_eq_true rfl, Nat.le_of_ble_eq_true rfl⟩ (EvP.mono (by decide) (c_M_isFolded hT p9 p10 )) (fun r11 P12 g13 => mpp 17 rfl ?_)
    obtain ⟨⟨x14, rfl, g15⟩, e16⟩ := g13
    have e16 := e16.symm
    subst e16
    have wx14 := ti_full x14
    replace g15 : 0 ≤ x14.toInt ∧ x14.toInt ≤ 1 ∧ ((x14.toInt = 1 ∧ (fv Po 302 (5 + 19 * t1.toInt.toNat)).toInt = 1) ∨ (x14.toInt = 0 ∧ (fv Po 302 (5 + 19 * t1.toInt.toNat)).toInt ≠ 1)) := g15
    have g17 := ti_full (fv Po 302 (5 + 19 * t1.toInt.toNat))
    show MEvP _ none q_188 17 [(0, .ref 301), (1, .int t1)] [.int x14] _ _ _ _
    refine mp_Tb (t := 27) (j_if_eq dX7_foldsOnStage_17) (by decide) (fun c18 => ?_) (fun c18 => mpp 20 rfl ?_)
    · have c18 : x14.toInt = 0 := ti_eq c18
      refine mp_a (a_aload_n dX7_foldsOnStage_27 rfl) (mpp 28 rfl ?_)
      refine mp_a (a_iload_n dX7_foldsOnStage_28 rfl) (mpp 29 rfl ?_)
      have p19 : 0 ≤ t1.toInt := by omega
      have p20 : t1.toInt ≤ 7 := by omega
      refine mt_callv (i := 212) (q' := q_160) (As := [.int t1]) (rest := []) hT dX7_foldsOnStage_29 rfl qm_160 (by decide) rfl rl_301 (by decide) rfl (Nat.le_of_ble_eq_true rfl) rfl ⟨rfl, rfl⟩ ⟨Nat.le_of_ble_eq_true rfl, Nat.le_of_ble_eq_true rfl⟩ (EvP.mono (by decide) (c_M_whyNot hT p19 p20 )) (fun r21 P22 g23 => mpp 32 rfl ?_)
      obtain ⟨⟨x24, rfl, g25⟩, hT26, k27, R28⟩ := g23
      have k29 : KW [1093, 1094, 1101, 1102, 1152, 1536, 1600] Po P22 := KW.trans KW.refl k27 rfl
      have R31 := Rel.kw hR k27 rfl
      have wx24 := ti_full x24
      replace g25 : (x24.toInt ≠ 4 ∨ UD Po t1.toInt.toNat 0) ∧ 0 ≤ x24.toInt ∧ x24.toInt ≤ 5 ∧ WYf cM eM (fv Po 302 (3 + 19 * t1.toInt.toNat)).toInt (fv Po 302 (4 + 19 * t1.toInt.toNat)).toInt (fun j : Nat => fv Po 302 (6 + 19 * t1.toInt.toNat + j)) (fun j : Nat => fv Po 302 (14 + 19 * t1.toInt.toNat + j)) x24.toInt := g25
      try have g32 : (0 : Int) ≤ (fv Po 302 (3 + 19 * t1.toInt.toNat)).toInt ∧ (fv Po 302 (3 + 19 * t1.toInt.toNat)).toInt ≤ 1 := s3_rng hT (by omega)
      try have g33 : (0 : Int) ≤ (fv Po 302 (4 + 19 * t1.toInt.toNat)).toInt ∧ (fv Po 302 (4 + 19 * t1.toInt.toNat)).toInt ≤ 8 := s4_rng hT (by omega)
      show MEvP _ none q_188 32 [(0, .ref 301), (1, .int t1)] [.int x24] _ _ _ _
      refine mp_a (a_istore_n (L' := [(2, .int x24), (0, .ref 301), (1, .int t1)]) dX7_foldsOnStage_32 (by decide) rfl) (mpp 33 rfl ?_)
      refine mp_a (a_iload_n dX7_foldsOnStage_33 rfl) (mpp 34 rfl ?_)
      refine mp_a (a_iconst (v := 4) dX7_foldsOnStage_34 rfl) (mpp 35 rfl ?_)
      refine mp_Tb (t := 49) (j_icmp_ne dX7_foldsOnStage_35) (by decide) (fun c34 => ?_) (fun c34 => mpp 38 rfl ?_)
      · have c34 : x24.toInt ≠ 4 := ti_ne c34
        refine mp_a (a_iload_n dX7_foldsOnStage_49 rfl) (mpp 50 rfl ?_)
        refine mp_Tb (t := 60) (j_if_eq dX7_foldsOnStage_50) (by decide) (fun c35 => ?_) (fun c35 => mpp 53 rfl ?_)
        · have c35 : x24.toInt = 0 := ti_eq c35
          refine mp_a (a_aload_n dX7_foldsOnStage_60 rfl) (mpp 61 rfl ?_)
          refine mt_callv (i := 231) (q' := q_184) (As := []) (rest := []) hT26 dX7_foldsOnStage_61 rfl qm_184 (by decide) rfl rl_301 (by decide) rfl (Nat.le_of_ble_eq_true rfl) rfl ⟨rfl, rfl⟩ ⟨Nat.le_of_ble_eq_true rfl, Nat.le_of_ble_eq_true rfl⟩ (EvP.mono (by decide) (c_M_used hT26 )) (fun r36 P37 g38 => mpp 64 rfl ?_)
          obtain ⟨⟨x39, rfl, g40⟩, e41⟩ := g38
          have e41 := e41.symm
          subst e41
          have wx39 := ti_full x39
          replace g40 : x39.toInt = (smF (fun k : Nat => wpM (sr P22) k) (fv P22 302 0).toInt.toNat).toInt := g40
          have e42 : (fv P22 302 0).toInt = (fv Po 302 0).toInt := congrArg Int32.toInt (KW.at k27 0 rl_302 rfl)
          show MEvP _ none q_188 64 [(2, .int x24), (0, .ref 301), (1, .int t1)] [.int x39] _ _ _ _
          refine mp_a (a_aload_n dX7_foldsOnStage_64 rfl) (mpp 65 rfl ?_)
          refine mp_a (a_iload_n dX7_foldsOnStage_65 rfl) (mpp 66 rfl ?_)
          have p43 : 0 ≤ t1.toInt := by omega
          have p44 : t1.toInt ≤ 7 := by omega
          refine mt_callv (i := 228) (q' := q_185) (As := [.int t1]) (rest := [.int x39]) hT26 dX7_foldsOnStage_66 rfl qm_185 (by decide) rfl rl_301 (by decide) rfl (Nat.le_of_ble_eq_true rfl) rfl ⟨rfl, rfl⟩ ⟨Nat.le_of_ble_eq_true rfl, Nat.le_of_ble_eq_true rfl⟩ (EvP.mono (by decide) (c_M_widthOf hT26 p43 p44 )) (fun r45 P46 g47 => mpp 69 rfl ?_)
          obtain ⟨⟨x48, rfl, g49⟩, e50⟩ := g47
          have e50 := e50.symm
          subst e50
          have wx48 := ti_full x48
          replace g49 : x48.toInt = (wdF (fv P22 302 (3 + 19 * t1.toInt.toNat)).toInt (fun j : Nat => fv P22 302 (6 + 19 * t1.toInt.toNat + j)) (fv P22 302 (4 + 19 * t1.toInt.toNat)).toInt.toNat).toInt := g49
          have e51 : (fv P22 302 (3 + 19 * t1.toInt.toNat)).toInt = (fv Po 302 (3 + 19 * t1.toInt.toNat)).toInt := congrArg Int32.toInt (KW.at k27 (3 + 19 * t1.toInt.toNat) rl_302 rfl)
          have e52 : (fv P22 302 (4 + 19 * t1.toInt.toNat)).toInt = (fv Po 302 (4 + 19 * t1.toInt.toNat)).toInt := congrArg Int32.toInt (KW.at k27 (4 + 19 * t1.toInt.toNat) rl_302 rfl)
          show MEvP _ none q_188 69 [(2, .int x24), (0, .ref 301), (1, .int t1)] [.int x48, .int x39] _ _ _ _
          obtain ⟨z53, h54⟩ := ti_ex (x39 + x48 : Int32)
          have wz53 := ti_full z53
          refine mp_t (s_iadd (v := z53) dX7_foldsOnStage_69 h54) (mpp 70 rfl ?_)
          try have e55 : z53.toInt = x39.toInt + x48.toInt := ti_addz h54 rfl rfl (by omega) (by omega)
          refine mp_a (a_aload_n dX7_foldsOnStage_70 rfl) (mpp 71 rfl ?_)
          refine mt_getU (i := 9) (k := 0) (A := 302) hT26 dX7_foldsOnStage_71 rfl rl_301 (by decide) rfl (by decide) rfl un_18 (mpp 74 rfl ?_)
          refine mp_a (a_iconst (v := 1) dX7_foldsOnStage_74 rfl) (mpp 75 rfl ?_)
          have g58 := ti_full (fv P22 302 1)
          refine mt_ialX (n := 155) hT26 dX7_foldsOnStage_75 rl_302 (by decide) rfl rfl (by decide) (by decide) ssp_0 (fun g56 => mpp 76 rfl ?_)
          have we59 := ti_full (fv P22 302 1)
          obtain ⟨z60, h61⟩ := ti_ex (z53 - (fv P22 302 1) : Int32)
          have wz60 := ti_full z60
          refine mp_t (s_isub (v := z60) dX7_foldsOnStage_76 h61) (mpp 77 rfl ?_)
          try have e62 : z60.toInt = z53.toInt - (fv P22 302 1).toInt := ti_subz h61 rfl rfl (by omega) (by omega)
          refine mp_a (a_istore_n (L' := [(3, .int z60), (2, .int x24), (0, .ref 301), (1, .int t1)]) dX7_foldsOnStage_77 (by decide) rfl) (mpp 78 rfl ?_)
          refine mp_a (a_iload_n dX7_foldsOnStage_78 rfl) (mpp 79 rfl ?_)
          refine mp_Tb (t := 90) (j_if_le dX7_foldsOnStage_79) (by decide) (fun c63 => ?_) (fun c63 => mpp 82 rfl ?_)
          · have c63 : z60.toInt ≤ 0 := ti_le c63
            refine mp_a (a_aload_n dX7_foldsOnStage_90 rfl) (mpp 91 rfl ?_)
            refine mt_getU (i := 9) (k := 0) (A := 302) hT26 dX7_foldsOnStage_91 rfl rl_301 (by decide) rfl (by decide) rfl un_18 (mpp 94 rfl ?_)
            refine mp_a (a_iload_n dX7_foldsOnStage_94 rfl) (mpp 95 rfl ?_)
            refine mp_a (a_iconst (v := 2) dX7_foldsOnStage_95 rfl) (mpp 96 rfl ?_)
            have p64 : 0 ≤ t1.toInt := by omega
            have p65 : t1.toInt ≤ 8 := by omega
            have p66 : 0 ≤ (2 : Int) := by omega
            have p67 : (2 : Int) ≤ 20 := by omega
            refine mp_calls (i := 74) (q' := q_135) (As := [.int t1, .int 2]) (rest := [.ref 302]) dX7_foldsOnStage_96 rfl qm_135 (by decide) rfl (Nat.le_of_ble_eq_true rfl) rfl ⟨rfl, rfl⟩ ⟨Nat.le_of_ble_eq_true rfl, Nat.le_of_ble_eq_true rfl⟩ (EvP.mono (by decide) (c_M_at hT26 p64 p65 p66 p67 )) (fun r68 P69 g70 => mpp 99 rfl ?_)
            obtain ⟨⟨x71, rfl, g72⟩, e73⟩ := g70
            have e73 := e73.symm
            subst e73
            have wx71 := ti_full x71
            replace g72 : x71.toInt = 3 + 19 * t1.toInt + (2 : Int) := g72
            show MEvP _ none q_188 99 [(3, .int z60), (2, .int x24), (0, .ref 301), (1, .int t1)] [.int x71, .ref 302] _ _ _ _
            refine mp_a (a_iconst (v := 1) dX7_foldsOnStage_99 rfl) (mpp 100 rfl ?_)
            refine mt_iasX (n := 155) hT26 dX7_foldsOnStage_100 rl_302 (by decide) rfl rfl (by omega) (by omega) ssp_0 (okS_mk (by omega) (fun _ => ⟨by omega, by omega⟩) (fun _ => ⟨by omega, by omega⟩)) (fun P74 hT75 f76 f77 f78 => mpp 101 rfl ?_)
            have k79 : KW [1093, 1094, 1101, 1102, 1152, 1536, 1600] Po P74 := KW.step k29 rl_302 rfl f77 f78
            have R80 := Rel.oth R31 f77 (by omega)
            refine mp_a (a_aload_n dX7_foldsOnStage_101 rfl) (mpp 102 rfl ?_)
            refine mt_getU (i := 9) (k := 0) (A := 302) hT75 dX7_foldsOnStage_102 rfl rl_301 (by decide) rfl (by decide) rfl un_18 (mpp 105 rfl ?_)
            refine mp_a (a_iconst (v := 2) dX7_foldsOnStage_105 rfl) (mpp 106 rfl ?_)
            refine mp_t (s_dup2 dX7_foldsOnStage_106 ⟨rfl, rfl⟩) (mpp 107 rfl ?_)
            have g83 := ti_full (fv P74 302 2)
            refine mt_ialX (n := 155) hT75 dX7_foldsOnStage_107 rl_302 (by decide) rfl rfl (by decide) (by decide) ssp_0 (fun g81 => mpp 108 rfl ?_)
            have we84 := ti_full (fv P74 302 2)
            refine mp_a (a_iconst (v := 1) dX7_foldsOnStage_108 rfl) (mpp 109 rfl ?_)
            obtain ⟨z85, h86⟩ := ti_ex ((fv P74 302 2) + 1 : Int32)
            have wz85 := ti_full z85
            refine mp_t (s_iadd (v := z85) dX7_foldsOnStage_109 h86) (mpp 110 rfl ?_)
            try have e87 : z85.toInt = (fv P74 302 2).toInt + 1 := ti_addz h86 rfl rfl (by omega) (by omega)
            refine mt_iasX (n := 155) hT75 dX7_foldsOnStage_110 rl_302 (by decide) rfl rfl (by decide) (by decide) ssp_0 okS_c2 (fun P88 hT89 f90 f91 f92 => mpp 111 rfl ?_)
            have f90 : fv P88 302 2 = _ := f90
            have f91 : ∀ b j : Nat, ¬ (b = 302 ∧ j = 2) → fv P88 b j = fv P74 b j := f91
            have k93 : KW [1093, 1094, 1101, 1102, 1152, 1536, 1600] Po P88 := KW.step k79 rl_302 rfl f91 f92
            have R94 := Rel.oth R80 f91 (by decide)
            have e95 : (fv P88 302 2).toInt = z85.toInt := congrArg Int32.toInt f90
            refine mp_a (a_aload_n dX7_foldsOnStage_111 rfl) (mpp 112 rfl ?_)
            refine mp_a (a_iload_n dX7_foldsOnStage_112 rfl) (mpp 113 rfl ?_)
            have p96 : 0 ≤ t1.toInt := by omega
            have p97 : t1.toInt ≤ 7 := by omega
            refine mt_callv (i := 228) (q' := q_185) (As := [.int t1]) (rest := []) hT89 dX7_foldsOnStage_113 rfl qm_185 (by decide) rfl rl_301 (by decide) rfl (Nat.le_of_ble_eq_true rfl) rfl ⟨rfl, rfl⟩ ⟨Nat.le_of_ble_eq_true rfl, Nat.le_of_ble_eq_true rfl⟩ (EvP.mono (by decide) (c_M_widthOf hT89 p96 p97 )) (fun r98 P99 g100 => mpp 116 rfl ?_)
            obtain ⟨⟨x101, rfl, g102⟩, e103⟩ := g100
            have e103 := e103.symm
            subst e103
            have wx101 := ti_full x101
            replace g102 : x101.toInt = (wdF (fv P88 302 (3 + 19 * t1.toInt.toNat)).toInt (fun j : Nat => fv P88 302 (6 + 19 * t1.toInt.toNat + j)) (fv P88 302 (4 + 19 * t1.toInt.toNat)).toInt.toNat).toInt := g102
            try have g104 : (0 : Int) ≤ (fv P88 302 (3 + 19 * t1.toInt.toNat)).toInt ∧ (fv P88 302 (3 + 19 * t1.toInt.toNat)).toInt ≤ 1 := s3_rng hT89 (by omega)
            try have e105 : (fv P88 302 (3 + 19 * t1.toInt.toNat)).toInt = (fv P22 302 (3 + 19 * t1.toInt.toNat)).toInt := congrArg Int32.toInt ((f91 302 (3 + 19 * t1.toInt.toNat) (ne_i (by omega))).trans (f77 302 (3 + 19 * t1.toInt.toNat) (ne_i (by omega))))
            try have g106 : (0 : Int) ≤ (fv P88 302 (4 + 19 * t1.toInt.toNat)).toInt ∧ (fv P88 302 (4 + 19 * t1.toInt.toNat)).toInt ≤ 8 := s4_rng hT89 (by omega)
            try have e107 : (fv P88 302 (4 + 19 * t1.toInt.toNat)).toInt = (fv P22 302 (4 + 19 * t1.toInt.toNat)).toInt := congrArg Int32.toInt ((f91 302 (4 + 19 * t1.toInt.toNat) (ne_i (by omega))).trans (f77 302 (4 + 19 * t1.toInt.toNat) (ne_i (by omega))))
            show MEvP _ none q_188 116 [(3, .int z60), (2, .int x24), (0, .ref 301), (1, .int t1)] [.int x101] _ _ _ _
            have e109 : (fv P22 302 0).toInt = (fv Po 302 0).toInt := congrArg Int32.toInt (KW.at k27 0 rl_302 rfl)
            have e110 : (fv P22 302 1).toInt = (fv Po 302 1).toInt := congrArg Int32.toInt (KW.at k27 1 rl_302 rfl)
            have e111 : (fv P22 302 2).toInt = (fv Po 302 2).toInt := congrArg Int32.toInt (KW.at k27 2 rl_302 rfl)
            have e112 : (fv P74 302 0).toInt = (fv P22 302 0).toInt := congrArg Int32.toInt (f77 302 0 (by omega))
            have e113 : (fv P74 302 1).toInt = (fv P22 302 1).toInt := congrArg Int32.toInt (f77 302 1 (by omega))
            have e114 : (fv P74 302 2).toInt = (fv P22 302 2).toInt := congrArg Int32.toInt (f77 302 2 (by omega))
            have e115 : (fv P88 302 0).toInt = (fv P74 302 0).toInt := congrArg Int32.toInt (f91 302 0 (by omega))
            have e116 : (fv P88 302 1).toInt = (fv P74 302 1).toInt := congrArg Int32.toInt (f91 302 1 (by omega))
            have w117_s : ∀ j : Nat, fv P22 302 j = fv Po 302 j := fun j => by rw [KW.at k27 j rl_302 rfl]
            have w117_S : sr P22 = sr Po := funext w117_s
            have w117_u := Int32.toInt_inj.mp g40
            rw [w117_S, w117_s 0] at w117_u
            have w117_w := Int32.toInt_inj.mp g49
            rw [show (fun j : Nat => fv P22 302 (6 + 19 * t1.toInt.toNat + j)) = (fun j : Nat => fv Po 302 (6 + 19 * t1.toInt.toNat + j)) from funext (fun j => w117_s _), w117_s (3 + 19 * t1.toInt.toNat), w117_s (4 + 19 * t1.toInt.toNat)] at w117_w
            have w117_l : z60 = smF (fun k : Nat => wpM (sr Po) k) (fv Po 302 0).toInt.toNat + wdF (fv Po 302 (3 + 19 * t1.toInt.toNat)).toInt (fun j : Nat => fv Po 302 (6 + 19 * t1.toInt.toNat + j)) (fv Po 302 (4 + 19 * t1.toInt.toNat)).toInt.toNat - fv Po 302 1 := by rw [← h61, ← h54, w117_u, w117_w, w117_s 1]
            have w118_ : ∀ f : Nat → Int32, (∀ j : Nat, j < (fv Po 302 (4 + 19 * t1.toInt.toNat)).toInt.toNat → f j = fv Po 302 (6 + 19 * t1.toInt.toNat + j)) → wdF (fv Po 302 (3 + 19 * t1.toInt.toNat)).toInt f (fv Po 302 (4 + 19 * t1.toInt.toNat)).toInt.toNat = wdF (fv Po 302 (3 + 19 * t1.toInt.toNat)).toInt (fun j : Nat => fv Po 302 (6 + 19 * t1.toInt.toNat + j)) (fv Po 302 (4 + 19 * t1.toInt.toNat)).toInt.toNat := fun f hf => wdF_congr rfl rfl hf
            have w118_w := Int32.toInt_inj.mp g102
            rw [(show fv P88 302 (3 + 19 * t1.toInt.toNat) = fv Po 302 (3 + 19 * t1.toInt.toNat) from (f91 302 _ (by omega)).trans ((f77 302 _ (by omega)).trans (w117_s _))), (show fv P88 302 (4 + 19 * t1.toInt.toNat) = fv Po 302 (4 + 19 * t1.toInt.toNat) from (f91 302 _ (by omega)).trans ((f77 302 _ (by omega)).trans (w117_s _)))] at w118_w
            rw [w118_ _ (fun j hj => (show fv P88 302 (6 + 19 * t1.toInt.toNat + j) = fv Po 302 (6 + 19 * t1.toInt.toNat + j) from (f91 302 _ (by omega)).trans ((f77 302 _ (by omega)).trans (w117_s _))))] at w118_w
            have u108 : foldsM (sr Po) (sr P88) x101.toInt t1.toInt := (show (x101.toInt = -1001 ∧ (t1.toInt < 0 ∨ (fv Po 302 (0)).toInt ≤ t1.toInt) ∧ (∀ j : Nat, fv P88 302 j = fv Po 302 j)) ∨ (x101.toInt = -1003 ∧ (0 ≤ t1.toInt ∧ t1.toInt + 1 ≤ (fv Po 302 (0)).toInt ∧ t1.toInt ≤ 7) ∧ ((fv Po 302 (5 + 19 * t1.toInt.toNat)).toInt = 1 ∨ (∃ w : Int, WYf cM eM ((fv Po 302 (3 + 19 * t1.toInt.toNat)).toInt) ((fv Po 302 (4 + 19 * t1.toInt.toNat)).toInt) (fun j : Nat => fv Po 302 (6 + 19 * t1.toInt.toNat + j)) (fun j : Nat => fv Po 302 (14 + 19 * t1.toInt.toNat + j)) w ∧ ¬ w = 0) ∨ (WYf cM eM ((fv Po 302 (3 + 19 * t1.toInt.toNat)).toInt) ((fv Po 302 (4 + 19 * t1.toInt.toNat)).toInt) (fun j : Nat => fv Po 302 (6 + 19 * t1.toInt.toNat + j)) (fun j : Nat => fv Po 302 (14 + 19 * t1.toInt.toNat + j)) 0 ∧ 0 < (smF (fun k : Nat => wpM (sr Po) k) ((fv Po 302 (0)).toInt).toNat + wdF ((fv Po 302 (3 + 19 * t1.toInt.toNat)).toInt) (fun j : Nat => fv Po 302 (6 + 19 * t1.toInt.toNat + j)) ((fv Po 302 (4 + 19 * t1.toInt.toNat)).toInt).toNat - fv Po 302 1).toInt)) ∧ (∀ j : Nat, fv P88 302 j = fv Po 302 j)) ∨ ((0 ≤ t1.toInt ∧ t1.toInt + 1 ≤ (fv Po 302 (0)).toInt ∧ t1.toInt ≤ 7) ∧ ¬ (fv Po 302 (5 + 19 * t1.toInt.toNat)).toInt = 1 ∧ WYf cM eM ((fv Po 302 (3 + 19 * t1.toInt.toNat)).toInt) ((fv Po 302 (4 + 19 * t1.toInt.toNat)).toInt) (fun j : Nat => fv Po 302 (6 + 19 * t1.toInt.toNat + j)) (fun j : Nat => fv Po 302 (14 + 19 * t1.toInt.toNat + j)) 0 ∧ (smF (fun k : Nat => wpM (sr Po) k) ((fv Po 302 (0)).toInt).toNat + wdF ((fv Po 302 (3 + 19 * t1.toInt.toNat)).toInt) (fun j : Nat => fv Po 302 (6 + 19 * t1.toInt.toNat + j)) ((fv Po 302 (4 + 19 * t1.toInt.toNat)).toInt).toNat - fv Po 302 1).toInt ≤ 0 ∧ x101.toInt = (wdF ((fv Po 302 (3 + 19 * t1.toInt.toNat)).toInt) (fun j : Nat => fv Po 302 (6 + 19 * t1.toInt.toNat + j)) ((fv Po 302 (4 + 19 * t1.toInt.toNat)).toInt).toNat).toInt ∧ (fv P88 302 (5 + 19 * t1.toInt.toNat)).toInt = 1 ∧ fv P88 302 2 = fv Po 302 2 + 1 ∧ (∀ j : Nat, ¬ j = 5 + 19 * t1.toInt.toNat → ¬ j = 2 → fv P88 302 j = fv Po 302 j)) from Or.inr (Or.inr (⟨by omega, by omega, (show x24.toInt = 0 from by omega) ▸ g25.2.2.2, by rw [← w117_l]; omega, congrArg Int32.toInt w118_w, (congrArg Int32.toInt (f91 302 (5 + 19 * t1.toInt.toNat) (by omega))).trans ((congrArg (fun k => (fv P74 302 k).toInt) (show 5 + 19 * t1.toInt.toNat = x71.toInt.toNat from by omega)).trans (congrArg Int32.toInt f76)), f90.trans (h86.symm.trans (congrArg (· + 1) ((f77 302 2 (by omega)).trans (w117_s 2)))), fun j h1 h2 => (f91 302 j (by omega)).trans ((f77 302 j (by omega)).trans (w117_s j))⟩)))
            exact mp_iret ⟨⟨_, rfl, u108⟩, hT89, k93, R94⟩ dX7_foldsOnStage_116 (Or.inl rfl)
          · have c63 : z60.toInt > 0 := ti_le_n c63
            refine mp_a (a_aload_n dX7_foldsOnStage_82 rfl) (mpp 83 rfl ?_)
            refine mp_a (a_bipush (v := 7) dX7_foldsOnStage_83 rfl) (mpp 85 rfl ?_)
            refine mp_a (a_iload_n dX7_foldsOnStage_85 rfl) (mpp 86 rfl ?_)
            refine mt_callv (i := 101) (q' := q_134) (As := [.int 7, .int z60]) (rest := []) hT26 dX7_foldsOnStage_86 rfl qm_134 (by decide) rfl rl_301 (by decide) rfl (Nat.le_of_ble_eq_true rfl) rfl ⟨rfl, rfl⟩ ⟨Nat.le_of_ble_eq_true rfl, Nat.le_of_ble_eq_true rfl⟩ (EvP.mono (by decide) (c_M_refuses hT26 )) (fun r119 P120 g121 => mpp 89 rfl ?_)
            obtain ⟨⟨x122, rfl, g123⟩, hT124, k125, R126⟩ := g121
            have k127 : KW [1093, 1094, 1101, 1102, 1152, 1536, 1600] Po P120 := KW.trans k29 k125 rfl
            have R129 := Rel.kw R31 k125 rfl
            have wx122 := ti_full x122
            replace g123 : x122.toInt = -1003 := g123
            show MEvP _ none q_188 89 [(3, .int z60), (2, .int x24), (0, .ref 301), (1, .int t1)] [.int x122] _ _ _ _
            have e131 : (fv P22 302 0).toInt = (fv Po 302 0).toInt := congrArg Int32.toInt (KW.at k27 0 rl_302 rfl)
            have e132 : (fv P22 302 1).toInt = (fv Po 302 1).toInt := congrArg Int32.toInt (KW.at k27 1 rl_302 rfl)
            have e133 : (fv P22 302 2).toInt = (fv Po 302 2).toInt := congrArg Int32.toInt (KW.at k27 2 rl_302 rfl)
            have e134 : (fv P120 302 0).toInt = (fv P22 302 0).toInt := congrArg Int32.toInt (R126 302 0 (by omega))
            have e135 : (fv P120 302 1).toInt = (fv P22 302 1).toInt := congrArg Int32.toInt (R126 302 1 (by omega))
            have e136 : (fv P120 302 2).toInt = (fv P22 302 2).toInt := congrArg Int32.toInt (R126 302 2 (by omega))
            have w137_s : ∀ j : Nat, fv P22 302 j = fv Po 302 j := fun j => by rw [KW.at k27 j rl_302 rfl]
            have w137_S : sr P22 = sr Po := funext w137_s
            have w137_u := Int32.toInt_inj.mp g40
            rw [w137_S, w137_s 0] at w137_u
            have w137_w := Int32.toInt_inj.mp g49
            rw [show (fun j : Nat => fv P22 302 (6 + 19 * t1.toInt.toNat + j)) = (fun j : Nat => fv Po 302 (6 + 19 * t1.toInt.toNat + j)) from funext (fun j => w137_s _), w137_s (3 + 19 * t1.toInt.toNat), w137_s (4 + 19 * t1.toInt.toNat)] at w137_w
            have w137_l : z60 = smF (fun k : Nat => wpM (sr Po) k) (fv Po 302 0).toInt.toNat + wdF (fv Po 302 (3 + 19 * t1.toInt.toNat)).toInt (fun j : Nat => fv Po 302 (6 + 19 * t1.toInt.toNat + j)) (fv Po 302 (4 + 19 * t1.toInt.toNat)).toInt.toNat - fv Po 302 1 := by rw [← h61, ← h54, w137_u, w137_w, w137_s 1]
            have u130 : foldsM (sr Po) (sr P120) x122.toInt t1.toInt := (show (x122.toInt = -1001 ∧ (t1.toInt < 0 ∨ (fv Po 302 (0)).toInt ≤ t1.toInt) ∧ (∀ j : Nat, fv P120 302 j = fv Po 302 j)) ∨ (x122.toInt = -1003 ∧ (0 ≤ t1.toInt ∧ t1.toInt + 1 ≤ (fv Po 302 (0)).toInt ∧ t1.toInt ≤ 7) ∧ ((fv Po 302 (5 + 19 * t1.toInt.toNat)).toInt = 1 ∨ (∃ w : Int, WYf cM eM ((fv Po 302 (3 + 19 * t1.toInt.toNat)).toInt) ((fv Po 302 (4 + 19 * t1.toInt.toNat)).toInt) (fun j : Nat => fv Po 302 (6 + 19 * t1.toInt.toNat + j)) (fun j : Nat => fv Po 302 (14 + 19 * t1.toInt.toNat + j)) w ∧ ¬ w = 0) ∨ (WYf cM eM ((fv Po 302 (3 + 19 * t1.toInt.toNat)).toInt) ((fv Po 302 (4 + 19 * t1.toInt.toNat)).toInt) (fun j : Nat => fv Po 302 (6 + 19 * t1.toInt.toNat + j)) (fun j : Nat => fv Po 302 (14 + 19 * t1.toInt.toNat + j)) 0 ∧ 0 < (smF (fun k : Nat => wpM (sr Po) k) ((fv Po 302 (0)).toInt).toNat + wdF ((fv Po 302 (3 + 19 * t1.toInt.toNat)).toInt) (fun j : Nat => fv Po 302 (6 + 19 * t1.toInt.toNat + j)) ((fv Po 302 (4 + 19 * t1.toInt.toNat)).toInt).toNat - fv Po 302 1).toInt)) ∧ (∀ j : Nat, fv P120 302 j = fv Po 302 j)) ∨ ((0 ≤ t1.toInt ∧ t1.toInt + 1 ≤ (fv Po 302 (0)).toInt ∧ t1.toInt ≤ 7) ∧ ¬ (fv Po 302 (5 + 19 * t1.toInt.toNat)).toInt = 1 ∧ WYf cM eM ((fv Po 302 (3 + 19 * t1.toInt.toNat)).toInt) ((fv Po 302 (4 + 19 * t1.toInt.toNat)).toInt) (fun j : Nat => fv Po 302 (6 + 19 * t1.toInt.toNat + j)) (fun j : Nat => fv Po 302 (14 + 19 * t1.toInt.toNat + j)) 0 ∧ (smF (fun k : Nat => wpM (sr Po) k) ((fv Po 302 (0)).toInt).toNat + wdF ((fv Po 302 (3 + 19 * t1.toInt.toNat)).toInt) (fun j : Nat => fv Po 302 (6 + 19 * t1.toInt.toNat + j)) ((fv Po 302 (4 + 19 * t1.toInt.toNat)).toInt).toNat - fv Po 302 1).toInt ≤ 0 ∧ x122.toInt = (wdF ((fv Po 302 (3 + 19 * t1.toInt.toNat)).toInt) (fun j : Nat => fv Po 302 (6 + 19 * t1.toInt.toNat + j)) ((fv Po 302 (4 + 19 * t1.toInt.toNat)).toInt).toNat).toInt ∧ (fv P120 302 (5 + 19 * t1.toInt.toNat)).toInt = 1 ∧ fv P120 302 2 = fv Po 302 2 + 1 ∧ (∀ j : Nat, ¬ j = 5 + 19 * t1.toInt.toNat → ¬ j = 2 → fv P120 302 j = fv Po 302 j)) from Or.inr (Or.inl (⟨by omega, by omega, Or.inr (Or.inr ⟨(show x24.toInt = 0 from by omega) ▸ g25.2.2.2, by rw [← w137_l]; omega⟩), fun j => by rw [R126 302 j (by omega), KW.at k27 j rl_302 rfl]⟩)))
            exact mp_iret ⟨⟨_, rfl, u130⟩, hT124, k127, R129⟩ dX7_foldsOnStage_89 (Or.inl rfl)
        · have c35 : x24.toInt ≠ 0 := ti_eq_n c35
          refine mp_a (a_aload_n dX7_foldsOnStage_53 rfl) (mpp 54 rfl ?_)
          refine mp_a (a_iconst (v := 5) dX7_foldsOnStage_54 rfl) (mpp 55 rfl ?_)
          refine mp_a (a_iload_n dX7_foldsOnStage_55 rfl) (mpp 56 rfl ?_)
          refine mt_callv (i := 101) (q' := q_134) (As := [.int 5, .int x24]) (rest := []) hT26 dX7_foldsOnStage_56 rfl qm_134 (by decide) rfl rl_301 (by decide) rfl (Nat.le_of_ble_eq_true rfl) rfl ⟨rfl, rfl⟩ ⟨Nat.le_of_ble_eq_true rfl, Nat.le_of_ble_eq_true rfl⟩ (EvP.mono (by decide) (c_M_refuses hT26 )) (fun r138 P139 g140 => mpp 59 rfl ?_)
          obtain ⟨⟨x141, rfl, g142⟩, hT143, k144, R145⟩ := g140
          have k146 : KW [1093, 1094, 1101, 1102, 1152, 1536, 1600] Po P139 := KW.trans k29 k144 rfl
          have R148 := Rel.kw R31 k144 rfl
          have wx141 := ti_full x141
          replace g142 : x141.toInt = -1003 := g142
          show MEvP _ none q_188 59 [(2, .int x24), (0, .ref 301), (1, .int t1)] [.int x141] _ _ _ _
          have e150 : (fv P22 302 0).toInt = (fv Po 302 0).toInt := congrArg Int32.toInt (KW.at k27 0 rl_302 rfl)
          have e151 : (fv P22 302 1).toInt = (fv Po 302 1).toInt := congrArg Int32.toInt (KW.at k27 1 rl_302 rfl)
          have e152 : (fv P22 302 2).toInt = (fv Po 302 2).toInt := congrArg Int32.toInt (KW.at k27 2 rl_302 rfl)
          have e153 : (fv P139 302 0).toInt = (fv P22 302 0).toInt := congrArg Int32.toInt (R145 302 0 (by omega))
          have e154 : (fv P139 302 1).toInt = (fv P22 302 1).toInt := congrArg Int32.toInt (R145 302 1 (by omega))
          have e155 : (fv P139 302 2).toInt = (fv P22 302 2).toInt := congrArg Int32.toInt (R145 302 2 (by omega))
          have u149 : foldsM (sr Po) (sr P139) x141.toInt t1.toInt := (show (x141.toInt = -1001 ∧ (t1.toInt < 0 ∨ (fv Po 302 (0)).toInt ≤ t1.toInt) ∧ (∀ j : Nat, fv P139 302 j = fv Po 302 j)) ∨ (x141.toInt = -1003 ∧ (0 ≤ t1.toInt ∧ t1.toInt + 1 ≤ (fv Po 302 (0)).toInt ∧ t1.toInt ≤ 7) ∧ ((fv Po 302 (5 + 19 * t1.toInt.toNat)).toInt = 1 ∨ (∃ w : Int, WYf cM eM ((fv Po 302 (3 + 19 * t1.toInt.toNat)).toInt) ((fv Po 302 (4 + 19 * t1.toInt.toNat)).toInt) (fun j : Nat => fv Po 302 (6 + 19 * t1.toInt.toNat + j)) (fun j : Nat => fv Po 302 (14 + 19 * t1.toInt.toNat + j)) w ∧ ¬ w = 0) ∨ (WYf cM eM ((fv Po 302 (3 + 19 * t1.toInt.toNat)).toInt) ((fv Po 302 (4 + 19 * t1.toInt.toNat)).toInt) (fun j : Nat => fv Po 302 (6 + 19 * t1.toInt.toNat + j)) (fun j : Nat => fv Po 302 (14 + 19 * t1.toInt.toNat + j)) 0 ∧ 0 < (smF (fun k : Nat => wpM (sr Po) k) ((fv Po 302 (0)).toInt).toNat + wdF ((fv Po 302 (3 + 19 * t1.toInt.toNat)).toInt) (fun j : Nat => fv Po 302 (6 + 19 * t1.toInt.toNat + j)) ((fv Po 302 (4 + 19 * t1.toInt.toNat)).toInt).toNat - fv Po 302 1).toInt)) ∧ (∀ j : Nat, fv P139 302 j = fv Po 302 j)) ∨ ((0 ≤ t1.toInt ∧ t1.toInt + 1 ≤ (fv Po 302 (0)).toInt ∧ t1.toInt ≤ 7) ∧ ¬ (fv Po 302 (5 + 19 * t1.toInt.toNat)).toInt = 1 ∧ WYf cM eM ((fv Po 302 (3 + 19 * t1.toInt.toNat)).toInt) ((fv Po 302 (4 + 19 * t1.toInt.toNat)).toInt) (fun j : Nat => fv Po 302 (6 + 19 * t1.toInt.toNat + j)) (fun j : Nat => fv Po 302 (14 + 19 * t1.toInt.toNat + j)) 0 ∧ (smF (fun k : Nat => wpM (sr Po) k) ((fv Po 302 (0)).toInt).toNat + wdF ((fv Po 302 (3 + 19 * t1.toInt.toNat)).toInt) (fun j : Nat => fv Po 302 (6 + 19 * t1.toInt.toNat + j)) ((fv Po 302 (4 + 19 * t1.toInt.toNat)).toInt).toNat - fv Po 302 1).toInt ≤ 0 ∧ x141.toInt = (wdF ((fv Po 302 (3 + 19 * t1.toInt.toNat)).toInt) (fun j : Nat => fv Po 302 (6 + 19 * t1.toInt.toNat + j)) ((fv Po 302 (4 + 19 * t1.toInt.toNat)).toInt).toNat).toInt ∧ (fv P139 302 (5 + 19 * t1.toInt.toNat)).toInt = 1 ∧ fv P139 302 2 = fv Po 302 2 + 1 ∧ (∀ j : Nat, ¬ j = 5 + 19 * t1.toInt.toNat → ¬ j = 2 → fv P139 302 j = fv Po 302 j)) from Or.inr (Or.inl (⟨by omega, by omega, Or.inr (Or.inl ⟨_, g25.2.2.2, by omega⟩), fun j => by rw [R145 302 j (by omega), KW.at k27 j rl_302 rfl]⟩)))
          exact mp_iret ⟨⟨_, rfl, u149⟩, hT143, k146, R148⟩ dX7_foldsOnStage_59 (Or.inl rfl)
      · have c34 : x24.toInt = 4 := ti_ne_n c34
        refine mp_a (a_aload_n dX7_foldsOnStage_38 rfl) (mpp 39 rfl ?_)
        refine mp_a (a_iconst (v := 4) dX7_foldsOnStage_39 rfl) (mpp 40 rfl ?_)
        refine mp_a (a_aload_n dX7_foldsOnStage_40 rfl) (mpp 41 rfl ?_)
        refine mp_a (a_iload_n dX7_foldsOnStage_41 rfl) (mpp 42 rfl ?_)
        have p156 : 0 ≤ t1.toInt := by omega
        have p157 : t1.toInt ≤ 7 := by omega
        have p158 : UD P22 t1.toInt.toNat 0 := UD.kw (g25.1.resolve_left (by omega)) k27 rfl
        refine mt_callv (i := 237) (q' := q_189) (As := [.int t1]) (rest := [.int 4, .ref 301]) hT26 dX7_foldsOnStage_42 rfl qm_189 (by decide) rfl rl_301 (by decide) rfl (Nat.le_of_ble_eq_true rfl) rfl ⟨rfl, rfl⟩ ⟨Nat.le_of_ble_eq_true rfl, Nat.le_of_ble_eq_true rfl⟩ (EvP.mono (by decide) (c_M_lowestOpen hT26 p156 p157 p158 )) (fun r159 P160 g161 => mpp 45 rfl ?_)
        obtain ⟨⟨x162, rfl, g163⟩, e164⟩ := g161
        have e164 := e164.symm
        subst e164
        have wx162 := ti_full x162
        show MEvP _ none q_188 45 [(2, .int x24), (0, .ref 301), (1, .int t1)] [.int x162, .int 4, .ref 301] _ _ _ _
        refine mt_callv (i := 101) (q' := q_134) (As := [.int 4, .int x162]) (rest := []) hT26 dX7_foldsOnStage_45 rfl qm_134 (by decide) rfl rl_301 (by decide) rfl (Nat.le_of_ble_eq_true rfl) rfl ⟨rfl, rfl⟩ ⟨Nat.le_of_ble_eq_true rfl, Nat.le_of_ble_eq_true rfl⟩ (EvP.mono (by decide) (c_M_refuses hT26 )) (fun r165 P166 g167 => mpp 48 rfl ?_)
        obtain ⟨⟨x168, rfl, g169⟩, hT170, k171, R172⟩ := g167
        have k173 : KW [1093, 1094, 1101, 1102, 1152, 1536, 1600] Po P166 := KW.trans k29 k171 rfl
        have R175 := Rel.kw R31 k171 rfl
        have wx168 := ti_full x168
        replace g169 : x168.toInt = -1003 := g169
        show MEvP _ none q_188 48 [(2, .int x24), (0, .ref 301), (1, .int t1)] [.int x168] _ _ _ _
        have e177 : (fv P22 302 0).toInt = (fv Po 302 0).toInt := congrArg Int32.toInt (KW.at k27 0 rl_302 rfl)
        have e178 : (fv P22 302 1).toInt = (fv Po 302 1).toInt := congrArg Int32.toInt (KW.at k27 1 rl_302 rfl)
        have e179 : (fv P22 302 2).toInt = (fv Po 302 2).toInt := congrArg Int32.toInt (KW.at k27 2 rl_302 rfl)
        have e180 : (fv P166 302 0).toInt = (fv P22 302 0).toInt := congrArg Int32.toInt (R172 302 0 (by omega))
        have e181 : (fv P166 302 1).toInt = (fv P22 302 1).toInt := congrArg Int32.toInt (R172 302 1 (by omega))
        have e182 : (fv P166 302 2).toInt = (fv P22 302 2).toInt := congrArg Int32.toInt (R172 302 2 (by omega))
        have u176 : foldsM (sr Po) (sr P166) x168.toInt t1.toInt := (show (x168.toInt = -1001 ∧ (t1.toInt < 0 ∨ (fv Po 302 (0)).toInt ≤ t1.toInt) ∧ (∀ j : Nat, fv P166 302 j = fv Po 302 j)) ∨ (x168.toInt = -1003 ∧ (0 ≤ t1.toInt ∧ t1.toInt + 1 ≤ (fv Po 302 (0)).toInt ∧ t1.toInt ≤ 7) ∧ ((fv Po 302 (5 + 19 * t1.toInt.toNat)).toInt = 1 ∨ (∃ w : Int, WYf cM eM ((fv Po 302 (3 + 19 * t1.toInt.toNat)).toInt) ((fv Po 302 (4 + 19 * t1.toInt.toNat)).toInt) (fun j : Nat => fv Po 302 (6 + 19 * t1.toInt.toNat + j)) (fun j : Nat => fv Po 302 (14 + 19 * t1.toInt.toNat + j)) w ∧ ¬ w = 0) ∨ (WYf cM eM ((fv Po 302 (3 + 19 * t1.toInt.toNat)).toInt) ((fv Po 302 (4 + 19 * t1.toInt.toNat)).toInt) (fun j : Nat => fv Po 302 (6 + 19 * t1.toInt.toNat + j)) (fun j : Nat => fv Po 302 (14 + 19 * t1.toInt.toNat + j)) 0 ∧ 0 < (smF (fun k : Nat => wpM (sr Po) k) ((fv Po 302 (0)).toInt).toNat + wdF ((fv Po 302 (3 + 19 * t1.toInt.toNat)).toInt) (fun j : Nat => fv Po 302 (6 + 19 * t1.toInt.toNat + j)) ((fv Po 302 (4 + 19 * t1.toInt.toNat)).toInt).toNat - fv Po 302 1).toInt)) ∧ (∀ j : Nat, fv P166 302 j = fv Po 302 j)) ∨ ((0 ≤ t1.toInt ∧ t1.toInt + 1 ≤ (fv Po 302 (0)).toInt ∧ t1.toInt ≤ 7) ∧ ¬ (fv Po 302 (5 + 19 * t1.toInt.toNat)).toInt = 1 ∧ WYf cM eM ((fv Po 302 (3 + 19 * t1.toInt.toNat)).toInt) ((fv Po 302 (4 + 19 * t1.toInt.toNat)).toInt) (fun j : Nat => fv Po 302 (6 + 19 * t1.toInt.toNat + j)) (fun j : Nat => fv Po 302 (14 + 19 * t1.toInt.toNat + j)) 0 ∧ (smF (fun k : Nat => wpM (sr Po) k) ((fv Po 302 (0)).toInt).toNat + wdF ((fv Po 302 (3 + 19 * t1.toInt.toNat)).toInt) (fun j : Nat => fv Po 302 (6 + 19 * t1.toInt.toNat + j)) ((fv Po 302 (4 + 19 * t1.toInt.toNat)).toInt).toNat - fv Po 302 1).toInt ≤ 0 ∧ x168.toInt = (wdF ((fv Po 302 (3 + 19 * t1.toInt.toNat)).toInt) (fun j : Nat => fv Po 302 (6 + 19 * t1.toInt.toNat + j)) ((fv Po 302 (4 + 19 * t1.toInt.toNat)).toInt).toNat).toInt ∧ (fv P166 302 (5 + 19 * t1.toInt.toNat)).toInt = 1 ∧ fv P166 302 2 = fv Po 302 2 + 1 ∧ (∀ j : Nat, ¬ j = 5 + 19 * t1.toInt.toNat → ¬ j = 2 → fv P166 302 j = fv Po 302 j)) from Or.inr (Or.inl (⟨by omega, by omega, Or.inr (Or.inl ⟨_, g25.2.2.2, by omega⟩), fun j => by rw [R172 302 j (by omega), KW.at k27 j rl_302 rfl]⟩)))
        exact mp_iret ⟨⟨_, rfl, u176⟩, hT170, k173, R175⟩ dX7_foldsOnStage_48 (Or.inl rfl)
    · have c18 : x14.toInt ≠ 0 := ti_eq_n c18
      refine mp_a (a_aload_n dX7_foldsOnStage_20 rfl) (mpp 21 rfl ?_)
      refine mp_a (a_iconst (v := 2) dX7_foldsOnStage_21 rfl) (mpp 22 rfl ?_)
      refine mp_a (a_iload_n dX7_foldsOnStage_22 rfl) (mpp 23 rfl ?_)
      refine mt_callv (i := 101) (q' := q_134) (As := [.int 2, .int t1]) (rest := []) hT dX7_foldsOnStage_23 rfl qm_134 (by decide) rfl rl_301 (by decide) rfl (Nat.le_of_ble_eq_true rfl) rfl ⟨rfl, rfl⟩ ⟨Nat.le_of_ble_eq_true rfl, Nat.le_of_ble_eq_true rfl⟩ (EvP.mono (by decide) (c_M_refuses hT )) (fun r183 P184 g185 => mpp 26 rfl ?_)
      obtain ⟨⟨x186, rfl, g187⟩, hT188, k189, R190⟩ := g185
      have k191 : KW [1093, 1094, 1101, 1102, 1152, 1536, 1600] Po P184 := KW.trans KW.refl k189 rfl
      have R193 := Rel.kw hR k189 rfl
      have wx186 := ti_full x186
      replace g187 : x186.toInt = -1003 := g187
      show MEvP _ none q_188 26 [(0, .ref 301), (1, .int t1)] [.int x186] _ _ _ _
      have e195 : (fv P184 302 0).toInt = (fv Po 302 0).toInt := congrArg Int32.toInt (R190 302 0 (by omega))
      have e196 : (fv P184 302 1).toInt = (fv Po 302 1).toInt := congrArg Int32.toInt (R190 302 1 (by omega))
      have e197 : (fv P184 302 2).toInt = (fv Po 302 2).toInt := congrArg Int32.toInt (R190 302 2 (by omega))
      have u194 : foldsM (sr Po) (sr P184) x186.toInt t1.toInt := (show (x186.toInt = -1001 ∧ (t1.toInt < 0 ∨ (fv Po 302 (0)).toInt ≤ t1.toInt) ∧ (∀ j : Nat, fv P184 302 j = fv Po 302 j)) ∨ (x186.toInt = -1003 ∧ (0 ≤ t1.toInt ∧ t1.toInt + 1 ≤ (fv Po 302 (0)).toInt ∧ t1.toInt ≤ 7) ∧ ((fv Po 302 (5 + 19 * t1.toInt.toNat)).toInt = 1 ∨ (∃ w : Int, WYf cM eM ((fv Po 302 (3 + 19 * t1.toInt.toNat)).toInt) ((fv Po 302 (4 + 19 * t1.toInt.toNat)).toInt) (fun j : Nat => fv Po 302 (6 + 19 * t1.toInt.toNat + j)) (fun j : Nat => fv Po 302 (14 + 19 * t1.toInt.toNat + j)) w ∧ ¬ w = 0) ∨ (WYf cM eM ((fv Po 302 (3 + 19 * t1.toInt.toNat)).toInt) ((fv Po 302 (4 + 19 * t1.toInt.toNat)).toInt) (fun j : Nat => fv Po 302 (6 + 19 * t1.toInt.toNat + j)) (fun j : Nat => fv Po 302 (14 + 19 * t1.toInt.toNat + j)) 0 ∧ 0 < (smF (fun k : Nat => wpM (sr Po) k) ((fv Po 302 (0)).toInt).toNat + wdF ((fv Po 302 (3 + 19 * t1.toInt.toNat)).toInt) (fun j : Nat => fv Po 302 (6 + 19 * t1.toInt.toNat + j)) ((fv Po 302 (4 + 19 * t1.toInt.toNat)).toInt).toNat - fv Po 302 1).toInt)) ∧ (∀ j : Nat, fv P184 302 j = fv Po 302 j)) ∨ ((0 ≤ t1.toInt ∧ t1.toInt + 1 ≤ (fv Po 302 (0)).toInt ∧ t1.toInt ≤ 7) ∧ ¬ (fv Po 302 (5 + 19 * t1.toInt.toNat)).toInt = 1 ∧ WYf cM eM ((fv Po 302 (3 + 19 * t1.toInt.toNat)).toInt) ((fv Po 302 (4 + 19 * t1.toInt.toNat)).toInt) (fun j : Nat => fv Po 302 (6 + 19 * t1.toInt.toNat + j)) (fun j : Nat => fv Po 302 (14 + 19 * t1.toInt.toNat + j)) 0 ∧ (smF (fun k : Nat => wpM (sr Po) k) ((fv Po 302 (0)).toInt).toNat + wdF ((fv Po 302 (3 + 19 * t1.toInt.toNat)).toInt) (fun j : Nat => fv Po 302 (6 + 19 * t1.toInt.toNat + j)) ((fv Po 302 (4 + 19 * t1.toInt.toNat)).toInt).toNat - fv Po 302 1).toInt ≤ 0 ∧ x186.toInt = (wdF ((fv Po 302 (3 + 19 * t1.toInt.toNat)).toInt) (fun j : Nat => fv Po 302 (6 + 19 * t1.toInt.toNat + j)) ((fv Po 302 (4 + 19 * t1.toInt.toNat)).toInt).toNat).toInt ∧ (fv P184 302 (5 + 19 * t1.toInt.toNat)).toInt = 1 ∧ fv P184 302 2 = fv Po 302 2 + 1 ∧ (∀ j : Nat, ¬ j = 5 + 19 * t1.toInt.toNat → ¬ j = 2 → fv P184 302 j = fv Po 302 j)) from Or.inr (Or.inl (⟨by omega, by omega, Or.inl (by omega), fun j => by rw [R190 302 j (by omega)]⟩)))
      exact mp_iret ⟨⟨_, rfl, u194⟩, hT188, k191, R193⟩ dX7_foldsOnStage_26 (Or.inl rfl)
  · have c8 : x4.toInt = 0 := ti_ne_n c8
    refine mp_a (a_sipush (v := -1001) dX7_foldsOnStage_8 rfl) (mpp 11 rfl ?_)
    have u198 : foldsM (sr Po) (sr Po) (-1001 : Int) t1.toInt := (show ((-1001 : Int) = -1001 ∧ (t1.toInt < 0 ∨ (fv Po 302 (0)).toInt ≤ t1.toInt) ∧ (∀ j : Nat, fv Po 302 j = fv Po 302 j)) ∨ ((-1001 : Int) = -1003 ∧ (0 ≤ t1.toInt ∧ t1.toInt + 1 ≤ (fv Po 302 (0)).toInt ∧ t1.toInt ≤ 7) ∧ ((fv Po 302 (5 + 19 * t1.toInt.toNat)).toInt = 1 ∨ (∃ w : Int, WYf cM eM ((fv Po 302 (3 + 19 * t1.toInt.toNat)).toInt) ((fv Po 302 (4 + 19 * t1.toInt.toNat)).toInt) (fun j : Nat => fv Po 302 (6 + 19 * t1.toInt.toNat + j)) (fun j : Nat => fv Po 302 (14 + 19 * t1.toInt.toNat + j)) w ∧ ¬ w = 0) ∨ (WYf cM eM ((fv Po 302 (3 + 19 * t1.toInt.toNat)).toInt) ((fv Po 302 (4 + 19 * t1.toInt.toNat)).toInt) (fun j : Nat => fv Po 302 (6 + 19 * t1.toInt.toNat + j)) (fun j : Nat => fv Po 302 (14 + 19 * t1.toInt.toNat + j)) 0 ∧ 0 < (smF (fun k : Nat => wpM (sr Po) k) ((fv Po 302 (0)).toInt).toNat + wdF ((fv Po 302 (3 + 19 * t1.toInt.toNat)).toInt) (fun j : Nat => fv Po 302 (6 + 19 * t1.toInt.toNat + j)) ((fv Po 302 (4 + 19 * t1.toInt.toNat)).toInt).toNat - fv Po 302 1).toInt)) ∧ (∀ j : Nat, fv Po 302 j = fv Po 302 j)) ∨ ((0 ≤ t1.toInt ∧ t1.toInt + 1 ≤ (fv Po 302 (0)).toInt ∧ t1.toInt ≤ 7) ∧ ¬ (fv Po 302 (5 + 19 * t1.toInt.toNat)).toInt = 1 ∧ WYf cM eM ((fv Po 302 (3 + 19 * t1.toInt.toNat)).toInt) ((fv Po 302 (4 + 19 * t1.toInt.toNat)).toInt) (fun j : Nat => fv Po 302 (6 + 19 * t1.toInt.toNat + j)) (fun j : Nat => fv Po 302 (14 + 19 * t1.toInt.toNat + j)) 0 ∧ (smF (fun k : Nat => wpM (sr Po) k) ((fv Po 302 (0)).toInt).toNat + wdF ((fv Po 302 (3 + 19 * t1.toInt.toNat)).toInt) (fun j : Nat => fv Po 302 (6 + 19 * t1.toInt.toNat + j)) ((fv Po 302 (4 + 19 * t1.toInt.toNat)).toInt).toNat - fv Po 302 1).toInt ≤ 0 ∧ (-1001 : Int) = (wdF ((fv Po 302 (3 + 19 * t1.toInt.toNat)).toInt) (fun j : Nat => fv Po 302 (6 + 19 * t1.toInt.toNat + j)) ((fv Po 302 (4 + 19 * t1.toInt.toNat)).toInt).toNat).toInt ∧ (fv Po 302 (5 + 19 * t1.toInt.toNat)).toInt = 1 ∧ fv Po 302 2 = fv Po 302 2 + 1 ∧ (∀ j : Nat, ¬ j = 5 + 19 * t1.toInt.toNat → ¬ j = 2 → fv Po 302 j = fv Po 302 j)) from Or.inl (⟨by omega, by omega, fun j => rfl⟩))
    exact mp_iret ⟨⟨_, rfl, u198⟩, hT, KW.refl, hR⟩ dX7_foldsOnStage_11 (Or.inl rfl)

set_option maxHeartbeats 4000000 in
theorem c_M_fold {Po : mP} {t1 : Int32} (hT : Typ Po) (hR : Rel Po)  : EvP 9 187 [.ref 301, .int t1] Po (fun r P' => (∃ x : Int32, r = some (.int x) ∧ (TOPM Po P' x.toInt ∧ foldsM (sr Po) (sr P') x.toInt t1.toInt)) ∧ Typ P' ∧ KW [1092, 1093, 1094, 1095, 1101, 1102, 1152, 1216, 1344, 1536, 1600] Po P' ∧ Rel P') := by
  refine EvP.of qm_187 (Nat.le_of_ble_eq_true rfl) rfl ?_
  show MEvP _ none q_187 0 [(0, .ref 301), (1, .int t1)] [] _ 0 0 _
  have w_t1 := ti_full t1
  refine mp_a (a_aload_n dX7_fold_0 rfl) (mpp 1 rfl ?_)
  refine mt_callv (i := 117) (q' := q_124) (As := []) (rest := []) hT dX7_fold_1 rfl qm_124 (by decide) rfl rl_301 (by decide) rfl (Nat.le_of_ble_eq_true rfl) rfl ⟨rfl, rfl⟩ ⟨Nat.le_of_ble_eq_true rfl, Nat.le_of_ble_eq_true rfl⟩ (EvP.mono (by decide) (c_M_keeps hT hR )) (fun r1 P2 g3 => mpp 4 rfl ?_)
  obtain ⟨⟨rfl, g5⟩, hT6, k7, R8r, R8⟩ := g3
  have k9 : KW [1092, 1093, 1094, 1095, 1101, 1102, 1152, 1216, 1344, 1536, 1600] Po P2 := KW.trans KW.refl k7 rfl
  show MEvP _ none q_187 4 [(0, .ref 301), (1, .int t1)] [] _ _ _ _
  refine mp_a (a_aload_n dX7_fold_4 rfl) (mpp 5 rfl ?_)
  refine mp_a (a_aload_n dX7_fold_5 rfl) (mpp 6 rfl ?_)
  refine mp_a (a_iload_n dX7_fold_6 rfl) (mpp 7 rfl ?_)
  refine mt_callv (i := 240) (q' := q_188) (As := [.int t1]) (rest := [.ref 301]) hT6 dX7_fold_7 rfl qm_188 (by decide) rfl rl_301 (by decide) rfl (Nat.le_of_ble_eq_true rfl) rfl ⟨rfl, rfl⟩ ⟨Nat.le_of_ble_eq_true rfl, Nat.le_of_ble_eq_true rfl⟩ (EvP.mono (by decide) (c_M_foldsOnStage hT6 R8r )) (fun r11 P12 g13 => mpp 10 rfl ?_)
  obtain ⟨⟨x14, rfl, g15⟩, hT16, k17, R18⟩ := g13
  have k19 : KW [1092, 1093, 1094, 1095, 1101, 1102, 1152, 1216, 1344, 1536, 1600] Po P12 := KW.trans k9 k17 rfl
  have wx14 := ti_full x14
  replace g15 : foldsM (sr P2) (sr P12) x14.toInt t1.toInt := g15
  show MEvP _ none q_187 10 [(0, .ref 301), (1, .int t1)] [.int x14, .ref 301] _ _ _ _
  refine mt_callv (i := 124) (q' := q_139) (As := [.int x14]) (rest := []) hT16 dX7_fold_10 rfl qm_139 (by decide) rfl rl_301 (by decide) rfl (Nat.le_of_ble_eq_true rfl) rfl ⟨rfl, rfl⟩ ⟨Nat.le_of_ble_eq_true rfl, Nat.le_of_ble_eq_true rfl⟩ (EvP.mono (by decide) (c_M_ends hT16 R18 )) (fun r21 P22 g23 => mpp 13 rfl ?_)
  obtain ⟨⟨x24, rfl, g25⟩, hT26, k27, R28r, R28⟩ := g23
  have k29 : KW [1092, 1093, 1094, 1095, 1101, 1102, 1152, 1216, 1344, 1536, 1600] Po P22 := KW.trans k19 k27 rfl
  have wx24 := ti_full x24
  replace g25 : x24.toInt = x14.toInt := g25
  show MEvP _ none q_187 13 [(0, .ref 301), (1, .int t1)] [.int x24] _ _ _ _
  have w32_a : sr P2 = sr Po := funext (fun j => R8.2 302 j (by omega))
  have w32_b : sr P12 = sr P22 := funext (fun j => (R28.2.2.1 302 j (by omega) (by omega) (by omega)).symm)
  have w32_g := g15
  rw [w32_a, w32_b] at w32_g
  have w32_x : x24.toInt = x14.toInt := by omega
  rw [← w32_x] at w32_g
  have w32_t : TOPM Po P22 x24.toInt := TOPM.mk R8.1 (fun j => KW.at k17 j rl_303 rfl) (fun j => KW.at k17 j rl_304 rfl) (fun j => KW.at k17 j rl_305 rfl) (fun j => KW.at k17 j rl_314 rfl) (KW.at k17 8 rl_301 rfl) (KW.at k17 4 rl_301 rfl) (KW.at k17 23 rl_301 rfl) (by rw [w32_x]; exact R28.1) (by rw [w32_x]; exact R28.2.1) R28.2.2.1
  have u31 : TOPM Po P22 x24.toInt ∧ foldsM (sr Po) (sr P22) x24.toInt t1.toInt := ⟨w32_t, w32_g⟩
  exact mp_iret ⟨⟨_, rfl, u31⟩, hT26, k29, R28r⟩ dX7_fold_13 (Or.inl rfl)

set_option maxHeartbeats 4000000 in
theorem c_M_unfolds {Po : mP} {t1 : Int32} (hT : Typ Po) (hR : Rel Po)  : EvP 7 191 [.ref 301, .int t1] Po (fun r P' => (∃ x : Int32, r = some (.int x) ∧ (unfoldsM (sr Po) (sr P') x.toInt t1.toInt)) ∧ Typ P' ∧ KW [1093, 1094, 1152] Po P' ∧ Rel P') := by
  refine EvP.of qm_191 (Nat.le_of_ble_eq_true rfl) rfl ?_
  show MEvP _ none q_191 0 [(0, .ref 301), (1, .int t1)] [] _ 0 0 _
  have w_t1 := ti_full t1
  refine mp_a (a_aload_n dX7_unfolds_0 rfl) (mpp 1 rfl ?_)
  refine mp_a (a_iload_n dX7_unfolds_1 rfl) (mpp 2 rfl ?_)
  refine mt_callv (i := 85) (q' := q_144) (As := [.int t1]) (rest := []) hT dX7_unfolds_2 rfl qm_144 (by decide) rfl rl_301 (by decide) rfl (Nat.le_of_ble_eq_true rfl) rfl ⟨rfl, rfl⟩ ⟨Nat.le_of_ble_eq_true rfl, Nat.le_of_ble_eq_true rfl⟩ (EvP.mono (by decide) (c_M_isPiece hT )) (fun r1 P2 g3 => mpp 5 rfl ?_)
  obtain ⟨⟨x4, rfl, g5⟩, e6⟩ := g3
  have e6 := e6.symm
  subst e6
  have wx4 := ti_full x4
  replace g5 : 0 ≤ x4.toInt ∧ x4.toInt ≤ 1 ∧ ((x4.toInt = 1 ∧ 0 ≤ t1.toInt ∧ t1.toInt + 1 ≤ (fv Po 302 0).toInt ∧ t1.toInt ≤ 7) ∨ (x4.toInt = 0 ∧ (t1.toInt < 0 ∨ (fv Po 302 0).toInt ≤ t1.toInt))) := g5
  have g7 : (0 : Int) ≤ (fv Po 302 0).toInt ∧ (fv Po 302 0).toInt ≤ 8 := Typ.rng hT rl_302 (by decide) (by decide) rfl
  show MEvP _ none q_191 5 [(0, .ref 301), (1, .int t1)] [.int x4] _ _ _ _
  refine mp_Tb (t := 12) (j_if_ne dX7_unfolds_5) (by decide) (fun c8 => ?_) (fun c8 => mpp 8 rfl ?_)
  · have c8 : x4.toInt ≠ 0 := ti_ne c8
    refine mp_a (a_aload_n dX7_unfolds_12 rfl) (mpp 13 rfl ?_)
    refine mp_a (a_iload_n dX7_unfolds_13 rfl) (mpp 14 rfl ?_)
    have p9 : 0 ≤ t1.toInt := by omega
    have p10 : t1.toInt ≤ 7 := by omega
    refine mt_callv (i := 130) (q' := q_145) (As := [.int t1]) (rest := []) hT dX7_unfolds_14 rfl qm_145 (by decide) rfl rl_301 (by decide) rfl (Nat.le_of_ble_eq_true rfl) rfl ⟨rfl, rfl⟩ ⟨Nat.le_of_ble_eq_true rfl, Nat.le_of_ble_eq_true rfl⟩ (EvP.mono (by decide) (c_M_isFolded hT p9 p10 )) (fun r11 P12 g13 => mpp 17 rfl ?_)
    obtain ⟨⟨x14, rfl, g15⟩, e16⟩ := g13
    have e16 := e16.symm
    subst e16
    have wx14 := ti_full x14
    replace g15 : 0 ≤ x14.toInt ∧ x14.toInt ≤ 1 ∧ ((x14.toInt = 1 ∧ (fv Po 302 (5 + 19 * t1.toInt.toNat)).toInt = 1) ∨ (x14.toInt = 0 ∧ (fv Po 302 (5 + 19 * t1.toInt.toNat)).toInt ≠ 1)) := g15
    have g17 := ti_full (fv Po 302 (5 + 19 * t1.toInt.toNat))
    show MEvP _ none q_191 17 [(0, .ref 301), (1, .int t1)] [.int x14] _ _ _ _
    refine mp_Tb (t := 27) (j_if_ne dX7_unfolds_17) (by decide) (fun c18 => ?_) (fun c18 => mpp 20 rfl ?_)
    · have c18 : x14.toInt ≠ 0 := ti_ne c18
      refine mp_a (a_aload_n dX7_unfolds_27 rfl) (mpp 28 rfl ?_)
      refine mt_getU (i := 9) (k := 0) (A := 302) hT dX7_unfolds_28 rfl rl_301 (by decide) rfl (by decide) rfl un_18 (mpp 31 rfl ?_)
      refine mp_a (a_iload_n dX7_unfolds_31 rfl) (mpp 32 rfl ?_)
      refine mp_a (a_iconst (v := 2) dX7_unfolds_32 rfl) (mpp 33 rfl ?_)
      have p19 : 0 ≤ t1.toInt := by omega
      have p20 : t1.toInt ≤ 8 := by omega
      have p21 : 0 ≤ (2 : Int) := by omega
      have p22 : (2 : Int) ≤ 20 := by omega
      refine mp_calls (i := 74) (q' := q_135) (As := [.int t1, .int 2]) (rest := [.ref 302]) dX7_unfolds_33 rfl qm_135 (by decide) rfl (Nat.le_of_ble_eq_true rfl) rfl ⟨rfl, rfl⟩ ⟨Nat.le_of_ble_eq_true rfl, Nat.le_of_ble_eq_true rfl⟩ (EvP.mono (by decide) (c_M_at hT p19 p20 p21 p22 )) (fun r23 P24 g25 => mpp 36 rfl ?_)
      obtain ⟨⟨x26, rfl, g27⟩, e28⟩ := g25
      have e28 := e28.symm
      subst e28
      have wx26 := ti_full x26
      replace g27 : x26.toInt = 3 + 19 * t1.toInt + (2 : Int) := g27
      show MEvP _ none q_191 36 [(0, .ref 301), (1, .int t1)] [.int x26, .ref 302] _ _ _ _
      refine mp_a (a_iconst (v := 0) dX7_unfolds_36 rfl) (mpp 37 rfl ?_)
      refine mt_iasX (n := 155) hT dX7_unfolds_37 rl_302 (by decide) rfl rfl (by omega) (by omega) ssp_0 (okS_mk (by omega) (fun _ => ⟨by omega, by omega⟩) (fun _ => ⟨by omega, by omega⟩)) (fun P29 hT30 f31 f32 f33 => mpp 38 rfl ?_)
      have k34 : KW [1093, 1094, 1152] Po P29 := KW.step KW.refl rl_302 rfl f32 f33
      have R35 := Rel.oth hR f32 (by omega)
      refine mp_a (a_aload_n dX7_unfolds_38 rfl) (mpp 39 rfl ?_)
      refine mt_getU (i := 9) (k := 0) (A := 302) hT30 dX7_unfolds_39 rfl rl_301 (by decide) rfl (by decide) rfl un_18 (mpp 42 rfl ?_)
      refine mp_a (a_iconst (v := 1) dX7_unfolds_42 rfl) (mpp 43 rfl ?_)
      have g38 := ti_full (fv P29 302 1)
      refine mt_ialX (n := 155) hT30 dX7_unfolds_43 rl_302 (by decide) rfl rfl (by decide) (by decide) ssp_0 (fun g36 => mpp 44 rfl ?_)
      have we39 := ti_full (fv P29 302 1)
      refine mp_a (a_aload_n dX7_unfolds_44 rfl) (mpp 45 rfl ?_)
      refine mt_callv (i := 231) (q' := q_184) (As := []) (rest := [.int (fv P29 302 1)]) hT30 dX7_unfolds_45 rfl qm_184 (by decide) rfl rl_301 (by decide) rfl (Nat.le_of_ble_eq_true rfl) rfl ⟨rfl, rfl⟩ ⟨Nat.le_of_ble_eq_true rfl, Nat.le_of_ble_eq_true rfl⟩ (EvP.mono (by decide) (c_M_used hT30 )) (fun r40 P41 g42 => mpp 48 rfl ?_)
      obtain ⟨⟨x43, rfl, g44⟩, e45⟩ := g42
      have e45 := e45.symm
      subst e45
      have wx43 := ti_full x43
      replace g44 : x43.toInt = (smF (fun k : Nat => wpM (sr P29) k) (fv P29 302 0).toInt.toNat).toInt := g44
      have e46 : (fv P29 302 0).toInt = (fv Po 302 0).toInt := congrArg Int32.toInt (f32 302 0 (ne_i (by omega)))
      show MEvP _ none q_191 48 [(0, .ref 301), (1, .int t1)] [.int x43, .int (fv P29 302 1)] _ _ _ _
      obtain ⟨z47, h48⟩ := ti_ex ((fv P29 302 1) - x43 : Int32)
      have wz47 := ti_full z47
      refine mp_t (s_isub (v := z47) dX7_unfolds_48 h48) (mpp 49 rfl ?_)
      try have e49 : z47.toInt = (fv P29 302 1).toInt - x43.toInt := ti_subz h48 rfl rfl (by omega) (by omega)
      have e51 : (fv P29 302 0).toInt = (fv Po 302 0).toInt := congrArg Int32.toInt (f32 302 0 (by omega))
      have e52 : (fv P29 302 1).toInt = (fv Po 302 1).toInt := congrArg Int32.toInt (f32 302 1 (by omega))
      have e53 : (fv P29 302 2).toInt = (fv Po 302 2).toInt := congrArg Int32.toInt (f32 302 2 (by omega))
      have w55_ : fv P29 302 1 = fv Po 302 1 := f32 302 1 (by omega)
      have w56_ := Int32.toInt_inj.mp g44
      rw [show (fv P29 302 0).toInt.toNat = (fv Po 302 0).toInt.toNat from by omega] at w56_
      have u50 : unfoldsM (sr Po) (sr P29) z47.toInt t1.toInt := (show (z47.toInt = -1001 ∧ (t1.toInt < 0 ∨ (fv Po 302 (0)).toInt ≤ t1.toInt) ∧ (∀ j : Nat, fv P29 302 j = fv Po 302 j)) ∨ (z47.toInt = -1003 ∧ (0 ≤ t1.toInt ∧ t1.toInt + 1 ≤ (fv Po 302 (0)).toInt ∧ t1.toInt ≤ 7) ∧ ¬ (fv Po 302 (5 + 19 * t1.toInt.toNat)).toInt = 1 ∧ (∀ j : Nat, fv P29 302 j = fv Po 302 j)) ∨ ((0 ≤ t1.toInt ∧ t1.toInt + 1 ≤ (fv Po 302 (0)).toInt ∧ t1.toInt ≤ 7) ∧ (fv Po 302 (5 + 19 * t1.toInt.toNat)).toInt = 1 ∧ z47.toInt = (fv Po 302 1 - smF (fun k : Nat => wpM (sr P29) k) ((fv Po 302 (0)).toInt).toNat).toInt ∧ (fv P29 302 (5 + 19 * t1.toInt.toNat)).toInt = 0 ∧ (∀ j : Nat, ¬ j = 5 + 19 * t1.toInt.toNat → fv P29 302 j = fv Po 302 j)) from Or.inr (Or.inr (⟨by omega, by omega, by rw [← w55_, ← w56_, h48], (congrArg (fun k => (fv P29 302 k).toInt) (show 5 + 19 * t1.toInt.toNat = x26.toInt.toNat from by omega)).trans (congrArg Int32.toInt f31), fun j h => by rw [f32 302 j (by omega)]⟩)))
      exact mp_iret ⟨⟨_, rfl, u50⟩, hT30, k34, R35⟩ dX7_unfolds_49 (Or.inl rfl)
    · have c18 : x14.toInt = 0 := ti_ne_n c18
      refine mp_a (a_aload_n dX7_unfolds_20 rfl) (mpp 21 rfl ?_)
      refine mp_a (a_iconst (v := 2) dX7_unfolds_21 rfl) (mpp 22 rfl ?_)
      refine mp_a (a_iload_n dX7_unfolds_22 rfl) (mpp 23 rfl ?_)
      refine mt_callv (i := 101) (q' := q_134) (As := [.int 2, .int t1]) (rest := []) hT dX7_unfolds_23 rfl qm_134 (by decide) rfl rl_301 (by decide) rfl (Nat.le_of_ble_eq_true rfl) rfl ⟨rfl, rfl⟩ ⟨Nat.le_of_ble_eq_true rfl, Nat.le_of_ble_eq_true rfl⟩ (EvP.mono (by decide) (c_M_refuses hT )) (fun r57 P58 g59 => mpp 26 rfl ?_)
      obtain ⟨⟨x60, rfl, g61⟩, hT62, k63, R64⟩ := g59
      have k65 : KW [1093, 1094, 1152] Po P58 := KW.trans KW.refl k63 rfl
      have R67 := Rel.kw hR k63 rfl
      have wx60 := ti_full x60
      replace g61 : x60.toInt = -1003 := g61
      show MEvP _ none q_191 26 [(0, .ref 301), (1, .int t1)] [.int x60] _ _ _ _
      have e69 : (fv P58 302 0).toInt = (fv Po 302 0).toInt := congrArg Int32.toInt (R64 302 0 (by omega))
      have e70 : (fv P58 302 1).toInt = (fv Po 302 1).toInt := congrArg Int32.toInt (R64 302 1 (by omega))
      have e71 : (fv P58 302 2).toInt = (fv Po 302 2).toInt := congrArg Int32.toInt (R64 302 2 (by omega))
      have u68 : unfoldsM (sr Po) (sr P58) x60.toInt t1.toInt := (show (x60.toInt = -1001 ∧ (t1.toInt < 0 ∨ (fv Po 302 (0)).toInt ≤ t1.toInt) ∧ (∀ j : Nat, fv P58 302 j = fv Po 302 j)) ∨ (x60.toInt = -1003 ∧ (0 ≤ t1.toInt ∧ t1.toInt + 1 ≤ (fv Po 302 (0)).toInt ∧ t1.toInt ≤ 7) ∧ ¬ (fv Po 302 (5 + 19 * t1.toInt.toNat)).toInt = 1 ∧ (∀ j : Nat, fv P58 302 j = fv Po 302 j)) ∨ ((0 ≤ t1.toInt ∧ t1.toInt + 1 ≤ (fv Po 302 (0)).toInt ∧ t1.toInt ≤ 7) ∧ (fv Po 302 (5 + 19 * t1.toInt.toNat)).toInt = 1 ∧ x60.toInt = (fv Po 302 1 - smF (fun k : Nat => wpM (sr P58) k) ((fv Po 302 (0)).toInt).toNat).toInt ∧ (fv P58 302 (5 + 19 * t1.toInt.toNat)).toInt = 0 ∧ (∀ j : Nat, ¬ j = 5 + 19 * t1.toInt.toNat → fv P58 302 j = fv Po 302 j)) from Or.inr (Or.inl (⟨by omega, by omega, by omega, fun j => by rw [R64 302 j (by omega)]⟩)))
      exact mp_iret ⟨⟨_, rfl, u68⟩, hT62, k65, R67⟩ dX7_unfolds_26 (Or.inl rfl)
  · have c8 : x4.toInt = 0 := ti_ne_n c8
    refine mp_a (a_sipush (v := -1001) dX7_unfolds_8 rfl) (mpp 11 rfl ?_)
    have u72 : unfoldsM (sr Po) (sr Po) (-1001 : Int) t1.toInt := (show ((-1001 : Int) = -1001 ∧ (t1.toInt < 0 ∨ (fv Po 302 (0)).toInt ≤ t1.toInt) ∧ (∀ j : Nat, fv Po 302 j = fv Po 302 j)) ∨ ((-1001 : Int) = -1003 ∧ (0 ≤ t1.toInt ∧ t1.toInt + 1 ≤ (fv Po 302 (0)).toInt ∧ t1.toInt ≤ 7) ∧ ¬ (fv Po 302 (5 + 19 * t1.toInt.toNat)).toInt = 1 ∧ (∀ j : Nat, fv Po 302 j = fv Po 302 j)) ∨ ((0 ≤ t1.toInt ∧ t1.toInt + 1 ≤ (fv Po 302 (0)).toInt ∧ t1.toInt ≤ 7) ∧ (fv Po 302 (5 + 19 * t1.toInt.toNat)).toInt = 1 ∧ (-1001 : Int) = (fv Po 302 1 - smF (fun k : Nat => wpM (sr Po) k) ((fv Po 302 (0)).toInt).toNat).toInt ∧ (fv Po 302 (5 + 19 * t1.toInt.toNat)).toInt = 0 ∧ (∀ j : Nat, ¬ j = 5 + 19 * t1.toInt.toNat → fv Po 302 j = fv Po 302 j)) from Or.inl (⟨by omega, by omega, fun j => rfl⟩))
    exact mp_iret ⟨⟨_, rfl, u72⟩, hT, KW.refl, hR⟩ dX7_unfolds_11 (Or.inl rfl)

set_option maxHeartbeats 4000000 in
theorem c_M_unfold {Po : mP} {t1 : Int32} (hT : Typ Po) (hR : Rel Po)  : EvP 8 190 [.ref 301, .int t1] Po (fun r P' => (∃ x : Int32, r = some (.int x) ∧ (TOPM Po P' x.toInt ∧ unfoldsM (sr Po) (sr P') x.toInt t1.toInt)) ∧ Typ P' ∧ KW [1092, 1093, 1094, 1095, 1152, 1216, 1344] Po P' ∧ Rel P') := by
  refine EvP.of qm_190 (Nat.le_of_ble_eq_true rfl) rfl ?_
  show MEvP _ none q_190 0 [(0, .ref 301), (1, .int t1)] [] _ 0 0 _
  have w_t1 := ti_full t1
  refine mp_a (a_aload_n dX7_unfold_0 rfl) (mpp 1 rfl ?_)
  refine mt_callv (i := 117) (q' := q_124) (As := []) (rest := []) hT dX7_unfold_1 rfl qm_124 (by decide) rfl rl_301 (by decide) rfl (Nat.le_of_ble_eq_true rfl) rfl ⟨rfl, rfl⟩ ⟨Nat.le_of_ble_eq_true rfl, Nat.le_of_ble_eq_true rfl⟩ (EvP.mono (by decide) (c_M_keeps hT hR )) (fun r1 P2 g3 => mpp 4 rfl ?_)
  obtain ⟨⟨rfl, g5⟩, hT6, k7, R8r, R8⟩ := g3
  have k9 : KW [1092, 1093, 1094, 1095, 1152, 1216, 1344] Po P2 := KW.trans KW.refl k7 rfl
  show MEvP _ none q_190 4 [(0, .ref 301), (1, .int t1)] [] _ _ _ _
  refine mp_a (a_aload_n dX7_unfold_4 rfl) (mpp 5 rfl ?_)
  refine mp_a (a_aload_n dX7_unfold_5 rfl) (mpp 6 rfl ?_)
  refine mp_a (a_iload_n dX7_unfold_6 rfl) (mpp 7 rfl ?_)
  refine mt_callv (i := 243) (q' := q_191) (As := [.int t1]) (rest := [.ref 301]) hT6 dX7_unfold_7 rfl qm_191 (by decide) rfl rl_301 (by decide) rfl (Nat.le_of_ble_eq_true rfl) rfl ⟨rfl, rfl⟩ ⟨Nat.le_of_ble_eq_true rfl, Nat.le_of_ble_eq_true rfl⟩ (EvP.mono (by decide) (c_M_unfolds hT6 R8r )) (fun r11 P12 g13 => mpp 10 rfl ?_)
  obtain ⟨⟨x14, rfl, g15⟩, hT16, k17, R18⟩ := g13
  have k19 : KW [1092, 1093, 1094, 1095, 1152, 1216, 1344] Po P12 := KW.trans k9 k17 rfl
  have wx14 := ti_full x14
  replace g15 : unfoldsM (sr P2) (sr P12) x14.toInt t1.toInt := g15
  show MEvP _ none q_190 10 [(0, .ref 301), (1, .int t1)] [.int x14, .ref 301] _ _ _ _
  refine mt_callv (i := 124) (q' := q_139) (As := [.int x14]) (rest := []) hT16 dX7_unfold_10 rfl qm_139 (by decide) rfl rl_301 (by decide) rfl (Nat.le_of_ble_eq_true rfl) rfl ⟨rfl, rfl⟩ ⟨Nat.le_of_ble_eq_true rfl, Nat.le_of_ble_eq_true rfl⟩ (EvP.mono (by decide) (c_M_ends hT16 R18 )) (fun r21 P22 g23 => mpp 13 rfl ?_)
  obtain ⟨⟨x24, rfl, g25⟩, hT26, k27, R28r, R28⟩ := g23
  have k29 : KW [1092, 1093, 1094, 1095, 1152, 1216, 1344] Po P22 := KW.trans k19 k27 rfl
  have wx24 := ti_full x24
  replace g25 : x24.toInt = x14.toInt := g25
  show MEvP _ none q_190 13 [(0, .ref 301), (1, .int t1)] [.int x24] _ _ _ _
  have w32_a : sr P2 = sr Po := funext (fun j => R8.2 302 j (by omega))
  have w32_b : sr P12 = sr P22 := funext (fun j => (R28.2.2.1 302 j (by omega) (by omega) (by omega)).symm)
  have w32_g := g15
  rw [w32_a, w32_b] at w32_g
  have w32_x : x24.toInt = x14.toInt := by omega
  rw [← w32_x] at w32_g
  have w32_t : TOPM Po P22 x24.toInt := TOPM.mk R8.1 (fun j => KW.at k17 j rl_303 rfl) (fun j => KW.at k17 j rl_304 rfl) (fun j => KW.at k17 j rl_305 rfl) (fun j => KW.at k17 j rl_314 rfl) (KW.at k17 8 rl_301 rfl) (KW.at k17 4 rl_301 rfl) (KW.at k17 23 rl_301 rfl) (by rw [w32_x]; exact R28.1) (by rw [w32_x]; exact R28.2.1) R28.2.2.1
  have u31 : TOPM Po P22 x24.toInt ∧ unfoldsM (sr Po) (sr P22) x24.toInt t1.toInt := ⟨w32_t, w32_g⟩
  exact mp_iret ⟨⟨_, rfl, u31⟩, hT26, k29, R28r⟩ dX7_unfold_13 (Or.inl rfl)

set_option maxHeartbeats 4000000 in
theorem c_M_drops {Po : mP} {t1 : Int32} (hT : Typ Po) (hR : Rel Po)  : EvP 3 193 [.ref 301, .int t1] Po (fun r P' => (∃ x : Int32, r = some (.int x) ∧ (dropsM (sr Po) (sr P') x.toInt t1.toInt)) ∧ Typ P' ∧ KW [1152] Po P' ∧ Rel P') := by
  refine EvP.of qm_193 (Nat.le_of_ble_eq_true rfl) rfl ?_
  show MEvP _ none q_193 0 [(0, .ref 301), (1, .int t1)] [] _ 0 0 _
  have w_t1 := ti_full t1
  refine mp_a (a_aload_n dX7_drops_0 rfl) (mpp 1 rfl ?_)
  refine mp_a (a_iload_n dX7_drops_1 rfl) (mpp 2 rfl ?_)
  refine mt_callv (i := 85) (q' := q_144) (As := [.int t1]) (rest := []) hT dX7_drops_2 rfl qm_144 (by decide) rfl rl_301 (by decide) rfl (Nat.le_of_ble_eq_true rfl) rfl ⟨rfl, rfl⟩ ⟨Nat.le_of_ble_eq_true rfl, Nat.le_of_ble_eq_true rfl⟩ (EvP.mono (by decide) (c_M_isPiece hT )) (fun r1 P2 g3 => mpp 5 rfl ?_)
  obtain ⟨⟨x4, rfl, g5⟩, e6⟩ := g3
  have e6 := e6.symm
  subst e6
  have wx4 := ti_full x4
  replace g5 : 0 ≤ x4.toInt ∧ x4.toInt ≤ 1 ∧ ((x4.toInt = 1 ∧ 0 ≤ t1.toInt ∧ t1.toInt + 1 ≤ (fv Po 302 0).toInt ∧ t1.toInt ≤ 7) ∨ (x4.toInt = 0 ∧ (t1.toInt < 0 ∨ (fv Po 302 0).toInt ≤ t1.toInt))) := g5
  have g7 : (0 : Int) ≤ (fv Po 302 0).toInt ∧ (fv Po 302 0).toInt ≤ 8 := Typ.rng hT rl_302 (by decide) (by decide) rfl
  show MEvP _ none q_193 5 [(0, .ref 301), (1, .int t1)] [.int x4] _ _ _ _
  refine mp_Tb (t := 12) (j_if_ne dX7_drops_5) (by decide) (fun c8 => ?_) (fun c8 => mpp 8 rfl ?_)
  · have c8 : x4.toInt ≠ 0 := ti_ne c8
    refine mp_a (a_aload_n dX7_drops_12 rfl) (mpp 13 rfl ?_)
    refine mp_a (a_iload_n dX7_drops_13 rfl) (mpp 14 rfl ?_)
    have p9 : 0 ≤ t1.toInt := by omega
    have p10 : t1.toInt + 1 ≤ (fv Po 302 0).toInt := by omega
    refine mt_callv (i := 148) (q' := q_155) (As := [.int t1]) (rest := []) hT dX7_drops_14 rfl qm_155 (by decide) rfl rl_301 (by decide) rfl (Nat.le_of_ble_eq_true rfl) rfl ⟨rfl, rfl⟩ ⟨Nat.le_of_ble_eq_true rfl, Nat.le_of_ble_eq_true rfl⟩ (EvP.mono (by decide) (c_M_goes hT hR p9 p10 )) (fun r11 P12 g13 => mpp 17 rfl ?_)
    obtain ⟨⟨rfl, g15⟩, hT16, k17, R18r, R18⟩ := g13
    have k19 : KW [1152] Po P12 := KW.trans KW.refl k17 rfl
    show MEvP _ none q_193 17 [(0, .ref 301), (1, .int t1)] [] _ _ _ _
    refine mp_a (a_aload_n dX7_drops_17 rfl) (mpp 18 rfl ?_)
    refine mt_getU (i := 9) (k := 0) (A := 302) hT16 dX7_drops_18 rfl rl_301 (by decide) rfl (by decide) rfl un_18 (mpp 21 rfl ?_)
    refine mp_a (a_iconst (v := 0) dX7_drops_21 rfl) (mpp 22 rfl ?_)
    have g23 : (0 : Int) ≤ (fv P12 302 0).toInt ∧ (fv P12 302 0).toInt ≤ 8 := Typ.rng hT16 rl_302 (by decide) (by decide) rfl
    refine mt_ialX (n := 155) hT16 dX7_drops_22 rl_302 (by decide) rfl rfl (by decide) (by decide) ssp_0 (fun g21 => mpp 23 rfl ?_)
    have we24 := ti_full (fv P12 302 0)
    have u25 : dropsM (sr Po) (sr P12) (fv P12 302 0).toInt t1.toInt := (show ((fv P12 302 0).toInt = -1001 ∧ (t1.toInt < 0 ∨ (fv Po 302 (0)).toInt ≤ t1.toInt) ∧ (∀ j : Nat, fv P12 302 j = fv Po 302 j)) ∨ ((0 ≤ t1.toInt ∧ t1.toInt + 1 ≤ (fv Po 302 (0)).toInt ∧ t1.toInt ≤ 7) ∧ (fv P12 302 0).toInt = (fv Po 302 (0)).toInt - 1 ∧ (fv P12 302 (0)).toInt = (fv Po 302 (0)).toInt - 1 ∧ (∀ j : Nat, 1 ≤ j → fv P12 302 j = if 3 + 19 * t1.toInt.toNat ≤ j ∧ j < 3 + 19 * ((fv Po 302 (0)).toInt - 1).toNat then fv Po 302 (j + 19) else fv Po 302 j)) from Or.inr (⟨by omega, by omega, by omega, R18.1⟩))
    exact mp_iret ⟨⟨_, rfl, u25⟩, hT16, k19, R18r⟩ dX7_drops_23 (Or.inl rfl)
  · have c8 : x4.toInt = 0 := ti_ne_n c8
    refine mp_a (a_sipush (v := -1001) dX7_drops_8 rfl) (mpp 11 rfl ?_)
    have u26 : dropsM (sr Po) (sr Po) (-1001 : Int) t1.toInt := (show ((-1001 : Int) = -1001 ∧ (t1.toInt < 0 ∨ (fv Po 302 (0)).toInt ≤ t1.toInt) ∧ (∀ j : Nat, fv Po 302 j = fv Po 302 j)) ∨ ((0 ≤ t1.toInt ∧ t1.toInt + 1 ≤ (fv Po 302 (0)).toInt ∧ t1.toInt ≤ 7) ∧ (-1001 : Int) = (fv Po 302 (0)).toInt - 1 ∧ (fv Po 302 (0)).toInt = (fv Po 302 (0)).toInt - 1 ∧ (∀ j : Nat, 1 ≤ j → fv Po 302 j = if 3 + 19 * t1.toInt.toNat ≤ j ∧ j < 3 + 19 * ((fv Po 302 (0)).toInt - 1).toNat then fv Po 302 (j + 19) else fv Po 302 j)) from Or.inl (⟨by omega, by omega, fun j => rfl⟩))
    exact mp_iret ⟨⟨_, rfl, u26⟩, hT, KW.refl, hR⟩ dX7_drops_11 (Or.inl rfl)

set_option maxHeartbeats 4000000 in
theorem c_M_drop {Po : mP} {t1 : Int32} (hT : Typ Po) (hR : Rel Po)  : EvP 4 192 [.ref 301, .int t1] Po (fun r P' => (∃ x : Int32, r = some (.int x) ∧ (TOPM Po P' x.toInt ∧ dropsM (sr Po) (sr P') x.toInt t1.toInt)) ∧ Typ P' ∧ KW [1092, 1095, 1152, 1216, 1344] Po P' ∧ Rel P') := by
  refine EvP.of qm_192 (Nat.le_of_ble_eq_true rfl) rfl ?_
  show MEvP _ none q_192 0 [(0, .ref 301), (1, .int t1)] [] _ 0 0 _
  have w_t1 := ti_full t1
  refine mp_a (a_aload_n dX7_drop_0 rfl) (mpp 1 rfl ?_)
  refine mt_callv (i := 117) (q' := q_124) (As := []) (rest := []) hT dX7_drop_1 rfl qm_124 (by decide) rfl rl_301 (by decide) rfl (Nat.le_of_ble_eq_true rfl) rfl ⟨rfl, rfl⟩ ⟨Nat.le_of_ble_eq_true rfl, Nat.le_of_ble_eq_true rfl⟩ (EvP.mono (by decide) (c_M_keeps hT hR )) (fun r1 P2 g3 => mpp 4 rfl ?_)
  obtain ⟨⟨rfl, g5⟩, hT6, k7, R8r, R8⟩ := g3
  have k9 : KW [1092, 1095, 1152, 1216, 1344] Po P2 := KW.trans KW.refl k7 rfl
  show MEvP _ none q_192 4 [(0, .ref 301), (1, .int t1)] [] _ _ _ _
  refine mp_a (a_aload_n dX7_drop_4 rfl) (mpp 5 rfl ?_)
  refine mp_a (a_aload_n dX7_drop_5 rfl) (mpp 6 rfl ?_)
  refine mp_a (a_iload_n dX7_drop_6 rfl) (mpp 7 rfl ?_)
  refine mt_callv (i := 246) (q' := q_193) (As := [.int t1]) (rest := [.ref 301]) hT6 dX7_drop_7 rfl qm_193 (by decide) rfl rl_301 (by decide) rfl (Nat.le_of_ble_eq_true rfl) rfl ⟨rfl, rfl⟩ ⟨Nat.le_of_ble_eq_true rfl, Nat.le_of_ble_eq_true rfl⟩ (EvP.mono (by decide) (c_M_drops hT6 R8r )) (fun r11 P12 g13 => mpp 10 rfl ?_)
  obtain ⟨⟨x14, rfl, g15⟩, hT16, k17, R18⟩ := g13
  have k19 : KW [1092, 1095, 1152, 1216, 1344] Po P12 := KW.trans k9 k17 rfl
  have wx14 := ti_full x14
  replace g15 : dropsM (sr P2) (sr P12) x14.toInt t1.toInt := g15
  show MEvP _ none q_192 10 [(0, .ref 301), (1, .int t1)] [.int x14, .ref 301] _ _ _ _
  refine mt_callv (i := 124) (q' := q_139) (As := [.int x14]) (rest := []) hT16 dX7_drop_10 rfl qm_139 (by decide) rfl rl_301 (by decide) rfl (Nat.le_of_ble_eq_true rfl) rfl ⟨rfl, rfl⟩ ⟨Nat.le_of_ble_eq_true rfl, Nat.le_of_ble_eq_true rfl⟩ (EvP.mono (by decide) (c_M_ends hT16 R18 )) (fun r21 P22 g23 => mpp 13 rfl ?_)
  obtain ⟨⟨x24, rfl, g25⟩, hT26, k27, R28r, R28⟩ := g23
  have k29 : KW [1092, 1095, 1152, 1216, 1344] Po P22 := KW.trans k19 k27 rfl
  have wx24 := ti_full x24
  replace g25 : x24.toInt = x14.toInt := g25
  show MEvP _ none q_192 13 [(0, .ref 301), (1, .int t1)] [.int x24] _ _ _ _
  have w32_a : sr P2 = sr Po := funext (fun j => R8.2 302 j (by omega))
  have w32_b : sr P12 = sr P22 := funext (fun j => (R28.2.2.1 302 j (by omega) (by omega) (by omega)).symm)
  have w32_g := g15
  rw [w32_a, w32_b] at w32_g
  have w32_x : x24.toInt = x14.toInt := by omega
  rw [← w32_x] at w32_g
  have w32_t : TOPM Po P22 x24.toInt := TOPM.mk R8.1 (fun j => KW.at k17 j rl_303 rfl) (fun j => KW.at k17 j rl_304 rfl) (fun j => KW.at k17 j rl_305 rfl) (fun j => KW.at k17 j rl_314 rfl) (KW.at k17 8 rl_301 rfl) (KW.at k17 4 rl_301 rfl) (KW.at k17 23 rl_301 rfl) (by rw [w32_x]; exact R28.1) (by rw [w32_x]; exact R28.2.1) R28.2.2.1
  have u31 : TOPM Po P22 x24.toInt ∧ dropsM (sr Po) (sr P22) x24.toInt t1.toInt := ⟨w32_t, w32_g⟩
  exact mp_iret ⟨⟨_, rfl, u31⟩, hT26, k29, R28r⟩ dX7_drop_13 (Or.inl rfl)

set_option maxHeartbeats 4000000 in
theorem c_M_sumOf_l4 {Po : mP} {t1 : Int32} (hT : Typ Po)  (hp0 : 0 ≤ t1.toInt) (hp1 : t1.toInt ≤ 7)  : ∀ (n : Nat) (v2 : Int32) (v3 : Int32), (v2 = smF (fun j : Nat => fv Po 302 (6 + 19 * t1.toInt.toNat + j)) v3.toInt.toNat) → (v3.toInt ≤ (fv Po 302 (4 + 19 * t1.toInt.toNat)).toInt) → (0 ≤ v3.toInt) → (2147483647 - v3.toInt).toNat = n → MEvP 3 none q_195 4 [(0, .ref 301), (1, .int t1), (2, .int v2), (3, .int v3)] [] Po 0 0 (fun r P' => (∃ x : Int32, r = some (.int x) ∧ (x.toInt = (smF (fun j : Nat => fv Po 302 (6 + 19 * t1.toInt.toNat + j)) (fv Po 302 (4 + 19 * t1.toInt.toNat)).toInt.toNat).toInt)) ∧ P' = Po) := by
  intro n
  induction n using Nat.strongRecOn with | _ n ih => ?_
  intro v2 v3 i_0 i_1 i_2 hm
  have w_t1 := ti_full t1
  have w_v2 := ti_full v2
  have w_v3 := ti_full v3
  try have g1 : (0 : Int) ≤ (fv Po 302 (4 + 19 * t1.toInt.toNat)).toInt ∧ (fv Po 302 (4 + 19 * t1.toInt.toNat)).toInt ≤ 8 := s4_rng hT (by omega)
  refine mp_a (a_iload_n dX7_sumOf_4 rfl) (mpp 5 rfl ?_)
  refine mp_a (a_aload_n dX7_sumOf_5 rfl) (mpp 6 rfl ?_)
  refine mp_a (a_iload_n dX7_sumOf_6 rfl) (mpp 7 rfl ?_)
  refine mp_a (a_iconst (v := 1) dX7_sumOf_7 rfl) (mpp 8 rfl ?_)
  have p2 : 0 ≤ t1.toInt := by omega
  have p3 : t1.toInt ≤ 7 := by omega
  have p4 : 0 ≤ (1 : Int) := by omega
  have p5 : (1 : Int) ≤ 18 := by omega
  refine mt_callv (i := 78) (q' := q_137) (As := [.int t1, .int 1]) (rest := [.int v3]) hT dX7_sumOf_8 rfl qm_137 (by decide) rfl rl_301 (by decide) rfl (Nat.le_of_ble_eq_true rfl) rfl ⟨rfl, rfl⟩ ⟨Nat.le_of_ble_eq_true rfl, Nat.le_of_ble_eq_true rfl⟩ (EvP.mono (by decide) (c_M_of_c1 hT p2 p3 p4 p5 )) (fun r6 P7 g8 => mpp 11 rfl ?_)
  obtain ⟨⟨x9, rfl, g10⟩, e11⟩ := g8
  have e11 := e11.symm
  subst e11
  have wx9 := ti_full x9
  replace g10 : x9.toInt = (fv Po 302 (4 + 19 * t1.toInt.toNat)).toInt ∧ 0 ≤ x9.toInt ∧ x9.toInt ≤ 8 := g10
  show MEvP _ none q_195 11 [(0, .ref 301), (1, .int t1), (2, .int v2), (3, .int v3)] [.int x9, .int v3] _ _ _ _
  refine mp_Tb (t := 29) (j_icmp_ge dX7_sumOf_11) (by decide) (fun c12 => ?_) (fun c12 => mpp 14 rfl ?_)
  · have c12 : v3.toInt ≥ x9.toInt := ti_ge c12
    refine mp_a (a_iload_n dX7_sumOf_29 rfl) (mpp 30 rfl ?_)
    have u13 : v2.toInt = (smF (fun j : Nat => fv Po 302 (6 + 19 * t1.toInt.toNat + j)) (fv Po 302 (4 + 19 * t1.toInt.toNat)).toInt.toNat).toInt := congrArg Int32.toInt (i_0.trans (congrArg (smF _) (by omega)))
    exact mp_iret ⟨⟨_, rfl, u13⟩, rfl⟩ dX7_sumOf_30 (Or.inl rfl)
  · have c12 : v3.toInt < x9.toInt := ti_ge_n c12
    refine mp_a (a_iload_n dX7_sumOf_14 rfl) (mpp 15 rfl ?_)
    refine mp_a (a_aload_n dX7_sumOf_15 rfl) (mpp 16 rfl ?_)
    refine mp_a (a_iload_n dX7_sumOf_16 rfl) (mpp 17 rfl ?_)
    refine mp_a (a_iload_n dX7_sumOf_17 rfl) (mpp 18 rfl ?_)
    have p14 : 0 ≤ t1.toInt := by omega
    have p15 : t1.toInt ≤ 7 := by omega
    have p16 : 0 ≤ v3.toInt := by omega
    have p17 : v3.toInt ≤ 7 := by omega
    refine mt_callv (i := 142) (q' := q_152) (As := [.int t1, .int v3]) (rest := [.int v2]) hT dX7_sumOf_18 rfl qm_152 (by decide) rfl rl_301 (by decide) rfl (Nat.le_of_ble_eq_true rfl) rfl ⟨rfl, rfl⟩ ⟨Nat.le_of_ble_eq_true rfl, Nat.le_of_ble_eq_true rfl⟩ (EvP.mono (by decide) (c_M_sizeOf hT p14 p15 p16 p17 )) (fun r18 P19 g20 => mpp 21 rfl ?_)
    obtain ⟨⟨x21, rfl, g22⟩, e23⟩ := g20
    have e23 := e23.symm
    subst e23
    have wx21 := ti_full x21
    replace g22 : x21.toInt = (fv Po 302 (6 + 19 * t1.toInt.toNat + v3.toInt.toNat)).toInt := g22
    show MEvP _ none q_195 21 [(0, .ref 301), (1, .int t1), (2, .int v2), (3, .int v3)] [.int x21, .int v2] _ _ _ _
    obtain ⟨z24, h25⟩ := ti_ex (v2 + x21 : Int32)
    have wz24 := ti_full z24
    refine mp_t (s_iadd (v := z24) dX7_sumOf_21 h25) (mpp 22 rfl ?_)
    try have e26 : z24.toInt = v2.toInt + x21.toInt := ti_addz h25 rfl rfl (by omega) (by omega)
    refine mp_a (a_istore_n (L' := [(2, .int z24), (0, .ref 301), (1, .int t1), (3, .int v3)]) dX7_sumOf_22 (by decide) rfl) (mpp 23 rfl ?_)
    obtain ⟨z27, h28⟩ := ti_ex (v3 + 1 : Int32)
    have wz27 := ti_full z27
    refine mp_a (a_iinc (v := z27) (L' := [(3, .int z27), (2, .int z24), (0, .ref 301), (1, .int t1)]) dX7_sumOf_23 (by decide) rfl h28 rfl) (mpp 26 rfl ?_)
    try have e29 : z27.toInt = v3.toInt + 1 := ti_addz h28 rfl rfl (by omega) (by omega)
    refine mp_a (a_goto (t := 4) dX7_sumOf_26 (by decide)) ?_
    refine MEvP.less (L := [(0, .ref 301), (1, .int t1), (2, .int z24), (3, .int z27)]) rfl rfl ⟨rfl, rfl, rfl, rfl, trivial⟩ ?_
    have i30 : z24 = smF (fun j : Nat => fv Po 302 (6 + 19 * t1.toInt.toNat + j)) z27.toInt.toNat := smF.step i_0 (by omega) (by show _ = (fv Po 302 (6 + 19 * t1.toInt.toNat + v3.toInt.toNat)).toInt; omega) h25
    have i31 : z27.toInt ≤ (fv Po 302 (4 + 19 * t1.toInt.toNat)).toInt := by omega
    have i32 : 0 ≤ z27.toInt := by omega
    exact ih _ (by omega) _ _ i30 i31 i32 rfl

set_option maxHeartbeats 4000000 in
theorem c_M_sumOf {Po : mP} {t1 : Int32} (hT : Typ Po)  (hp0 : 0 ≤ t1.toInt) (hp1 : t1.toInt ≤ 7)  : EvP 4 195 [.ref 301, .int t1] Po (fun r P' => (∃ x : Int32, r = some (.int x) ∧ (x.toInt = (smF (fun j : Nat => fv Po 302 (6 + 19 * t1.toInt.toNat + j)) (fv Po 302 (4 + 19 * t1.toInt.toNat)).toInt.toNat).toInt)) ∧ P' = Po) := by
  refine EvP.of qm_195 (Nat.le_of_ble_eq_true rfl) rfl ?_
  show MEvP _ none q_195 0 [(0, .ref 301), (1, .int t1)] [] _ 0 0 _
  have w_t1 := ti_full t1
  try have g1 : (0 : Int) ≤ (fv Po 302 (4 + 19 * t1.toInt.toNat)).toInt ∧ (fv Po 302 (4 + 19 * t1.toInt.toNat)).toInt ≤ 8 := s4_rng hT (by omega)
  refine mp_a (a_iconst (v := 0) dX7_sumOf_0 rfl) (mpp 1 rfl ?_)
  refine mp_a (a_istore_n (L' := [(2, .int 0), (0, .ref 301), (1, .int t1)]) dX7_sumOf_1 (by decide) rfl) (mpp 2 rfl ?_)
  refine mp_a (a_iconst (v := 0) dX7_sumOf_2 rfl) (mpp 3 rfl ?_)
  refine mp_a (a_istore_n (L' := [(3, .int 0), (2, .int 0), (0, .ref 301), (1, .int t1)]) dX7_sumOf_3 (by decide) rfl) (mpp 4 rfl ?_)
  refine MEvP.less (L := [(0, .ref 301), (1, .int t1), (2, .int 0), (3, .int 0)]) rfl rfl ⟨rfl, rfl, rfl, rfl, trivial⟩ ?_
  have i2 : 0 = smF (fun j : Nat => fv Po 302 (6 + 19 * t1.toInt.toNat + j)) (0 : Int).toNat := rfl
  have i3 : (0 : Int) ≤ (fv Po 302 (4 + 19 * t1.toInt.toNat)).toInt := by omega
  have i4 : 0 ≤ (0 : Int) := by omega
  exact c_M_sumOf_l4 hT  hp0 hp1 _ _ _ i2 i3 i4 rfl

