/-! methods on typed pools, 31 (written by a program) -/
set_option maxHeartbeats 4000000 in
theorem c_M_cuts {Po : mP} {t1 : Int32} {t2 : Int32} (hT : Typ Po) (hR : Rel Po)  : EvP 6 157 [.ref 301, .int t1, .int t2] Po (fun r P' => (∃ x : Int32, r = some (.int x) ∧ (cutsM (sr Po) (sr P') x.toInt t1.toInt t2.toInt)) ∧ Typ P' ∧ KW [1093, 1094, 1152, 1408, 1472] Po P' ∧ Rel P') := by
  refine EvP.of qm_157 (Nat.le_of_ble_eq_true rfl) rfl ?_
  show MEvP _ none q_157 0 [(0, .ref 301), (1, .int t1), (2, .int t2)] [] _ 0 0 _
  have w_t1 := ti_full t1
  have w_t2 := ti_full t2
  refine mp_a (a_aload_n dX7_cuts_0 rfl) (mpp 1 rfl ?_)
  refine mp_a (a_iload_n dX7_cuts_1 rfl) (mpp 2 rfl ?_)
  refine mp_a (a_iload_n dX7_cuts_2 rfl) (mpp 3 rfl ?_)
  refine mt_callv (i := 127) (q' := q_143) (As := [.int t1, .int t2]) (rest := []) hT dX7_cuts_3 rfl qm_143 (by decide) rfl rl_301 (by decide) rfl (Nat.le_of_ble_eq_true rfl) rfl ⟨rfl, rfl⟩ ⟨Nat.le_of_ble_eq_true rfl, Nat.le_of_ble_eq_true rfl⟩ (EvP.mono (by decide) (c_M_isCrease hT )) (fun r1 P2 g3 => mpp 6 rfl ?_)
  obtain ⟨⟨x4, rfl, g5⟩, e6⟩ := g3
  have e6 := e6.symm
  subst e6
  have wx4 := ti_full x4
  replace g5 : 0 ≤ x4.toInt ∧ x4.toInt ≤ 1 ∧ ((x4.toInt = 0 ∧ (t1.toInt < 0 ∨ (fv Po 302 0).toInt ≤ t1.toInt ∨ t2.toInt < 0 ∨ ((fv Po 302 (3 + 19 * t1.toInt.toNat)).toInt = 1 ∧ (fv Po 302 (4 + 19 * t1.toInt.toNat)).toInt ≤ t2.toInt) ∨ ((fv Po 302 (3 + 19 * t1.toInt.toNat)).toInt = 0 ∧ (fv Po 302 (4 + 19 * t1.toInt.toNat)).toInt - 1 ≤ t2.toInt))) ∨ (x4.toInt = 1 ∧ 0 ≤ t1.toInt ∧ t1.toInt + 1 ≤ (fv Po 302 0).toInt ∧ t1.toInt ≤ 7 ∧ 0 ≤ t2.toInt ∧ t2.toInt ≤ 7 ∧ t2.toInt + 1 ≤ (fv Po 302 (4 + 19 * t1.toInt.toNat)).toInt ∧ (((fv Po 302 (3 + 19 * t1.toInt.toNat)).toInt = 1 ∧ t2.toInt < (fv Po 302 (4 + 19 * t1.toInt.toNat)).toInt) ∨ ((fv Po 302 (3 + 19 * t1.toInt.toNat)).toInt = 0 ∧ t2.toInt < (fv Po 302 (4 + 19 * t1.toInt.toNat)).toInt - 1)))) := g5
  have g7 : (0 : Int) ≤ (fv Po 302 0).toInt ∧ (fv Po 302 0).toInt ≤ 8 := Typ.rng hT rl_302 (by decide) (by decide) rfl
  try have g8 : (0 : Int) ≤ (fv Po 302 (3 + 19 * t1.toInt.toNat)).toInt ∧ (fv Po 302 (3 + 19 * t1.toInt.toNat)).toInt ≤ 1 := s3_rng hT (by omega)
  try have g9 : (0 : Int) ≤ (fv Po 302 (4 + 19 * t1.toInt.toNat)).toInt ∧ (fv Po 302 (4 + 19 * t1.toInt.toNat)).toInt ≤ 8 := s4_rng hT (by omega)
  show MEvP _ none q_157 6 [(0, .ref 301), (1, .int t1), (2, .int t2)] [.int x4] _ _ _ _
  refine mp_Tb (t := 13) (j_if_ne dX7_cuts_6) (by decide) (fun c10 => ?_) (fun c10 => mpp 9 rfl ?_)
  · have c10 : x4.toInt ≠ 0 := ti_ne c10
    refine mp_a (a_aload_n dX7_cuts_13 rfl) (mpp 14 rfl ?_)
    refine mt_getU (i := 9) (k := 0) (A := 302) hT dX7_cuts_14 rfl rl_301 (by decide) rfl (by decide) rfl un_18 (mpp 17 rfl ?_)
    refine mp_a (a_iconst (v := 0) dX7_cuts_17 rfl) (mpp 18 rfl ?_)
    refine mt_ialX (n := 155) hT dX7_cuts_18 rl_302 (by decide) rfl rfl (by decide) (by decide) ssp_0 (fun g11 => mpp 19 rfl ?_)
    have we13 := ti_full (fv Po 302 0)
    refine mp_a (a_bipush (v := 8) dX7_cuts_19 rfl) (mpp 21 rfl ?_)
    refine mp_Tb (t := 32) (j_icmp_ne dX7_cuts_21) (by decide) (fun c14 => ?_) (fun c14 => mpp 24 rfl ?_)
    · have c14 : (fv Po 302 0).toInt ≠ 8 := ti_ne c14
      refine mp_a (a_aload_n dX7_cuts_32 rfl) (mpp 33 rfl ?_)
      refine mp_a (a_iload_n dX7_cuts_33 rfl) (mpp 34 rfl ?_)
      have p15 : 0 ≤ t1.toInt := by omega
      have p16 : t1.toInt ≤ 7 := by omega
      refine mt_callv (i := 130) (q' := q_145) (As := [.int t1]) (rest := []) hT dX7_cuts_34 rfl qm_145 (by decide) rfl rl_301 (by decide) rfl (Nat.le_of_ble_eq_true rfl) rfl ⟨rfl, rfl⟩ ⟨Nat.le_of_ble_eq_true rfl, Nat.le_of_ble_eq_true rfl⟩ (EvP.mono (by decide) (c_M_isFolded hT p15 p16 )) (fun r17 P18 g19 => mpp 37 rfl ?_)
      obtain ⟨⟨x20, rfl, g21⟩, e22⟩ := g19
      have e22 := e22.symm
      subst e22
      have wx20 := ti_full x20
      replace g21 : 0 ≤ x20.toInt ∧ x20.toInt ≤ 1 ∧ ((x20.toInt = 1 ∧ (fv Po 302 (5 + 19 * t1.toInt.toNat)).toInt = 1) ∨ (x20.toInt = 0 ∧ (fv Po 302 (5 + 19 * t1.toInt.toNat)).toInt ≠ 1)) := g21
      have g23 := ti_full (fv Po 302 (5 + 19 * t1.toInt.toNat))
      show MEvP _ none q_157 37 [(0, .ref 301), (1, .int t1), (2, .int t2)] [.int x20] _ _ _ _
      refine mp_Tb (t := 47) (j_if_eq dX7_cuts_37) (by decide) (fun c24 => ?_) (fun c24 => mpp 40 rfl ?_)
      · have c24 : x20.toInt = 0 := ti_eq c24
        refine mp_a (a_aload_n dX7_cuts_47 rfl) (mpp 48 rfl ?_)
        refine mp_a (a_iload_n dX7_cuts_48 rfl) (mpp 49 rfl ?_)
        have p25 : 0 ≤ t1.toInt := by omega
        have p26 : t1.toInt ≤ 7 := by omega
        refine mt_callv (i := 81) (q' := q_138) (As := [.int t1]) (rest := []) hT dX7_cuts_49 rfl qm_138 (by decide) rfl rl_301 (by decide) rfl (Nat.le_of_ble_eq_true rfl) rfl ⟨rfl, rfl⟩ ⟨Nat.le_of_ble_eq_true rfl, Nat.le_of_ble_eq_true rfl⟩ (EvP.mono (by decide) (c_M_isCorner hT p25 p26 )) (fun r27 P28 g29 => mpp 52 rfl ?_)
        obtain ⟨⟨x30, rfl, g31⟩, e32⟩ := g29
        have e32 := e32.symm
        subst e32
        have wx30 := ti_full x30
        replace g31 : 0 ≤ x30.toInt ∧ x30.toInt ≤ 1 ∧ ((x30.toInt = 1 ∧ (fv Po 302 (3 + 19 * t1.toInt.toNat)).toInt = 1) ∨ (x30.toInt = 0 ∧ (fv Po 302 (3 + 19 * t1.toInt.toNat)).toInt = 0)) := g31
        show MEvP _ none q_157 52 [(0, .ref 301), (1, .int t1), (2, .int t2)] [.int x30] _ _ _ _
        refine mp_Tb (t := 62) (j_if_eq dX7_cuts_52) (by decide) (fun c33 => ?_) (fun c33 => mpp 55 rfl ?_)
        · have c33 : x30.toInt = 0 := ti_eq c33
          refine mp_a (a_aload_n dX7_cuts_62 rfl) (mpp 63 rfl ?_)
          refine mp_a (a_iload_n dX7_cuts_63 rfl) (mpp 64 rfl ?_)
          refine mp_a (a_iconst (v := 1) dX7_cuts_64 rfl) (mpp 65 rfl ?_)
          have p34 : 0 ≤ t1.toInt := by omega
          have p35 : t1.toInt ≤ 7 := by omega
          have p36 : 0 ≤ (1 : Int) := by omega
          have p37 : (1 : Int) ≤ 18 := by omega
          refine mt_callv (i := 78) (q' := q_137) (As := [.int t1, .int 1]) (rest := []) hT dX7_cuts_65 rfl qm_137 (by decide) rfl rl_301 (by decide) rfl (Nat.le_of_ble_eq_true rfl) rfl ⟨rfl, rfl⟩ ⟨Nat.le_of_ble_eq_true rfl, Nat.le_of_ble_eq_true rfl⟩ (EvP.mono (by decide) (c_M_of_c1 hT p34 p35 p36 p37 )) (fun r38 P39 g40 => mpp 68 rfl ?_)
          obtain ⟨⟨x41, rfl, g42⟩, e43⟩ := g40
          have e43 := e43.symm
          subst e43
          have wx41 := ti_full x41
          replace g42 : x41.toInt = (fv Po 302 (4 + 19 * t1.toInt.toNat)).toInt ∧ 0 ≤ x41.toInt ∧ x41.toInt ≤ 8 := g42
          show MEvP _ none q_157 68 [(0, .ref 301), (1, .int t1), (2, .int t2)] [.int x41] _ _ _ _
          refine mp_a (a_istore_n (L' := [(3, .int x41), (0, .ref 301), (1, .int t1), (2, .int t2)]) dX7_cuts_68 (by decide) rfl) (mpp 69 rfl ?_)
          refine mp_a (a_iload_n dX7_cuts_69 rfl) (mpp 70 rfl ?_)
          refine mp_a (a_iconst (v := 1) dX7_cuts_70 rfl) (mpp 71 rfl ?_)
          obtain ⟨z44, h45⟩ := ti_ex (t2 + 1 : Int32)
          have wz44 := ti_full z44
          refine mp_t (s_iadd (v := z44) dX7_cuts_71 h45) (mpp 72 rfl ?_)
          try have e46 : z44.toInt = t2.toInt + 1 := ti_addz h45 rfl rfl (by omega) (by omega)
          refine mp_a (a_istore (L' := [(4, .int z44), (3, .int x41), (0, .ref 301), (1, .int t1), (2, .int t2)]) dX7_cuts_72 (by decide) rfl) (mpp 74 rfl ?_)
          refine mp_a (a_iload_n dX7_cuts_74 rfl) (mpp 75 rfl ?_)
          refine mp_a (a_iload dX7_cuts_75 rfl) (mpp 77 rfl ?_)
          obtain ⟨z47, h48⟩ := ti_ex (x41 - z44 : Int32)
          have wz47 := ti_full z47
          refine mp_t (s_isub (v := z47) dX7_cuts_77 h48) (mpp 78 rfl ?_)
          try have e49 : z47.toInt = x41.toInt - z44.toInt := ti_subz h48 rfl rfl (by omega) (by omega)
          refine mp_a (a_istore (L' := [(5, .int z47), (4, .int z44), (3, .int x41), (0, .ref 301), (1, .int t1), (2, .int t2)]) dX7_cuts_78 (by decide) rfl) (mpp 80 rfl ?_)
          refine mp_a (a_iload dX7_cuts_80 rfl) (mpp 82 rfl ?_)
          refine mp_a (a_iload dX7_cuts_82 rfl) (mpp 84 rfl ?_)
          refine mp_calls (i := 155) (q' := q_158) (As := [.int z44, .int z47]) (rest := []) dX7_cuts_84 rfl qm_158 (by decide) rfl (Nat.le_of_ble_eq_true rfl) rfl ⟨rfl, rfl⟩ ⟨Nat.le_of_ble_eq_true rfl, Nat.le_of_ble_eq_true rfl⟩ (EvP.mono (by decide) (c_M_lesser hT )) (fun r50 P51 g52 => mpp 87 rfl ?_)
          obtain ⟨⟨x53, rfl, g54⟩, e55⟩ := g52
          have e55 := e55.symm
          subst e55
          have wx53 := ti_full x53
          replace g54 : (x53.toInt = z44.toInt ∧ z44.toInt ≤ z47.toInt) ∨ (x53.toInt = z47.toInt ∧ z47.toInt ≤ z44.toInt) := g54
          show MEvP _ none q_157 87 [(5, .int z47), (4, .int z44), (3, .int x41), (0, .ref 301), (1, .int t1), (2, .int t2)] [.int x53] _ _ _ _
          refine mp_a (a_iconst (v := 2) dX7_cuts_87 rfl) (mpp 88 rfl ?_)
          refine mp_Tb (t := 105) (j_icmp_ge dX7_cuts_88) (by decide) (fun c56 => ?_) (fun c56 => mpp 91 rfl ?_)
          · have c56 : x53.toInt ≥ 2 := ti_ge c56
            refine mp_a (a_iconst (v := 0) dX7_cuts_105 rfl) (mpp 106 rfl ?_)
            refine mp_a (a_istore (L' := [(6, .int 0), (5, .int z47), (4, .int z44), (3, .int x41), (0, .ref 301), (1, .int t1), (2, .int t2)]) dX7_cuts_106 (by decide) rfl) (mpp 108 rfl ?_)
            refine MEvP.less (L := [(0, .ref 301), (1, .int t1), (2, .int t2), (3, .int x41), (4, .int z44), (5, .int z47), (6, .int 0)]) rfl rfl ⟨rfl, rfl, rfl, rfl, rfl, rfl, rfl, trivial⟩ ?_
            have i57 : 0 ≤ t1.toInt ∧ t1.toInt ≤ 7 ∧ 0 ≤ t2.toInt ∧ t2.toInt ≤ 7 := by omega
            have i58 : z44.toInt = t2.toInt + 1 ∧ z47.toInt = (fv Po 302 (4 + 19 * t1.toInt.toNat)).toInt - (t2.toInt + 1) ∧ 2 ≤ z44.toInt ∧ 2 ≤ z47.toInt ∧ z44.toInt + z47.toInt ≤ 8 := by omega
            have i59 : t1.toInt + 1 ≤ (fv Po 302 0).toInt ∧ (fv Po 302 0).toInt ≤ 7 ∧ (fv Po 302 (5 + 19 * t1.toInt.toNat)).toInt ≠ 1 ∧ (fv Po 302 (3 + 19 * t1.toInt.toNat)).toInt = 0 ∧ t2.toInt < (fv Po 302 (4 + 19 * t1.toInt.toNat)).toInt - 1 := by omega
            have i60 : ROW Po Po 306 (fun j : Nat => fv Po 302 (6 + 19 * t1.toInt.toNat + (t2.toInt + 1).toNat + j)) (0 : Int).toNat := ROW.start rfl (fun _ => rfl)
            have i61 : ROW Po Po 307 (fun j : Nat => if (j : Int) + 2 + t2.toInt < (fv Po 302 (4 + 19 * t1.toInt.toNat)).toInt then fv Po 302 (14 + 19 * t1.toInt.toNat + (t2.toInt + 1).toNat + j) else 0) (0 : Int).toNat := ROW.start rfl (fun _ => rfl)
            have i62 : ∀ j : Nat, fv Po 302 j = fv Po 302 j := fun _ => rfl
            have i63 : (0 : Int) ≤ z47.toInt := by omega
            have i64 : 0 ≤ (0 : Int) := by omega
            exact c_M_cuts_l108    _ _ _ _ _ Po hT KW.refl hR i57 i58 i59 i60 i61 i62 i63 i64 rfl
          · have c56 : x53.toInt < 2 := ti_ge_n c56
            refine mp_a (a_aload_n dX7_cuts_91 rfl) (mpp 92 rfl ?_)
            refine mp_a (a_bipush (v := 6) dX7_cuts_92 rfl) (mpp 94 rfl ?_)
            refine mp_a (a_iload dX7_cuts_94 rfl) (mpp 96 rfl ?_)
            refine mp_a (a_iload dX7_cuts_96 rfl) (mpp 98 rfl ?_)
            refine mp_calls (i := 155) (q' := q_158) (As := [.int z44, .int z47]) (rest := [.int 6, .ref 301]) dX7_cuts_98 rfl qm_158 (by decide) rfl (Nat.le_of_ble_eq_true rfl) rfl ⟨rfl, rfl⟩ ⟨Nat.le_of_ble_eq_true rfl, Nat.le_of_ble_eq_true rfl⟩ (EvP.mono (by decide) (c_M_lesser hT )) (fun r65 P66 g67 => mpp 101 rfl ?_)
            obtain ⟨⟨x68, rfl, g69⟩, e70⟩ := g67
            have e70 := e70.symm
            subst e70
            have wx68 := ti_full x68
            replace g69 : (x68.toInt = z44.toInt ∧ z44.toInt ≤ z47.toInt) ∨ (x68.toInt = z47.toInt ∧ z47.toInt ≤ z44.toInt) := g69
            show MEvP _ none q_157 101 [(5, .int z47), (4, .int z44), (3, .int x41), (0, .ref 301), (1, .int t1), (2, .int t2)] [.int x68, .int 6, .ref 301] _ _ _ _
            refine mt_callv (i := 101) (q' := q_134) (As := [.int 6, .int x68]) (rest := []) hT dX7_cuts_101 rfl qm_134 (by decide) rfl rl_301 (by decide) rfl (Nat.le_of_ble_eq_true rfl) rfl ⟨rfl, rfl⟩ ⟨Nat.le_of_ble_eq_true rfl, Nat.le_of_ble_eq_true rfl⟩ (EvP.mono (by decide) (c_M_refuses hT )) (fun r71 P72 g73 => mpp 104 rfl ?_)
            obtain ⟨⟨x74, rfl, g75⟩, hT76, k77, R78⟩ := g73
            have k79 : KW [1093, 1094, 1152, 1408, 1472] Po P72 := KW.trans KW.refl k77 rfl
            have R81 := Rel.kw hR k77 rfl
            have wx74 := ti_full x74
            replace g75 : x74.toInt = -1003 := g75
            show MEvP _ none q_157 104 [(5, .int z47), (4, .int z44), (3, .int x41), (0, .ref 301), (1, .int t1), (2, .int t2)] [.int x74] _ _ _ _
            have e83 : (fv P72 302 0).toInt = (fv Po 302 0).toInt := congrArg Int32.toInt (R78 302 0 (by omega))
            have e84 : (fv P72 302 1).toInt = (fv Po 302 1).toInt := congrArg Int32.toInt (R78 302 1 (by omega))
            have e85 : (fv P72 302 2).toInt = (fv Po 302 2).toInt := congrArg Int32.toInt (R78 302 2 (by omega))
            have u82 : cutsM (sr Po) (sr P72) x74.toInt t1.toInt t2.toInt := (show (x74.toInt = -1001 ∧ ((t1.toInt < 0 ∨ (fv Po 302 (0)).toInt ≤ t1.toInt) ∨ ((0 ≤ t1.toInt ∧ t1.toInt + 1 ≤ (fv Po 302 (0)).toInt ∧ t1.toInt ≤ 7) ∧ (t2.toInt < 0 ∨ ((fv Po 302 (3 + 19 * t1.toInt.toNat)).toInt = 1 ∧ (fv Po 302 (4 + 19 * t1.toInt.toNat)).toInt ≤ t2.toInt) ∨ ((fv Po 302 (3 + 19 * t1.toInt.toNat)).toInt = 0 ∧ (fv Po 302 (4 + 19 * t1.toInt.toNat)).toInt - 1 ≤ t2.toInt)))) ∧ (∀ j : Nat, fv P72 302 j = fv Po 302 j)) ∨ (x74.toInt = -1003 ∧ (0 ≤ t1.toInt ∧ t1.toInt + 1 ≤ (fv Po 302 (0)).toInt ∧ t1.toInt ≤ 7) ∧ (0 ≤ t2.toInt ∧ t2.toInt ≤ 7 ∧ (((fv Po 302 (3 + 19 * t1.toInt.toNat)).toInt = 1 ∧ t2.toInt < (fv Po 302 (4 + 19 * t1.toInt.toNat)).toInt) ∨ ((fv Po 302 (3 + 19 * t1.toInt.toNat)).toInt = 0 ∧ t2.toInt < (fv Po 302 (4 + 19 * t1.toInt.toNat)).toInt - 1))) ∧ (8 ≤ (fv Po 302 (0)).toInt ∨ (fv Po 302 (5 + 19 * t1.toInt.toNat)).toInt = 1 ∨ (fv Po 302 (3 + 19 * t1.toInt.toNat)).toInt = 1 ∨ t2.toInt + 1 < 2 ∨ (fv Po 302 (4 + 19 * t1.toInt.toNat)).toInt - (t2.toInt + 1) < 2) ∧ (∀ j : Nat, fv P72 302 j = fv Po 302 j)) ∨ ((0 ≤ t1.toInt ∧ t1.toInt + 1 ≤ (fv Po 302 (0)).toInt ∧ t1.toInt ≤ 7) ∧ (0 ≤ t2.toInt ∧ t2.toInt ≤ 7 ∧ (((fv Po 302 (3 + 19 * t1.toInt.toNat)).toInt = 1 ∧ t2.toInt < (fv Po 302 (4 + 19 * t1.toInt.toNat)).toInt) ∨ ((fv Po 302 (3 + 19 * t1.toInt.toNat)).toInt = 0 ∧ t2.toInt < (fv Po 302 (4 + 19 * t1.toInt.toNat)).toInt - 1))) ∧ ((fv Po 302 (0)).toInt ≤ 7 ∧ ¬ (fv Po 302 (5 + 19 * t1.toInt.toNat)).toInt = 1 ∧ (fv Po 302 (3 + 19 * t1.toInt.toNat)).toInt = 0 ∧ 2 ≤ t2.toInt + 1 ∧ 2 ≤ (fv Po 302 (4 + 19 * t1.toInt.toNat)).toInt - (t2.toInt + 1)) ∧ x74.toInt = (fv Po 302 (0)).toInt ∧ (fv P72 302 (0)).toInt = (fv Po 302 (0)).toInt + 1 ∧ (fv P72 302 (4 + 19 * t1.toInt.toNat)).toInt = t2.toInt + 1 ∧ (fv P72 302 (3 + 19 * ((fv Po 302 (0)).toInt).toNat)).toInt = 0 ∧ (fv P72 302 (4 + 19 * ((fv Po 302 (0)).toInt).toNat)).toInt = (fv Po 302 (4 + 19 * t1.toInt.toNat)).toInt - (t2.toInt + 1) ∧ (fv P72 302 (5 + 19 * ((fv Po 302 (0)).toInt).toNat)).toInt = 0 ∧ (∀ k : Nat, k < 8 → (k : Int) < (fv Po 302 (4 + 19 * t1.toInt.toNat)).toInt - (t2.toInt + 1) → fv P72 302 (6 + 19 * ((fv Po 302 (0)).toInt).toNat + k) = fv Po 302 (6 + 19 * t1.toInt.toNat + (t2.toInt + 1).toNat + k)) ∧ (∀ k : Nat, k < 8 → (k : Int) + 1 < (fv Po 302 (4 + 19 * t1.toInt.toNat)).toInt - (t2.toInt + 1) → fv P72 302 (14 + 19 * ((fv Po 302 (0)).toInt).toNat + k) = fv Po 302 (14 + 19 * t1.toInt.toNat + (t2.toInt + 1).toNat + k)) ∧ (∀ j : Nat, ¬ j = 0 → ¬ j = 4 + 19 * t1.toInt.toNat → (j < 3 + 19 * ((fv Po 302 (0)).toInt).toNat ∨ 22 + 19 * ((fv Po 302 (0)).toInt).toNat ≤ j) → fv P72 302 j = fv Po 302 j)) from Or.inr (Or.inl (⟨by omega, by omega, by omega, by omega, fun j => by rw [R78 302 j (by omega)]⟩)))
            exact mp_iret ⟨⟨_, rfl, u82⟩, hT76, k79, R81⟩ dX7_cuts_104 (Or.inl rfl)
        · have c33 : x30.toInt ≠ 0 := ti_eq_n c33
          refine mp_a (a_aload_n dX7_cuts_55 rfl) (mpp 56 rfl ?_)
          refine mp_a (a_iconst (v := 3) dX7_cuts_56 rfl) (mpp 57 rfl ?_)
          refine mp_a (a_iload_n dX7_cuts_57 rfl) (mpp 58 rfl ?_)
          refine mt_callv (i := 101) (q' := q_134) (As := [.int 3, .int t1]) (rest := []) hT dX7_cuts_58 rfl qm_134 (by decide) rfl rl_301 (by decide) rfl (Nat.le_of_ble_eq_true rfl) rfl ⟨rfl, rfl⟩ ⟨Nat.le_of_ble_eq_true rfl, Nat.le_of_ble_eq_true rfl⟩ (EvP.mono (by decide) (c_M_refuses hT )) (fun r86 P87 g88 => mpp 61 rfl ?_)
          obtain ⟨⟨x89, rfl, g90⟩, hT91, k92, R93⟩ := g88
          have k94 : KW [1093, 1094, 1152, 1408, 1472] Po P87 := KW.trans KW.refl k92 rfl
          have R96 := Rel.kw hR k92 rfl
          have wx89 := ti_full x89
          replace g90 : x89.toInt = -1003 := g90
          show MEvP _ none q_157 61 [(0, .ref 301), (1, .int t1), (2, .int t2)] [.int x89] _ _ _ _
          have e98 : (fv P87 302 0).toInt = (fv Po 302 0).toInt := congrArg Int32.toInt (R93 302 0 (by omega))
          have e99 : (fv P87 302 1).toInt = (fv Po 302 1).toInt := congrArg Int32.toInt (R93 302 1 (by omega))
          have e100 : (fv P87 302 2).toInt = (fv Po 302 2).toInt := congrArg Int32.toInt (R93 302 2 (by omega))
          have u97 : cutsM (sr Po) (sr P87) x89.toInt t1.toInt t2.toInt := (show (x89.toInt = -1001 ∧ ((t1.toInt < 0 ∨ (fv Po 302 (0)).toInt ≤ t1.toInt) ∨ ((0 ≤ t1.toInt ∧ t1.toInt + 1 ≤ (fv Po 302 (0)).toInt ∧ t1.toInt ≤ 7) ∧ (t2.toInt < 0 ∨ ((fv Po 302 (3 + 19 * t1.toInt.toNat)).toInt = 1 ∧ (fv Po 302 (4 + 19 * t1.toInt.toNat)).toInt ≤ t2.toInt) ∨ ((fv Po 302 (3 + 19 * t1.toInt.toNat)).toInt = 0 ∧ (fv Po 302 (4 + 19 * t1.toInt.toNat)).toInt - 1 ≤ t2.toInt)))) ∧ (∀ j : Nat, fv P87 302 j = fv Po 302 j)) ∨ (x89.toInt = -1003 ∧ (0 ≤ t1.toInt ∧ t1.toInt + 1 ≤ (fv Po 302 (0)).toInt ∧ t1.toInt ≤ 7) ∧ (0 ≤ t2.toInt ∧ t2.toInt ≤ 7 ∧ (((fv Po 302 (3 + 19 * t1.toInt.toNat)).toInt = 1 ∧ t2.toInt < (fv Po 302 (4 + 19 * t1.toInt.toNat)).toInt) ∨ ((fv Po 302 (3 + 19 * t1.toInt.toNat)).toInt = 0 ∧ t2.toInt < (fv Po 302 (4 + 19 * t1.toInt.toNat)).toInt - 1))) ∧ (8 ≤ (fv Po 302 (0)).toInt ∨ (fv Po 302 (5 + 19 * t1.toInt.toNat)).toInt = 1 ∨ (fv Po 302 (3 + 19 * t1.toInt.toNat)).toInt = 1 ∨ t2.toInt + 1 < 2 ∨ (fv Po 302 (4 + 19 * t1.toInt.toNat)).toInt - (t2.toInt + 1) < 2) ∧ (∀ j : Nat, fv P87 302 j = fv Po 302 j)) ∨ ((0 ≤ t1.toInt ∧ t1.toInt + 1 ≤ (fv Po 302 (0)).toInt ∧ t1.toInt ≤ 7) ∧ (0 ≤ t2.toInt ∧ t2.toInt ≤ 7 ∧ (((fv Po 302 (3 + 19 * t1.toInt.toNat)).toInt = 1 ∧ t2.toInt < (fv Po 302 (4 + 19 * t1.toInt.toNat)).toInt) ∨ ((fv Po 302 (3 + 19 * t1.toInt.toNat)).toInt = 0 ∧ t2.toInt < (fv Po 302 (4 + 19 * t1.toInt.toNat)).toInt - 1))) ∧ ((fv Po 302 (0)).toInt ≤ 7 ∧ ¬ (fv Po 302 (5 + 19 * t1.toInt.toNat)).toInt = 1 ∧ (fv Po 302 (3 + 19 * t1.toInt.toNat)).toInt = 0 ∧ 2 ≤ t2.toInt + 1 ∧ 2 ≤ (fv Po 302 (4 + 19 * t1.toInt.toNat)).toInt - (t2.toInt + 1)) ∧ x89.toInt = (fv Po 302 (0)).toInt ∧ (fv P87 302 (0)).toInt = (fv Po 302 (0)).toInt + 1 ∧ (fv P87 302 (4 + 19 * t1.toInt.toNat)).toInt = t2.toInt + 1 ∧ (fv P87 302 (3 + 19 * ((fv Po 302 (0)).toInt).toNat)).toInt = 0 ∧ (fv P87 302 (4 + 19 * ((fv Po 302 (0)).toInt).toNat)).toInt = (fv Po 302 (4 + 19 * t1.toInt.toNat)).toInt - (t2.toInt + 1) ∧ (fv P87 302 (5 + 19 * ((fv Po 302 (0)).toInt).toNat)).toInt = 0 ∧ (∀ k : Nat, k < 8 → (k : Int) < (fv Po 302 (4 + 19 * t1.toInt.toNat)).toInt - (t2.toInt + 1) → fv P87 302 (6 + 19 * ((fv Po 302 (0)).toInt).toNat + k) = fv Po 302 (6 + 19 * t1.toInt.toNat + (t2.toInt + 1).toNat + k)) ∧ (∀ k : Nat, k < 8 → (k : Int) + 1 < (fv Po 302 (4 + 19 * t1.toInt.toNat)).toInt - (t2.toInt + 1) → fv P87 302 (14 + 19 * ((fv Po 302 (0)).toInt).toNat + k) = fv Po 302 (14 + 19 * t1.toInt.toNat + (t2.toInt + 1).toNat + k)) ∧ (∀ j : Nat, ¬ j = 0 → ¬ j = 4 + 19 * t1.toInt.toNat → (j < 3 + 19 * ((fv Po 302 (0)).toInt).toNat ∨ 22 + 19 * ((fv Po 302 (0)).toInt).toNat ≤ j) → fv P87 302 j = fv Po 302 j)) from Or.inr (Or.inl (⟨by omega, by omega, by omega, by omega, fun j => by rw [R93 302 j (by omega)]⟩)))
          exact mp_iret ⟨⟨_, rfl, u97⟩, hT91, k94, R96⟩ dX7_cuts_61 (Or.inl rfl)
      · have c24 : x20.toInt ≠ 0 := ti_eq_n c24
        refine mp_a (a_aload_n dX7_cuts_40 rfl) (mpp 41 rfl ?_)
        refine mp_a (a_iconst (v := 2) dX7_cuts_41 rfl) (mpp 42 rfl ?_)
        refine mp_a (a_iload_n dX7_cuts_42 rfl) (mpp 43 rfl ?_)
        refine mt_callv (i := 101) (q' := q_134) (As := [.int 2, .int t1]) (rest := []) hT dX7_cuts_43 rfl qm_134 (by decide) rfl rl_301 (by decide) rfl (Nat.le_of_ble_eq_true rfl) rfl ⟨rfl, rfl⟩ ⟨Nat.le_of_ble_eq_true rfl, Nat.le_of_ble_eq_true rfl⟩ (EvP.mono (by decide) (c_M_refuses hT )) (fun r101 P102 g103 => mpp 46 rfl ?_)
        obtain ⟨⟨x104, rfl, g105⟩, hT106, k107, R108⟩ := g103
        have k109 : KW [1093, 1094, 1152, 1408, 1472] Po P102 := KW.trans KW.refl k107 rfl
        have R111 := Rel.kw hR k107 rfl
        have wx104 := ti_full x104
        replace g105 : x104.toInt = -1003 := g105
        show MEvP _ none q_157 46 [(0, .ref 301), (1, .int t1), (2, .int t2)] [.int x104] _ _ _ _
        have e113 : (fv P102 302 0).toInt = (fv Po 302 0).toInt := congrArg Int32.toInt (R108 302 0 (by omega))
        have e114 : (fv P102 302 1).toInt = (fv Po 302 1).toInt := congrArg Int32.toInt (R108 302 1 (by omega))
        have e115 : (fv P102 302 2).toInt = (fv Po 302 2).toInt := congrArg Int32.toInt (R108 302 2 (by omega))
        have u112 : cutsM (sr Po) (sr P102) x104.toInt t1.toInt t2.toInt := (show (x104.toInt = -1001 ∧ ((t1.toInt < 0 ∨ (fv Po 302 (0)).toInt ≤ t1.toInt) ∨ ((0 ≤ t1.toInt ∧ t1.toInt + 1 ≤ (fv Po 302 (0)).toInt ∧ t1.toInt ≤ 7) ∧ (t2.toInt < 0 ∨ ((fv Po 302 (3 + 19 * t1.toInt.toNat)).toInt = 1 ∧ (fv Po 302 (4 + 19 * t1.toInt.toNat)).toInt ≤ t2.toInt) ∨ ((fv Po 302 (3 + 19 * t1.toInt.toNat)).toInt = 0 ∧ (fv Po 302 (4 + 19 * t1.toInt.toNat)).toInt - 1 ≤ t2.toInt)))) ∧ (∀ j : Nat, fv P102 302 j = fv Po 302 j)) ∨ (x104.toInt = -1003 ∧ (0 ≤ t1.toInt ∧ t1.toInt + 1 ≤ (fv Po 302 (0)).toInt ∧ t1.toInt ≤ 7) ∧ (0 ≤ t2.toInt ∧ t2.toInt ≤ 7 ∧ (((fv Po 302 (3 + 19 * t1.toInt.toNat)).toInt = 1 ∧ t2.toInt < (fv Po 302 (4 + 19 * t1.toInt.toNat)).toInt) ∨ ((fv Po 302 (3 + 19 * t1.toInt.toNat)).toInt = 0 ∧ t2.toInt < (fv Po 302 (4 + 19 * t1.toInt.toNat)).toInt - 1))) ∧ (8 ≤ (fv Po 302 (0)).toInt ∨ (fv Po 302 (5 + 19 * t1.toInt.toNat)).toInt = 1 ∨ (fv Po 302 (3 + 19 * t1.toInt.toNat)).toInt = 1 ∨ t2.toInt + 1 < 2 ∨ (fv Po 302 (4 + 19 * t1.toInt.toNat)).toInt - (t2.toInt + 1) < 2) ∧ (∀ j : Nat, fv P102 302 j = fv Po 302 j)) ∨ ((0 ≤ t1.toInt ∧ t1.toInt + 1 ≤ (fv Po 302 (0)).toInt ∧ t1.toInt ≤ 7) ∧ (0 ≤ t2.toInt ∧ t2.toInt ≤ 7 ∧ (((fv Po 302 (3 + 19 * t1.toInt.toNat)).toInt = 1 ∧ t2.toInt < (fv Po 302 (4 + 19 * t1.toInt.toNat)).toInt) ∨ ((fv Po 302 (3 + 19 * t1.toInt.toNat)).toInt = 0 ∧ t2.toInt < (fv Po 302 (4 + 19 * t1.toInt.toNat)).toInt - 1))) ∧ ((fv Po 302 (0)).toInt ≤ 7 ∧ ¬ (fv Po 302 (5 + 19 * t1.toInt.toNat)).toInt = 1 ∧ (fv Po 302 (3 + 19 * t1.toInt.toNat)).toInt = 0 ∧ 2 ≤ t2.toInt + 1 ∧ 2 ≤ (fv Po 302 (4 + 19 * t1.toInt.toNat)).toInt - (t2.toInt + 1)) ∧ x104.toInt = (fv Po 302 (0)).toInt ∧ (fv P102 302 (0)).toInt = (fv Po 302 (0)).toInt + 1 ∧ (fv P102 302 (4 + 19 * t1.toInt.toNat)).toInt = t2.toInt + 1 ∧ (fv P102 302 (3 + 19 * ((fv Po 302 (0)).toInt).toNat)).toInt = 0 ∧ (fv P102 302 (4 + 19 * ((fv Po 302 (0)).toInt).toNat)).toInt = (fv Po 302 (4 + 19 * t1.toInt.toNat)).toInt - (t2.toInt + 1) ∧ (fv P102 302 (5 + 19 * ((fv Po 302 (0)).toInt).toNat)).toInt = 0 ∧ (∀ k : Nat, k < 8 → (k : Int) < (fv Po 302 (4 + 19 * t1.toInt.toNat)).toInt - (t2.toInt + 1) → fv P102 302 (6 + 19 * ((fv Po 302 (0)).toInt).toNat + k) = fv Po 302 (6 + 19 * t1.toInt.toNat + (t2.toInt + 1).toNat + k)) ∧ (∀ k : Nat, k < 8 → (k : Int) + 1 < (fv Po 302 (4 + 19 * t1.toInt.toNat)).toInt - (t2.toInt + 1) → fv P102 302 (14 + 19 * ((fv Po 302 (0)).toInt).toNat + k) = fv Po 302 (14 + 19 * t1.toInt.toNat + (t2.toInt + 1).toNat + k)) ∧ (∀ j : Nat, ¬ j = 0 → ¬ j = 4 + 19 * t1.toInt.toNat → (j < 3 + 19 * ((fv Po 302 (0)).toInt).toNat ∨ 22 + 19 * ((fv Po 302 (0)).toInt).toNat ≤ j) → fv P102 302 j = fv Po 302 j)) from Or.inr (Or.inl (⟨by omega, by omega, by omega, by omega, fun j => by rw [R108 302 j (by omega)]⟩)))
        exact mp_iret ⟨⟨_, rfl, u112⟩, hT106, k109, R111⟩ dX7_cuts_46 (Or.inl rfl)
    · have c14 : (fv Po 302 0).toInt = 8 := ti_ne_n c14
      refine mp_a (a_aload_n dX7_cuts_24 rfl) (mpp 25 rfl ?_)
      refine mp_a (a_iconst (v := 1) dX7_cuts_25 rfl) (mpp 26 rfl ?_)
      refine mp_a (a_bipush (v := 8) dX7_cuts_26 rfl) (mpp 28 rfl ?_)
      refine mt_callv (i := 101) (q' := q_134) (As := [.int 1, .int 8]) (rest := []) hT dX7_cuts_28 rfl qm_134 (by decide) rfl rl_301 (by decide) rfl (Nat.le_of_ble_eq_true rfl) rfl ⟨rfl, rfl⟩ ⟨Nat.le_of_ble_eq_true rfl, Nat.le_of_ble_eq_true rfl⟩ (EvP.mono (by decide) (c_M_refuses hT )) (fun r116 P117 g118 => mpp 31 rfl ?_)
      obtain ⟨⟨x119, rfl, g120⟩, hT121, k122, R123⟩ := g118
      have k124 : KW [1093, 1094, 1152, 1408, 1472] Po P117 := KW.trans KW.refl k122 rfl
      have R126 := Rel.kw hR k122 rfl
      have wx119 := ti_full x119
      replace g120 : x119.toInt = -1003 := g120
      show MEvP _ none q_157 31 [(0, .ref 301), (1, .int t1), (2, .int t2)] [.int x119] _ _ _ _
      have e128 : (fv P117 302 0).toInt = (fv Po 302 0).toInt := congrArg Int32.toInt (R123 302 0 (by omega))
      have e129 : (fv P117 302 1).toInt = (fv Po 302 1).toInt := congrArg Int32.toInt (R123 302 1 (by omega))
      have e130 : (fv P117 302 2).toInt = (fv Po 302 2).toInt := congrArg Int32.toInt (R123 302 2 (by omega))
      have u127 : cutsM (sr Po) (sr P117) x119.toInt t1.toInt t2.toInt := (show (x119.toInt = -1001 ∧ ((t1.toInt < 0 ∨ (fv Po 302 (0)).toInt ≤ t1.toInt) ∨ ((0 ≤ t1.toInt ∧ t1.toInt + 1 ≤ (fv Po 302 (0)).toInt ∧ t1.toInt ≤ 7) ∧ (t2.toInt < 0 ∨ ((fv Po 302 (3 + 19 * t1.toInt.toNat)).toInt = 1 ∧ (fv Po 302 (4 + 19 * t1.toInt.toNat)).toInt ≤ t2.toInt) ∨ ((fv Po 302 (3 + 19 * t1.toInt.toNat)).toInt = 0 ∧ (fv Po 302 (4 + 19 * t1.toInt.toNat)).toInt - 1 ≤ t2.toInt)))) ∧ (∀ j : Nat, fv P117 302 j = fv Po 302 j)) ∨ (x119.toInt = -1003 ∧ (0 ≤ t1.toInt ∧ t1.toInt + 1 ≤ (fv Po 302 (0)).toInt ∧ t1.toInt ≤ 7) ∧ (0 ≤ t2.toInt ∧ t2.toInt ≤ 7 ∧ (((fv Po 302 (3 + 19 * t1.toInt.toNat)).toInt = 1 ∧ t2.toInt < (fv Po 302 (4 + 19 * t1.toInt.toNat)).toInt) ∨ ((fv Po 302 (3 + 19 * t1.toInt.toNat)).toInt = 0 ∧ t2.toInt < (fv Po 302 (4 + 19 * t1.toInt.toNat)).toInt - 1))) ∧ (8 ≤ (fv Po 302 (0)).toInt ∨ (fv Po 302 (5 + 19 * t1.toInt.toNat)).toInt = 1 ∨ (fv Po 302 (3 + 19 * t1.toInt.toNat)).toInt = 1 ∨ t2.toInt + 1 < 2 ∨ (fv Po 302 (4 + 19 * t1.toInt.toNat)).toInt - (t2.toInt + 1) < 2) ∧ (∀ j : Nat, fv P117 302 j = fv Po 302 j)) ∨ ((0 ≤ t1.toInt ∧ t1.toInt + 1 ≤ (fv Po 302 (0)).toInt ∧ t1.toInt ≤ 7) ∧ (0 ≤ t2.toInt ∧ t2.toInt ≤ 7 ∧ (((fv Po 302 (3 + 19 * t1.toInt.toNat)).toInt = 1 ∧ t2.toInt < (fv Po 302 (4 + 19 * t1.toInt.toNat)).toInt) ∨ ((fv Po 302 (3 + 19 * t1.toInt.toNat)).toInt = 0 ∧ t2.toInt < (fv Po 302 (4 + 19 * t1.toInt.toNat)).toInt - 1))) ∧ ((fv Po 302 (0)).toInt ≤ 7 ∧ ¬ (fv Po 302 (5 + 19 * t1.toInt.toNat)).toInt = 1 ∧ (fv Po 302 (3 + 19 * t1.toInt.toNat)).toInt = 0 ∧ 2 ≤ t2.toInt + 1 ∧ 2 ≤ (fv Po 302 (4 + 19 * t1.toInt.toNat)).toInt - (t2.toInt + 1)) ∧ x119.toInt = (fv Po 302 (0)).toInt ∧ (fv P117 302 (0)).toInt = (fv Po 302 (0)).toInt + 1 ∧ (fv P117 302 (4 + 19 * t1.toInt.toNat)).toInt = t2.toInt + 1 ∧ (fv P117 302 (3 + 19 * ((fv Po 302 (0)).toInt).toNat)).toInt = 0 ∧ (fv P117 302 (4 + 19 * ((fv Po 302 (0)).toInt).toNat)).toInt = (fv Po 302 (4 + 19 * t1.toInt.toNat)).toInt - (t2.toInt + 1) ∧ (fv P117 302 (5 + 19 * ((fv Po 302 (0)).toInt).toNat)).toInt = 0 ∧ (∀ k : Nat, k < 8 → (k : Int) < (fv Po 302 (4 + 19 * t1.toInt.toNat)).toInt - (t2.toInt + 1) → fv P117 302 (6 + 19 * ((fv Po 302 (0)).toInt).toNat + k) = fv Po 302 (6 + 19 * t1.toInt.toNat + (t2.toInt + 1).toNat + k)) ∧ (∀ k : Nat, k < 8 → (k : Int) + 1 < (fv Po 302 (4 + 19 * t1.toInt.toNat)).toInt - (t2.toInt + 1) → fv P117 302 (14 + 19 * ((fv Po 302 (0)).toInt).toNat + k) = fv Po 302 (14 + 19 * t1.toInt.toNat + (t2.toInt + 1).toNat + k)) ∧ (∀ j : Nat, ¬ j = 0 → ¬ j = 4 + 19 * t1.toInt.toNat → (j < 3 + 19 * ((fv Po 302 (0)).toInt).toNat ∨ 22 + 19 * ((fv Po 302 (0)).toInt).toNat ≤ j) → fv P117 302 j = fv Po 302 j)) from Or.inr (Or.inl (⟨by omega, by omega, by omega, by omega, fun j => by rw [R123 302 j (by omega)]⟩)))
      exact mp_iret ⟨⟨_, rfl, u127⟩, hT121, k124, R126⟩ dX7_cuts_31 (Or.inl rfl)
  · have c10 : x4.toInt = 0 := ti_ne_n c10
    refine mp_a (a_sipush (v := -1001) dX7_cuts_9 rfl) (mpp 12 rfl ?_)
    have u131 : cutsM (sr Po) (sr Po) (-1001 : Int) t1.toInt t2.toInt := (show ((-1001 : Int) = -1001 ∧ ((t1.toInt < 0 ∨ (fv Po 302 (0)).toInt ≤ t1.toInt) ∨ ((0 ≤ t1.toInt ∧ t1.toInt + 1 ≤ (fv Po 302 (0)).toInt ∧ t1.toInt ≤ 7) ∧ (t2.toInt < 0 ∨ ((fv Po 302 (3 + 19 * t1.toInt.toNat)).toInt = 1 ∧ (fv Po 302 (4 + 19 * t1.toInt.toNat)).toInt ≤ t2.toInt) ∨ ((fv Po 302 (3 + 19 * t1.toInt.toNat)).toInt = 0 ∧ (fv Po 302 (4 + 19 * t1.toInt.toNat)).toInt - 1 ≤ t2.toInt)))) ∧ (∀ j : Nat, fv Po 302 j = fv Po 302 j)) ∨ ((-1001 : Int) = -1003 ∧ (0 ≤ t1.toInt ∧ t1.toInt + 1 ≤ (fv Po 302 (0)).toInt ∧ t1.toInt ≤ 7) ∧ (0 ≤ t2.toInt ∧ t2.toInt ≤ 7 ∧ (((fv Po 302 (3 + 19 * t1.toInt.toNat)).toInt = 1 ∧ t2.toInt < (fv Po 302 (4 + 19 * t1.toInt.toNat)).toInt) ∨ ((fv Po 302 (3 + 19 * t1.toInt.toNat)).toInt = 0 ∧ t2.toInt < (fv Po 302 (4 + 19 * t1.toInt.toNat)).toInt - 1))) ∧ (8 ≤ (fv Po 302 (0)).toInt ∨ (fv Po 302 (5 + 19 * t1.toInt.toNat)).toInt = 1 ∨ (fv Po 302 (3 + 19 * t1.toInt.toNat)).toInt = 1 ∨ t2.toInt + 1 < 2 ∨ (fv Po 302 (4 + 19 * t1.toInt.toNat)).toInt - (t2.toInt + 1) < 2) ∧ (∀ j : Nat, fv Po 302 j = fv Po 302 j)) ∨ ((0 ≤ t1.toInt ∧ t1.toInt + 1 ≤ (fv Po 302 (0)).toInt ∧ t1.toInt ≤ 7) ∧ (0 ≤ t2.toInt ∧ t2.toInt ≤ 7 ∧ (((fv Po 302 (3 + 19 * t1.toInt.toNat)).toInt = 1 ∧ t2.toInt < (fv Po 302 (4 + 19 * t1.toInt.toNat)).toInt) ∨ ((fv Po 302 (3 + 19 * t1.toInt.toNat)).toInt = 0 ∧ t2.toInt < (fv Po 302 (4 + 19 * t1.toInt.toNat)).toInt - 1))) ∧ ((fv Po 302 (0)).toInt ≤ 7 ∧ ¬ (fv Po 302 (5 + 19 * t1.toInt.toNat)).toInt = 1 ∧ (fv Po 302 (3 + 19 * t1.toInt.toNat)).toInt = 0 ∧ 2 ≤ t2.toInt + 1 ∧ 2 ≤ (fv Po 302 (4 + 19 * t1.toInt.toNat)).toInt - (t2.toInt + 1)) ∧ (-1001 : Int) = (fv Po 302 (0)).toInt ∧ (fv Po 302 (0)).toInt = (fv Po 302 (0)).toInt + 1 ∧ (fv Po 302 (4 + 19 * t1.toInt.toNat)).toInt = t2.toInt + 1 ∧ (fv Po 302 (3 + 19 * ((fv Po 302 (0)).toInt).toNat)).toInt = 0 ∧ (fv Po 302 (4 + 19 * ((fv Po 302 (0)).toInt).toNat)).toInt = (fv Po 302 (4 + 19 * t1.toInt.toNat)).toInt - (t2.toInt + 1) ∧ (fv Po 302 (5 + 19 * ((fv Po 302 (0)).toInt).toNat)).toInt = 0 ∧ (∀ k : Nat, k < 8 → (k : Int) < (fv Po 302 (4 + 19 * t1.toInt.toNat)).toInt - (t2.toInt + 1) → fv Po 302 (6 + 19 * ((fv Po 302 (0)).toInt).toNat + k) = fv Po 302 (6 + 19 * t1.toInt.toNat + (t2.toInt + 1).toNat + k)) ∧ (∀ k : Nat, k < 8 → (k : Int) + 1 < (fv Po 302 (4 + 19 * t1.toInt.toNat)).toInt - (t2.toInt + 1) → fv Po 302 (14 + 19 * ((fv Po 302 (0)).toInt).toNat + k) = fv Po 302 (14 + 19 * t1.toInt.toNat + (t2.toInt + 1).toNat + k)) ∧ (∀ j : Nat, ¬ j = 0 → ¬ j = 4 + 19 * t1.toInt.toNat → (j < 3 + 19 * ((fv Po 302 (0)).toInt).toNat ∨ 22 + 19 * ((fv Po 302 (0)).toInt).toNat ≤ j) → fv Po 302 j = fv Po 302 j)) from Or.inl (⟨by omega, by omega, fun j => rfl⟩))
    exact mp_iret ⟨⟨_, rfl, u131⟩, hT, KW.refl, hR⟩ dX7_cuts_12 (Or.inl rfl)

set_option maxHeartbeats 4000000 in
theorem c_M_cut {Po : mP} {t1 : Int32} {t2 : Int32} (hT : Typ Po) (hR : Rel Po)  : EvP 7 156 [.ref 301, .int t1, .int t2] Po (fun r P' => (∃ x : Int32, r = some (.int x) ∧ (TOPM Po P' x.toInt ∧ cutsM (sr Po) (sr P') x.toInt t1.toInt t2.toInt)) ∧ Typ P' ∧ KW [1092, 1093, 1094, 1095, 1152, 1216, 1344, 1408, 1472] Po P' ∧ Rel P') := by
  refine EvP.of qm_156 (Nat.le_of_ble_eq_true rfl) rfl ?_
  show MEvP _ none q_156 0 [(0, .ref 301), (1, .int t1), (2, .int t2)] [] _ 0 0 _
  have w_t1 := ti_full t1
  have w_t2 := ti_full t2
  refine mp_a (a_aload_n dX7_cut_0 rfl) (mpp 1 rfl ?_)
  refine mt_callv (i := 117) (q' := q_124) (As := []) (rest := []) hT dX7_cut_1 rfl qm_124 (by decide) rfl rl_301 (by decide) rfl (Nat.le_of_ble_eq_true rfl) rfl ⟨rfl, rfl⟩ ⟨Nat.le_of_ble_eq_true rfl, Nat.le_of_ble_eq_true rfl⟩ (EvP.mono (by decide) (c_M_keeps hT hR )) (fun r1 P2 g3 => mpp 4 rfl ?_)
  obtain ⟨⟨rfl, g5⟩, hT6, k7, R8r, R8⟩ := g3
  have k9 : KW [1092, 1093, 1094, 1095, 1152, 1216, 1344, 1408, 1472] Po P2 := KW.trans KW.refl k7 rfl
  show MEvP _ none q_156 4 [(0, .ref 301), (1, .int t1), (2, .int t2)] [] _ _ _ _
  refine mp_a (a_aload_n dX7_cut_4 rfl) (mpp 5 rfl ?_)
  refine mp_a (a_aload_n dX7_cut_5 rfl) (mpp 6 rfl ?_)
  refine mp_a (a_iload_n dX7_cut_6 rfl) (mpp 7 rfl ?_)
  refine mp_a (a_iload_n dX7_cut_7 rfl) (mpp 8 rfl ?_)
  refine mt_callv (i := 158) (q' := q_157) (As := [.int t1, .int t2]) (rest := [.ref 301]) hT6 dX7_cut_8 rfl qm_157 (by decide) rfl rl_301 (by decide) rfl (Nat.le_of_ble_eq_true rfl) rfl ⟨rfl, rfl⟩ ⟨Nat.le_of_ble_eq_true rfl, Nat.le_of_ble_eq_true rfl⟩ (EvP.mono (by decide) (c_M_cuts hT6 R8r )) (fun r11 P12 g13 => mpp 11 rfl ?_)
  obtain ⟨⟨x14, rfl, g15⟩, hT16, k17, R18⟩ := g13
  have k19 : KW [1092, 1093, 1094, 1095, 1152, 1216, 1344, 1408, 1472] Po P12 := KW.trans k9 k17 rfl
  have wx14 := ti_full x14
  replace g15 : cutsM (sr P2) (sr P12) x14.toInt t1.toInt t2.toInt := g15
  show MEvP _ none q_156 11 [(0, .ref 301), (1, .int t1), (2, .int t2)] [.int x14, .ref 301] _ _ _ _
  refine mt_callv (i := 124) (q' := q_139) (As := [.int x14]) (rest := []) hT16 dX7_cut_11 rfl qm_139 (by decide) rfl rl_301 (by decide) rfl (Nat.le_of_ble_eq_true rfl) rfl ⟨rfl, rfl⟩ ⟨Nat.le_of_ble_eq_true rfl, Nat.le_of_ble_eq_true rfl⟩ (EvP.mono (by decide) (c_M_ends hT16 R18 )) (fun r21 P22 g23 => mpp 14 rfl ?_)
  obtain ⟨⟨x24, rfl, g25⟩, hT26, k27, R28r, R28⟩ := g23
  have k29 : KW [1092, 1093, 1094, 1095, 1152, 1216, 1344, 1408, 1472] Po P22 := KW.trans k19 k27 rfl
  have wx24 := ti_full x24
  replace g25 : x24.toInt = x14.toInt := g25
  show MEvP _ none q_156 14 [(0, .ref 301), (1, .int t1), (2, .int t2)] [.int x24] _ _ _ _
  have w32_a : sr P2 = sr Po := funext (fun j => R8.2 302 j (by omega))
  have w32_b : sr P12 = sr P22 := funext (fun j => (R28.2.2.1 302 j (by omega) (by omega) (by omega)).symm)
  have w32_g := g15
  rw [w32_a, w32_b] at w32_g
  have w32_x : x24.toInt = x14.toInt := by omega
  rw [← w32_x] at w32_g
  have w32_t : TOPM Po P22 x24.toInt := TOPM.mk R8.1 (fun j => KW.at k17 j rl_303 rfl) (fun j => KW.at k17 j rl_304 rfl) (fun j => KW.at k17 j rl_305 rfl) (fun j => KW.at k17 j rl_314 rfl) (KW.at k17 8 rl_301 rfl) (KW.at k17 4 rl_301 rfl) (KW.at k17 23 rl_301 rfl) (by rw [w32_x]; exact R28.1) (by rw [w32_x]; exact R28.2.1) R28.2.2.1
  have u31 : TOPM Po P22 x24.toInt ∧ cutsM (sr Po) (sr P22) x24.toInt t1.toInt t2.toInt := ⟨w32_t, w32_g⟩
  exact mp_iret ⟨⟨_, rfl, u31⟩, hT26, k29, R28r⟩ dX7_cut_14 (Or.inl rfl)

set_option maxHeartbeats 4000000 in
theorem c_M_lays_l21 {Po : mP} {t1 : Int32} (hp0 : 0 ≤ t1.toInt) (hp1 : t1.toInt ≤ 7)  : ∀ (n : Nat) (v2 : Int32), ∀ (P : mP), Typ P → KW [1101, 1102, 1536, 1600] Po P → ((fv P 301 14).toInt = (fv Po 302 (3 + 19 * t1.toInt.toNat)).toInt ∧ (fv P 301 13).toInt = (fv Po 302 (4 + 19 * t1.toInt.toNat)).toInt) → (ROW Po P 308 (fun j : Nat => fv Po 302 (6 + 19 * t1.toInt.toNat + j)) v2.toInt.toNat) → (ROW Po P 309 (fun j : Nat => fv Po 302 (14 + 19 * t1.toInt.toNat + j)) v2.toInt.toNat) → (∀ j : Nat, fv P 302 j = fv Po 302 j) → (0 ≤ t1.toInt ∧ t1.toInt ≤ 7) → (0 ≤ v2.toInt) → (2147483647 - v2.toInt).toNat = n → MEvP 3 none q_164 21 [(0, .ref 301), (1, .int t1), (2, .int v2)] [] P 0 0 (fun r P' => (r = none ∧ ((fv P' 301 14).toInt = (fv Po 302 (3 + 19 * t1.toInt.toNat)).toInt ∧ (fv P' 301 13).toInt = (fv Po 302 (4 + 19 * t1.toInt.toNat)).toInt ∧ (∀ j : Nat, j < 8 → fv P' 308 j = fv Po 302 (6 + 19 * t1.toInt.toNat + j)) ∧ ∀ j : Nat, j < 8 → fv P' 309 j = fv Po 302 (14 + 19 * t1.toInt.toNat + j))) ∧ Typ P' ∧ KW [1101, 1102, 1536, 1600] Po P' ∧ True) := by
  intro n
  induction n using Nat.strongRecOn with | _ n ih => ?_
  intro v2 P hT hK i_0 i_1 i_2 i_3 i_4 i_5 hm
  have w_t1 := ti_full t1
  have w_v2 := ti_full v2
  have g1 : (0 : Int) ≤ (fv P 301 14).toInt ∧ (fv P 301 14).toInt ≤ 1 := Typ.rng hT rl_301 (by decide) (by decide) rfl
  have g2 : (0 : Int) ≤ (fv P 301 14).toInt ∧ (fv P 301 14).toInt ≤ 1 := Typ.rng hT rl_301 (by decide) (by decide) rfl
  have g3 : (0 : Int) ≤ (fv P 301 13).toInt ∧ (fv P 301 13).toInt ≤ 8 := Typ.rng hT rl_301 (by decide) (by decide) rfl
  have g4 : (0 : Int) ≤ (fv P 301 13).toInt ∧ (fv P 301 13).toInt ≤ 8 := Typ.rng hT rl_301 (by decide) (by decide) rfl
  refine mp_a (a_iload_n dX7_lays_21 rfl) (mpp 22 rfl ?_)
  refine mp_a (a_bipush (v := 8) dX7_lays_22 rfl) (mpp 24 rfl ?_)
  refine mp_Tb (t := 57) (j_icmp_ge dX7_lays_24) (by decide) (fun c5 => ?_) (fun c5 => mpp 27 rfl ?_)
  · have c5 : v2.toInt ≥ 8 := ti_ge c5
    have u6 : (fv P 301 14).toInt = (fv Po 302 (3 + 19 * t1.toInt.toNat)).toInt ∧ (fv P 301 13).toInt = (fv Po 302 (4 + 19 * t1.toInt.toNat)).toInt ∧ (∀ j : Nat, j < 8 → fv P 308 j = fv Po 302 (6 + 19 * t1.toInt.toNat + j)) ∧ ∀ j : Nat, j < 8 → fv P 309 j = fv Po 302 (14 + 19 * t1.toInt.toNat + j) := ⟨by omega, by omega, fun j hj => i_1.1 j (by omega), fun j hj => i_2.1 j (by omega)⟩
    exact mp_ret ⟨⟨rfl, u6⟩, hT, hK, trivial⟩ dX7_lays_57 rfl
  · have c5 : v2.toInt < 8 := ti_ge_n c5
    refine mp_a (a_aload_n dX7_lays_27 rfl) (mpp 28 rfl ?_)
    refine mt_getU (i := 28) (k := 11) (A := 308) hT dX7_lays_28 rfl rl_301 (by decide) rfl (by decide) rfl un_24 (mpp 31 rfl ?_)
    refine mp_a (a_iload_n dX7_lays_31 rfl) (mpp 32 rfl ?_)
    refine mp_a (a_aload_n dX7_lays_32 rfl) (mpp 33 rfl ?_)
    refine mp_a (a_iload_n dX7_lays_33 rfl) (mpp 34 rfl ?_)
    refine mp_a (a_iload_n dX7_lays_34 rfl) (mpp 35 rfl ?_)
    have p7 : 0 ≤ t1.toInt := by omega
    have p8 : t1.toInt ≤ 7 := by omega
    have p9 : 0 ≤ v2.toInt := by omega
    have p10 : v2.toInt ≤ 7 := by omega
    refine mt_callv (i := 142) (q' := q_152) (As := [.int t1, .int v2]) (rest := [.int v2, .ref 308]) hT dX7_lays_35 rfl qm_152 (by decide) rfl rl_301 (by decide) rfl (Nat.le_of_ble_eq_true rfl) rfl ⟨rfl, rfl⟩ ⟨Nat.le_of_ble_eq_true rfl, Nat.le_of_ble_eq_true rfl⟩ (EvP.mono (by decide) (c_M_sizeOf hT p7 p8 p9 p10 )) (fun r11 P12 g13 => mpp 38 rfl ?_)
    obtain ⟨⟨x14, rfl, g15⟩, e16⟩ := g13
    have e16 := e16.symm
    subst e16
    have wx14 := ti_full x14
    replace g15 : x14.toInt = (fv P 302 (6 + 19 * t1.toInt.toNat + v2.toInt.toNat)).toInt := g15
    show MEvP _ none q_164 38 [(0, .ref 301), (1, .int t1), (2, .int v2)] [.int x14, .int v2, .ref 308] _ _ _ _
    refine mt_ias (n := 8) hT dX7_lays_38 rl_308 (by decide) rfl rfl (by omega) (by omega) rfl (ti_full x14) (fun P17 hT18 f19 f20 f21 => mpp 39 rfl ?_)
    have k22 : KW [1101, 1102, 1536, 1600] Po P17 := KW.step hK rl_308 rfl f20 f21
    refine mp_a (a_aload_n dX7_lays_39 rfl) (mpp 40 rfl ?_)
    refine mt_getU (i := 31) (k := 12) (A := 309) hT18 dX7_lays_40 rfl rl_301 (by decide) rfl (by decide) rfl un_25 (mpp 43 rfl ?_)
    refine mp_a (a_iload_n dX7_lays_43 rfl) (mpp 44 rfl ?_)
    refine mp_a (a_aload_n dX7_lays_44 rfl) (mpp 45 rfl ?_)
    refine mp_a (a_iload_n dX7_lays_45 rfl) (mpp 46 rfl ?_)
    refine mp_a (a_iload_n dX7_lays_46 rfl) (mpp 47 rfl ?_)
    have p23 : 0 ≤ t1.toInt := by omega
    have p24 : t1.toInt ≤ 7 := by omega
    have p25 : 0 ≤ v2.toInt := by omega
    have p26 : v2.toInt ≤ 7 := by omega
    refine mt_callv (i := 92) (q' := q_146) (As := [.int t1, .int v2]) (rest := [.int v2, .ref 309]) hT18 dX7_lays_47 rfl qm_146 (by decide) rfl rl_301 (by decide) rfl (Nat.le_of_ble_eq_true rfl) rfl ⟨rfl, rfl⟩ ⟨Nat.le_of_ble_eq_true rfl, Nat.le_of_ble_eq_true rfl⟩ (EvP.mono (by decide) (c_M_creaseOf hT18 p23 p24 p25 p26 )) (fun r27 P28 g29 => mpp 50 rfl ?_)
    obtain ⟨⟨x30, rfl, g31⟩, e32⟩ := g29
    have e32 := e32.symm
    subst e32
    have wx30 := ti_full x30
    replace g31 : x30.toInt = (fv P17 302 (14 + 19 * t1.toInt.toNat + v2.toInt.toNat)).toInt := g31
    show MEvP _ none q_164 50 [(0, .ref 301), (1, .int t1), (2, .int v2)] [.int x30, .int v2, .ref 309] _ _ _ _
    refine mt_ias (n := 8) hT18 dX7_lays_50 rl_309 (by decide) rfl rfl (by omega) (by omega) rfl (ti_full x30) (fun P33 hT34 f35 f36 f37 => mpp 51 rfl ?_)
    have k38 : KW [1101, 1102, 1536, 1600] Po P33 := KW.step k22 rl_309 rfl f36 f37
    obtain ⟨z39, h40⟩ := ti_ex (v2 + 1 : Int32)
    have wz39 := ti_full z39
    refine mp_a (a_iinc (v := z39) (L' := [(2, .int z39), (0, .ref 301), (1, .int t1)]) dX7_lays_51 (by decide) rfl h40 rfl) (mpp 54 rfl ?_)
    try have e41 : z39.toInt = v2.toInt + 1 := ti_addz h40 rfl rfl (by omega) (by omega)
    refine mp_a (a_goto (t := 21) dX7_lays_54 (by decide)) ?_
    refine MEvP.less (L := [(0, .ref 301), (1, .int t1), (2, .int z39)]) rfl rfl ⟨rfl, rfl, rfl, trivial⟩ ?_
    have e42 : (fv P33 301 14).toInt = (fv P 301 14).toInt := congrArg Int32.toInt ((f36 301 14 (ne_r rl_301 rl_309 rfl)).trans (f20 301 14 (ne_r rl_301 rl_308 rfl)))
    have e43 : (fv P33 301 13).toInt = (fv P 301 13).toInt := congrArg Int32.toInt ((f36 301 13 (ne_r rl_301 rl_309 rfl)).trans (f20 301 13 (ne_r rl_301 rl_308 rfl)))
    have i44 : (fv P33 301 14).toInt = (fv Po 302 (3 + 19 * t1.toInt.toNat)).toInt ∧ (fv P33 301 13).toInt = (fv Po 302 (4 + 19 * t1.toInt.toNat)).toInt := by omega
    have i45 : ROW Po P33 308 (fun j : Nat => fv Po 302 (6 + 19 * t1.toInt.toNat + j)) z39.toInt.toNat := ROW.step (n := v2.toInt.toNat) (v := x14.toInt) i_1 (by omega) rfl (by rw [f36 308 v2.toInt.toNat (by omega)]; exact congrArg Int32.toInt f19) (by have q : fv P 302 (6 + 19 * t1.toInt.toNat + v2.toInt.toNat) = fv Po 302 (6 + 19 * t1.toInt.toNat + v2.toInt.toNat) := i_3 _; show x14.toInt = (fv Po 302 (6 + 19 * t1.toInt.toNat + v2.toInt.toNat)).toInt; rw [← q]; exact g15) (fun j hj => by rw [f36 308 j (by omega), f20 308 j (fun e => hj e.2)])
    have i46 : ROW Po P33 309 (fun j : Nat => fv Po 302 (14 + 19 * t1.toInt.toNat + j)) z39.toInt.toNat := ROW.step (n := v2.toInt.toNat) (v := x30.toInt) i_2 (by omega) rfl (congrArg Int32.toInt f35) (by have q : fv P17 302 (14 + 19 * t1.toInt.toNat + v2.toInt.toNat) = fv Po 302 (14 + 19 * t1.toInt.toNat + v2.toInt.toNat) := (f20 302 _ (by omega)).trans (i_3 _); show x30.toInt = (fv Po 302 (14 + 19 * t1.toInt.toNat + v2.toInt.toNat)).toInt; rw [← q]; exact g31) (fun j hj => by rw [f36 309 j (fun e => hj e.2), f20 309 j (by omega)])
    have i47 : ∀ j : Nat, fv P33 302 j = fv Po 302 j := fun j => by rw [f36 302 j (by omega), f20 302 j (by omega)]; exact i_3 j
    have i48 : 0 ≤ t1.toInt ∧ t1.toInt ≤ 7 := by omega
    have i49 : 0 ≤ z39.toInt := by omega
    exact ih _ (by omega) _ P33 hT34 k38 i44 i45 i46 i47 i48 i49 rfl

set_option maxHeartbeats 4000000 in
theorem c_M_lays {Po : mP} {t1 : Int32} (hT : Typ Po)  (hp0 : 0 ≤ t1.toInt) (hp1 : t1.toInt ≤ 7)  : EvP 4 164 [.ref 301, .int t1] Po (fun r P' => (r = none ∧ ((fv P' 301 14).toInt = (fv Po 302 (3 + 19 * t1.toInt.toNat)).toInt ∧ (fv P' 301 13).toInt = (fv Po 302 (4 + 19 * t1.toInt.toNat)).toInt ∧ (∀ j : Nat, j < 8 → fv P' 308 j = fv Po 302 (6 + 19 * t1.toInt.toNat + j)) ∧ ∀ j : Nat, j < 8 → fv P' 309 j = fv Po 302 (14 + 19 * t1.toInt.toNat + j))) ∧ Typ P' ∧ KW [1101, 1102, 1536, 1600] Po P' ∧ True) := by
  refine EvP.of qm_164 (Nat.le_of_ble_eq_true rfl) rfl ?_
  show MEvP _ none q_164 0 [(0, .ref 301), (1, .int t1)] [] _ 0 0 _
  have w_t1 := ti_full t1
  try have g1 : (0 : Int) ≤ (fv Po 302 (3 + 19 * t1.toInt.toNat)).toInt ∧ (fv Po 302 (3 + 19 * t1.toInt.toNat)).toInt ≤ 1 := s3_rng hT (by omega)
  try have g2 : (0 : Int) ≤ (fv Po 302 (4 + 19 * t1.toInt.toNat)).toInt ∧ (fv Po 302 (4 + 19 * t1.toInt.toNat)).toInt ≤ 8 := s4_rng hT (by omega)
  refine mp_a (a_aload_n dX7_lays_0 rfl) (mpp 1 rfl ?_)
  refine mp_a (a_aload_n dX7_lays_1 rfl) (mpp 2 rfl ?_)
  refine mp_a (a_iload_n dX7_lays_2 rfl) (mpp 3 rfl ?_)
  have p3 : 0 ≤ t1.toInt := by omega
  have p4 : t1.toInt ≤ 7 := by omega
  refine mt_callv (i := 81) (q' := q_138) (As := [.int t1]) (rest := [.ref 301]) hT dX7_lays_3 rfl qm_138 (by decide) rfl rl_301 (by decide) rfl (Nat.le_of_ble_eq_true rfl) rfl ⟨rfl, rfl⟩ ⟨Nat.le_of_ble_eq_true rfl, Nat.le_of_ble_eq_true rfl⟩ (EvP.mono (by decide) (c_M_isCorner hT p3 p4 )) (fun r5 P6 g7 => mpp 6 rfl ?_)
  obtain ⟨⟨x8, rfl, g9⟩, e10⟩ := g7
  have e10 := e10.symm
  subst e10
  have wx8 := ti_full x8
  replace g9 : 0 ≤ x8.toInt ∧ x8.toInt ≤ 1 ∧ ((x8.toInt = 1 ∧ (fv Po 302 (3 + 19 * t1.toInt.toNat)).toInt = 1) ∨ (x8.toInt = 0 ∧ (fv Po 302 (3 + 19 * t1.toInt.toNat)).toInt = 0)) := g9
  show MEvP _ none q_164 6 [(0, .ref 301), (1, .int t1)] [.int x8, .ref 301] _ _ _ _
  refine mt_putI (i := 161) (k := 14) (x := x8) hT dX7_lays_6 rfl rl_301 (by decide) rfl (by decide) rfl ⟨by omega, by omega⟩ (ti_fit (by omega)) rfl (fun P11 hT12 f13 f14 f15 => mpp 9 rfl ?_)
  have k16 : KW [1101, 1102, 1536, 1600] Po P11 := KW.step KW.refl rl_301 rfl f14 f15
  have e17 : (fv P11 301 14).toInt = x8.toInt := congrArg Int32.toInt f13
  refine mp_a (a_aload_n dX7_lays_9 rfl) (mpp 10 rfl ?_)
  refine mp_a (a_aload_n dX7_lays_10 rfl) (mpp 11 rfl ?_)
  refine mp_a (a_iload_n dX7_lays_11 rfl) (mpp 12 rfl ?_)
  refine mp_a (a_iconst (v := 1) dX7_lays_12 rfl) (mpp 13 rfl ?_)
  have p18 : 0 ≤ t1.toInt := by omega
  have p19 : t1.toInt ≤ 7 := by omega
  have p20 : 0 ≤ (1 : Int) := by omega
  have p21 : (1 : Int) ≤ 18 := by omega
  refine mt_callv (i := 78) (q' := q_137) (As := [.int t1, .int 1]) (rest := [.ref 301]) hT12 dX7_lays_13 rfl qm_137 (by decide) rfl rl_301 (by decide) rfl (Nat.le_of_ble_eq_true rfl) rfl ⟨rfl, rfl⟩ ⟨Nat.le_of_ble_eq_true rfl, Nat.le_of_ble_eq_true rfl⟩ (EvP.mono (by decide) (c_M_of_c1 hT12 p18 p19 p20 p21 )) (fun r22 P23 g24 => mpp 16 rfl ?_)
  obtain ⟨⟨x25, rfl, g26⟩, e27⟩ := g24
  have e27 := e27.symm
  subst e27
  have wx25 := ti_full x25
  replace g26 : x25.toInt = (fv P11 302 (4 + 19 * t1.toInt.toNat)).toInt ∧ 0 ≤ x25.toInt ∧ x25.toInt ≤ 8 := g26
  have e28 : (fv P11 302 (4 + 19 * t1.toInt.toNat)).toInt = (fv Po 302 (4 + 19 * t1.toInt.toNat)).toInt := congrArg Int32.toInt (f14 302 (4 + 19 * t1.toInt.toNat) (ne_r rl_302 rl_301 rfl))
  show MEvP _ none q_164 16 [(0, .ref 301), (1, .int t1)] [.int x25, .ref 301] _ _ _ _
  refine mt_putI (i := 165) (k := 13) (x := x25) hT12 dX7_lays_16 rfl rl_301 (by decide) rfl (by decide) rfl ⟨by omega, by omega⟩ rfl rfl (fun P29 hT30 f31 f32 f33 => mpp 19 rfl ?_)
  have k34 : KW [1101, 1102, 1536, 1600] Po P29 := KW.step k16 rl_301 rfl f32 f33
  have e35 : (fv P29 301 13).toInt = x25.toInt := congrArg Int32.toInt f31
  refine mp_a (a_iconst (v := 0) dX7_lays_19 rfl) (mpp 20 rfl ?_)
  refine mp_a (a_istore_n (L' := [(2, .int 0), (0, .ref 301), (1, .int t1)]) dX7_lays_20 (by decide) rfl) (mpp 21 rfl ?_)
  refine MEvP.less (L := [(0, .ref 301), (1, .int t1), (2, .int 0)]) rfl rfl ⟨rfl, rfl, rfl, trivial⟩ ?_
  have e36 : (fv P29 301 14).toInt = (fv P11 301 14).toInt := congrArg Int32.toInt (f32 301 14 (ne_k rfl))
  have i37 : (fv P29 301 14).toInt = (fv Po 302 (3 + 19 * t1.toInt.toNat)).toInt ∧ (fv P29 301 13).toInt = (fv Po 302 (4 + 19 * t1.toInt.toNat)).toInt := by omega
  have i38 : ROW Po P29 308 (fun j : Nat => fv Po 302 (6 + 19 * t1.toInt.toNat + j)) (0 : Int).toNat := ROW.start rfl (fun j => by rw [f32 308 j (by omega), f14 308 j (by omega)])
  have i39 : ROW Po P29 309 (fun j : Nat => fv Po 302 (14 + 19 * t1.toInt.toNat + j)) (0 : Int).toNat := ROW.start rfl (fun j => by rw [f32 309 j (by omega), f14 309 j (by omega)])
  have i40 : ∀ j : Nat, fv P29 302 j = fv Po 302 j := fun j => by rw [f32 302 j (by omega), f14 302 j (by omega)]
  have i41 : 0 ≤ t1.toInt ∧ t1.toInt ≤ 7 := by omega
  have i42 : 0 ≤ (0 : Int) := by omega
  exact c_M_lays_l21   hp0 hp1 _ _ P29 hT30 k34 i37 i38 i39 i40 i41 i42 rfl

