/-! methods on typed pools, 48 (written by a program) -/
set_option maxHeartbeats 4000000 in
theorem c_M_readsMark {Po : mP}  (hT : Typ Po)  (hp0 : (fv Po 301 24).toInt ≤ (fv Po 301 23).toInt)  : EvP 3 224 [.ref 301] Po (fun r P' => (∃ x : Int32, r = some (.int x) ∧ (0 ≤ x.toInt ∧ x.toInt ≤ 1 ∧ (((fv Po 301 24).toInt ≤ (fv P' 301 24).toInt ∧ (fv P' 301 24).toInt ≤ (fv Po 301 23).toInt) ∧ ((x.toInt = 1 ∧ ((chM Po (fv Po 301 24).toInt).toInt = 46 ∧ (48 ≤ (chM Po ((fv Po 301 24).toInt + 1)).toInt ∧ (chM Po ((fv Po 301 24).toInt + 1)).toInt ≤ 57) ∧ (chM Po ((fv Po 301 24).toInt + 2)).toInt = 61 ∧ ((chM Po ((fv Po 301 24).toInt + 3)).toInt = 111 ∨ (chM Po ((fv Po 301 24).toInt + 3)).toInt = 109 ∨ (chM Po ((fv Po 301 24).toInt + 3)).toInt = 118)) ∧ (fv P' 301 24).toInt = (fv Po 301 24).toInt + 4 ∧ (fv P' 301 27).toInt = (chM Po ((fv Po 301 24).toInt + 1)).toInt - 48 ∧ (fv P' 301 29).toInt = (kn (chM Po ((fv Po 301 24).toInt + 3)).toInt).toInt) ∨ (x.toInt = 0 ∧ ¬ ((chM Po (fv Po 301 24).toInt).toInt = 46 ∧ (48 ≤ (chM Po ((fv Po 301 24).toInt + 1)).toInt ∧ (chM Po ((fv Po 301 24).toInt + 1)).toInt ≤ 57) ∧ (chM Po ((fv Po 301 24).toInt + 2)).toInt = 61 ∧ ((chM Po ((fv Po 301 24).toInt + 3)).toInt = 111 ∨ (chM Po ((fv Po 301 24).toInt + 3)).toInt = 109 ∨ (chM Po ((fv Po 301 24).toInt + 3)).toInt = 118))))))) ∧ Typ P' ∧ KW [1112, 1115, 1117] Po P' ∧ True) := by
  refine EvP.of qm_224 (Nat.le_of_ble_eq_true rfl) rfl ?_
  show MEvP _ none q_224 0 [(0, .ref 301)] [] _ 0 0 _
  have g1 : (0 : Int) ≤ (fv Po 301 24).toInt ∧ (fv Po 301 24).toInt ≤ 81 := Typ.rng hT rl_301 (by decide) (by decide) rfl
  have g2 : (0 : Int) ≤ (fv Po 301 23).toInt ∧ (fv Po 301 23).toInt ≤ 80 := Typ.rng hT rl_301 (by decide) (by decide) rfl
  refine mp_a (a_aload_n dX7_readsMark_0 rfl) (mpp 1 rfl ?_)
  refine mp_a (a_bipush (v := 46) dX7_readsMark_1 rfl) (mpp 3 rfl ?_)
  have p3 : 0 ≤ (46 : Int) := by omega
  refine mt_callv (i := 312) (q' := q_220) (As := [.int 46]) (rest := []) hT dX7_readsMark_3 rfl qm_220 (by decide) rfl rl_301 (by decide) rfl (Nat.le_of_ble_eq_true rfl) rfl ⟨rfl, rfl⟩ ⟨Nat.le_of_ble_eq_true rfl, Nat.le_of_ble_eq_true rfl⟩ (EvP.mono (by decide) (c_M_takes hT p3 )) (fun r4 P5 g6 => mpp 6 rfl ?_)
  obtain ⟨⟨x7, rfl, g8⟩, hT9, k10, R11⟩ := g6
  have k12 : KW [1112, 1115, 1117] Po P5 := KW.trans KW.refl k10 rfl
  have wx7 := ti_full x7
  replace g8 : 0 ≤ x7.toInt ∧ x7.toInt ≤ 1 ∧ ((x7.toInt = 1 ∧ (chM Po (fv Po 301 24).toInt).toInt = (46 : Int) ∧ (fv P5 301 24).toInt = (fv Po 301 24).toInt + 1 ∧ (fv P5 301 24).toInt ≤ (fv Po 301 23).toInt) ∨ (x7.toInt = 0 ∧ ¬ (chM Po (fv Po 301 24).toInt).toInt = (46 : Int) ∧ (fv P5 301 24).toInt = (fv Po 301 24).toInt)) := g8
  have g14 : (0 : Int) ≤ (fv P5 301 24).toInt ∧ (fv P5 301 24).toInt ≤ 81 := Typ.rng hT9 rl_301 (by decide) (by decide) rfl
  have g15 : (0 : Int) ≤ (fv P5 301 24).toInt ∧ (fv P5 301 24).toInt ≤ 81 := Typ.rng hT9 rl_301 (by decide) (by decide) rfl
  have g16 : (0 : Int) ≤ (fv P5 301 24).toInt ∧ (fv P5 301 24).toInt ≤ 81 := Typ.rng hT9 rl_301 (by decide) (by decide) rfl
  show MEvP _ none q_224 6 [(0, .ref 301)] [.int x7] _ _ _ _
  refine mp_Tb (t := 11) (j_if_ne dX7_readsMark_6) (by decide) (fun c17 => ?_) (fun c17 => mpp 9 rfl ?_)
  · have c17 : x7.toInt ≠ 0 := ti_ne c17
    refine mp_a (a_aload_n dX7_readsMark_11 rfl) (mpp 12 rfl ?_)
    refine mp_a (a_aload_n dX7_readsMark_12 rfl) (mpp 13 rfl ?_)
    have e18 : (fv P5 301 23).toInt = (fv Po 301 23).toInt := congrArg Int32.toInt (KW.at k10 23 rl_301 rfl)
    have p19 : (fv P5 301 24).toInt ≤ (fv P5 301 23).toInt := by omega
    refine mt_callv (i := 315) (q' := q_223) (As := []) (rest := [.ref 301]) hT9 dX7_readsMark_13 rfl qm_223 (by decide) rfl rl_301 (by decide) rfl (Nat.le_of_ble_eq_true rfl) rfl ⟨rfl, rfl⟩ ⟨Nat.le_of_ble_eq_true rfl, Nat.le_of_ble_eq_true rfl⟩ (EvP.mono (by decide) (c_M_digit hT9 p19 )) (fun r20 P21 g22 => mpp 16 rfl ?_)
    obtain ⟨⟨x23, rfl, g24⟩, hT25, k26, R27⟩ := g22
    have k28 : KW [1112, 1115, 1117] Po P21 := KW.trans k12 k26 rfl
    have wx23 := ti_full x23
    replace g24 : ((fv P5 301 24).toInt ≤ (fv P21 301 24).toInt ∧ (fv P21 301 24).toInt ≤ (fv P5 301 23).toInt) ∧ (((48 ≤ (chM P5 (fv P5 301 24).toInt).toInt ∧ (chM P5 (fv P5 301 24).toInt).toInt ≤ 57) ∧ x23.toInt = (chM P5 (fv P5 301 24).toInt).toInt - 48 ∧ (fv P21 301 24).toInt = (fv P5 301 24).toInt + 1) ∨ (¬ (48 ≤ (chM P5 (fv P5 301 24).toInt).toInt ∧ (chM P5 (fv P5 301 24).toInt).toInt ≤ 57) ∧ x23.toInt = -1)) := g24
    have g30 : (0 : Int) ≤ (fv P21 301 24).toInt ∧ (fv P21 301 24).toInt ≤ 81 := Typ.rng hT25 rl_301 (by decide) (by decide) rfl
    have g31 : (0 : Int) ≤ (fv P21 301 24).toInt ∧ (fv P21 301 24).toInt ≤ 81 := Typ.rng hT25 rl_301 (by decide) (by decide) rfl
    have g32 : (0 : Int) ≤ (fv P21 301 24).toInt ∧ (fv P21 301 24).toInt ≤ 81 := Typ.rng hT25 rl_301 (by decide) (by decide) rfl
    show MEvP _ none q_224 16 [(0, .ref 301)] [.int x23, .ref 301] _ _ _ _
    refine mt_putI (i := 303) (k := 27) (x := x23) hT25 dX7_readsMark_16 rfl rl_301 (by decide) rfl (by decide) rfl (ti_full x23) rfl rfl (fun P33 hT34 f35 f36 f37 => mpp 19 rfl ?_)
    have k38 : KW [1112, 1115, 1117] Po P33 := KW.step k28 rl_301 rfl f36 f37
    have e39 : (fv P33 301 27).toInt = x23.toInt := congrArg Int32.toInt f35
    refine mp_a (a_aload_n dX7_readsMark_19 rfl) (mpp 20 rfl ?_)
    refine mt_getI (i := 303) (k := 27) hT34 dX7_readsMark_20 rfl rl_301 (by decide) rfl (by decide) rfl (fun g40 g41 => mpp 23 rfl ?_)
    refine mp_Tb (t := 35) (j_if_lt dX7_readsMark_23) (by decide) (fun c42 => ?_) (fun c42 => mpp 26 rfl ?_)
    · have c42 : (fv P33 301 27).toInt < 0 := ti_lt c42
      refine mp_a (a_iconst (v := 0) dX7_readsMark_35 rfl) (mpp 36 rfl ?_)
      have e43 : (fv P33 301 24).toInt = (fv P21 301 24).toInt := congrArg Int32.toInt (f36 301 24 (ne_k rfl))
      have e45 : (fv P33 301 24).toInt = (fv P21 301 24).toInt := congrArg Int32.toInt (f36 301 24 (by omega))
      have e46 : (fv P33 301 23).toInt = (fv P21 301 23).toInt := congrArg Int32.toInt (f36 301 23 (by omega))
      have e47 : (fv P5 301 23).toInt = (fv Po 301 23).toInt := congrArg Int32.toInt (KW.at k10 23 rl_301 rfl)
      have e48 : (fv P21 301 23).toInt = (fv P5 301 23).toInt := congrArg Int32.toInt (KW.at k26 23 rl_301 rfl)
      have y49_ := g8
      have t51_ : chM P5 = chM Po := chM_eq (fun j => by rw [KW.at k10 j rl_314 rfl]) (by rw [KW.at k10 23 rl_301 rfl])
      have y50_ := g24
      rw [t51_, show (fv P5 301 24).toInt = (fv Po 301 24).toInt + 1 from by omega] at y50_
      have u44 : 0 ≤ (0 : Int) ∧ (0 : Int) ≤ 1 ∧ (((fv Po 301 24).toInt ≤ (fv P33 301 24).toInt ∧ (fv P33 301 24).toInt ≤ (fv Po 301 23).toInt) ∧ (((0 : Int) = 1 ∧ ((chM Po (fv Po 301 24).toInt).toInt = 46 ∧ (48 ≤ (chM Po ((fv Po 301 24).toInt + 1)).toInt ∧ (chM Po ((fv Po 301 24).toInt + 1)).toInt ≤ 57) ∧ (chM Po ((fv Po 301 24).toInt + 2)).toInt = 61 ∧ ((chM Po ((fv Po 301 24).toInt + 3)).toInt = 111 ∨ (chM Po ((fv Po 301 24).toInt + 3)).toInt = 109 ∨ (chM Po ((fv Po 301 24).toInt + 3)).toInt = 118)) ∧ (fv P33 301 24).toInt = (fv Po 301 24).toInt + 4 ∧ (fv P33 301 27).toInt = (chM Po ((fv Po 301 24).toInt + 1)).toInt - 48 ∧ (fv P33 301 29).toInt = (kn (chM Po ((fv Po 301 24).toInt + 3)).toInt).toInt) ∨ ((0 : Int) = 0 ∧ ¬ ((chM Po (fv Po 301 24).toInt).toInt = 46 ∧ (48 ≤ (chM Po ((fv Po 301 24).toInt + 1)).toInt ∧ (chM Po ((fv Po 301 24).toInt + 1)).toInt ≤ 57) ∧ (chM Po ((fv Po 301 24).toInt + 2)).toInt = 61 ∧ ((chM Po ((fv Po 301 24).toInt + 3)).toInt = 111 ∨ (chM Po ((fv Po 301 24).toInt + 3)).toInt = 109 ∨ (chM Po ((fv Po 301 24).toInt + 3)).toInt = 118))))) := ⟨by omega, by omega, ⟨by omega, by omega⟩, Or.inr ⟨rfl, by omega⟩⟩
      exact mp_iret ⟨⟨_, rfl, u44⟩, hT34, k38, trivial⟩ dX7_readsMark_36 (Or.inr ⟨rfl, by decide⟩)
    · have c42 : (fv P33 301 27).toInt ≥ 0 := ti_lt_n c42
      refine mp_a (a_aload_n dX7_readsMark_26 rfl) (mpp 27 rfl ?_)
      refine mp_a (a_bipush (v := 61) dX7_readsMark_27 rfl) (mpp 29 rfl ?_)
      have p52 : 0 ≤ (61 : Int) := by omega
      refine mt_callv (i := 312) (q' := q_220) (As := [.int 61]) (rest := []) hT34 dX7_readsMark_29 rfl qm_220 (by decide) rfl rl_301 (by decide) rfl (Nat.le_of_ble_eq_true rfl) rfl ⟨rfl, rfl⟩ ⟨Nat.le_of_ble_eq_true rfl, Nat.le_of_ble_eq_true rfl⟩ (EvP.mono (by decide) (c_M_takes hT34 p52 )) (fun r53 P54 g55 => mpp 32 rfl ?_)
      obtain ⟨⟨x56, rfl, g57⟩, hT58, k59, R60⟩ := g55
      have k61 : KW [1112, 1115, 1117] Po P54 := KW.trans k38 k59 rfl
      have wx56 := ti_full x56
      replace g57 : 0 ≤ x56.toInt ∧ x56.toInt ≤ 1 ∧ ((x56.toInt = 1 ∧ (chM P33 (fv P33 301 24).toInt).toInt = (61 : Int) ∧ (fv P54 301 24).toInt = (fv P33 301 24).toInt + 1 ∧ (fv P54 301 24).toInt ≤ (fv P33 301 23).toInt) ∨ (x56.toInt = 0 ∧ ¬ (chM P33 (fv P33 301 24).toInt).toInt = (61 : Int) ∧ (fv P54 301 24).toInt = (fv P33 301 24).toInt)) := g57
      have e63 : (fv P33 301 24).toInt = (fv P21 301 24).toInt := congrArg Int32.toInt (f36 301 24 (ne_k rfl))
      have g64 : (0 : Int) ≤ (fv P54 301 24).toInt ∧ (fv P54 301 24).toInt ≤ 81 := Typ.rng hT58 rl_301 (by decide) (by decide) rfl
      have g65 : (0 : Int) ≤ (fv P54 301 24).toInt ∧ (fv P54 301 24).toInt ≤ 81 := Typ.rng hT58 rl_301 (by decide) (by decide) rfl
      have e66 : (fv P33 301 23).toInt = (fv P5 301 23).toInt := congrArg Int32.toInt ((f36 301 23 (ne_k rfl)).trans (KW.at k26 23 rl_301 rfl))
      have g67 : (0 : Int) ≤ (fv P54 301 24).toInt ∧ (fv P54 301 24).toInt ≤ 81 := Typ.rng hT58 rl_301 (by decide) (by decide) rfl
      show MEvP _ none q_224 32 [(0, .ref 301)] [.int x56] _ _ _ _
      refine mp_Tb (t := 37) (j_if_ne dX7_readsMark_32) (by decide) (fun c68 => ?_) (fun c68 => mpp 35 rfl ?_)
      · have c68 : x56.toInt ≠ 0 := ti_ne c68
        refine mp_a (a_aload_n dX7_readsMark_37 rfl) (mpp 38 rfl ?_)
        refine mp_a (a_aload_n dX7_readsMark_38 rfl) (mpp 39 rfl ?_)
        refine mt_callv (i := 297) (q' := q_218) (As := []) (rest := [.ref 301]) hT58 dX7_readsMark_39 rfl qm_218 (by decide) rfl rl_301 (by decide) rfl (Nat.le_of_ble_eq_true rfl) rfl ⟨rfl, rfl⟩ ⟨Nat.le_of_ble_eq_true rfl, Nat.le_of_ble_eq_true rfl⟩ (EvP.mono (by decide) (c_M_sign hT58 )) (fun r69 P70 g71 => mpp 42 rfl ?_)
        obtain ⟨⟨x72, rfl, g73⟩, e74⟩ := g71
        have e74 := e74.symm
        subst e74
        have wx72 := ti_full x72
        replace g73 : (x72.toInt = -1 ∨ (fv P54 301 24).toInt + 1 ≤ (fv P54 301 23).toInt) ∧ x72.toInt = (chM P54 (fv P54 301 24).toInt).toInt := g73
        have e75 : (fv P54 301 23).toInt = (fv P33 301 23).toInt := congrArg Int32.toInt (KW.at k59 23 rl_301 rfl)
        show MEvP _ none q_224 42 [(0, .ref 301)] [.int x72, .ref 301] _ _ _ _
        refine mp_calls (i := 309) (q' := q_222) (As := [.int x72]) (rest := [.ref 301]) dX7_readsMark_42 rfl qm_222 (by decide) rfl (Nat.le_of_ble_eq_true rfl) rfl ⟨rfl, rfl⟩ ⟨Nat.le_of_ble_eq_true rfl, Nat.le_of_ble_eq_true rfl⟩ (EvP.mono (by decide) (c_M_kindOf hT58 )) (fun r76 P77 g78 => mpp 45 rfl ?_)
        obtain ⟨⟨x79, rfl, g80⟩, e81⟩ := g78
        have e81 := e81.symm
        subst e81
        have wx79 := ti_full x79
        replace g80 : ((x72.toInt = 111 ∨ x72.toInt = 109 ∨ x72.toInt = 118) ∧ 0 ≤ x79.toInt ∧ x79.toInt = (kn x72.toInt).toInt) ∨ (¬ (x72.toInt = 111 ∨ x72.toInt = 109 ∨ x72.toInt = 118) ∧ x79.toInt = -1) := g80
        show MEvP _ none q_224 45 [(0, .ref 301)] [.int x79, .ref 301] _ _ _ _
        refine mt_putI (i := 318) (k := 29) (x := x79) hT58 dX7_readsMark_45 rfl rl_301 (by decide) rfl (by decide) rfl (ti_full x79) rfl rfl (fun P82 hT83 f84 f85 f86 => mpp 48 rfl ?_)
        have k87 : KW [1112, 1115, 1117] Po P82 := KW.step k61 rl_301 rfl f85 f86
        have e88 : (fv P82 301 29).toInt = x79.toInt := congrArg Int32.toInt f84
        refine mp_a (a_aload_n dX7_readsMark_48 rfl) (mpp 49 rfl ?_)
        refine mp_t (s_dup dX7_readsMark_49 rfl) (mpp 50 rfl ?_)
        have e89 : (fv P82 301 24).toInt = (fv P54 301 24).toInt := congrArg Int32.toInt (f85 301 24 (ne_k rfl))
        refine mt_getI (i := 294) (k := 24) hT83 dX7_readsMark_50 rfl rl_301 (by decide) rfl (by decide) rfl (fun g90 g91 => mpp 53 rfl ?_)
        refine mp_a (a_aload_n dX7_readsMark_53 rfl) (mpp 54 rfl ?_)
        refine mt_getI (i := 318) (k := 29) hT83 dX7_readsMark_54 rfl rl_301 (by decide) rfl (by decide) rfl (fun g92 g93 => mpp 57 rfl ?_)
        refine mp_Tb (t := 64) (j_if_lt dX7_readsMark_57) (by decide) (fun c94 => ?_) (fun c94 => mpp 60 rfl ?_)
        · have c94 : (fv P82 301 29).toInt < 0 := ti_lt c94
          refine mp_a (a_iconst (v := 0) dX7_readsMark_64 rfl) (mpp 65 rfl ?_)
          obtain ⟨z95, h96⟩ := ti_ex ((fv P82 301 24) + 0 : Int32)
          have wz95 := ti_full z95
          refine mp_t (s_iadd (v := z95) dX7_readsMark_65 h96) (mpp 66 rfl ?_)
          try have e97 : z95.toInt = (fv P82 301 24).toInt + 0 := ti_addz h96 rfl rfl (by omega) (by omega)
          refine mt_putI (i := 294) (k := 24) (x := z95) hT83 dX7_readsMark_66 rfl rl_301 (by decide) rfl (by decide) rfl ⟨by omega, by omega⟩ rfl rfl (fun P98 hT99 f100 f101 f102 => mpp 69 rfl ?_)
          have k103 : KW [1112, 1115, 1117] Po P98 := KW.step k87 rl_301 rfl f101 f102
          have e104 : (fv P98 301 24).toInt = z95.toInt := congrArg Int32.toInt f100
          refine mp_a (a_aload_n dX7_readsMark_69 rfl) (mpp 70 rfl ?_)
          have e105 : (fv P98 301 29).toInt = (fv P82 301 29).toInt := congrArg Int32.toInt (f101 301 29 (ne_k rfl))
          refine mt_getI (i := 318) (k := 29) hT99 dX7_readsMark_70 rfl rl_301 (by decide) rfl (by decide) rfl (fun g106 g107 => mpp 73 rfl ?_)
          refine mp_Tb (t := 80) (j_if_lt dX7_readsMark_73) (by decide) (fun c108 => ?_) (fun c108 => mpp 76 rfl ?_)
          · have c108 : (fv P98 301 29).toInt < 0 := ti_lt c108
            refine mp_a (a_iconst (v := 0) dX7_readsMark_80 rfl) (mpp 81 rfl ?_)
            have e110 : (fv P33 301 24).toInt = (fv P21 301 24).toInt := congrArg Int32.toInt (f36 301 24 (by omega))
            have e111 : (fv P33 301 23).toInt = (fv P21 301 23).toInt := congrArg Int32.toInt (f36 301 23 (by omega))
            have e112 : (fv P82 301 24).toInt = (fv P54 301 24).toInt := congrArg Int32.toInt (f85 301 24 (by omega))
            have e113 : (fv P82 301 23).toInt = (fv P54 301 23).toInt := congrArg Int32.toInt (f85 301 23 (by omega))
            have e114 : (fv P5 301 23).toInt = (fv Po 301 23).toInt := congrArg Int32.toInt (KW.at k10 23 rl_301 rfl)
            have e115 : (fv P21 301 23).toInt = (fv P5 301 23).toInt := congrArg Int32.toInt (KW.at k26 23 rl_301 rfl)
            have e116 : (fv P54 301 23).toInt = (fv P33 301 23).toInt := congrArg Int32.toInt (KW.at k59 23 rl_301 rfl)
            have y117_ := g8
            have t119_ : chM P5 = chM Po := chM_eq (fun j => by rw [KW.at k10 j rl_314 rfl]) (by rw [KW.at k10 23 rl_301 rfl])
            have y118_ := g24
            rw [t119_, show (fv P5 301 24).toInt = (fv Po 301 24).toInt + 1 from by omega] at y118_
            have t121_ : chM P33 = chM Po := chM_eq (fun j => by rw [f36 314 j (by omega), KW.at k26 j rl_314 rfl, KW.at k10 j rl_314 rfl]) (by rw [f36 301 23 (by omega), KW.at k26 23 rl_301 rfl, KW.at k10 23 rl_301 rfl])
            have y120_ := g57
            rw [t121_, show (fv P33 301 24).toInt = (fv Po 301 24).toInt + 2 from by omega] at y120_
            have t123_ : chM P54 = chM Po := chM_eq (fun j => by rw [KW.at k59 j rl_314 rfl, f36 314 j (by omega), KW.at k26 j rl_314 rfl, KW.at k10 j rl_314 rfl]) (by rw [KW.at k59 23 rl_301 rfl, f36 301 23 (by omega), KW.at k26 23 rl_301 rfl, KW.at k10 23 rl_301 rfl])
            have y122_ := g73
            rw [t123_, show (fv P54 301 24).toInt = (fv Po 301 24).toInt + 3 from by omega] at y122_
            have u109 : 0 ≤ (0 : Int) ∧ (0 : Int) ≤ 1 ∧ (((fv Po 301 24).toInt ≤ (fv P98 301 24).toInt ∧ (fv P98 301 24).toInt ≤ (fv Po 301 23).toInt) ∧ (((0 : Int) = 1 ∧ ((chM Po (fv Po 301 24).toInt).toInt = 46 ∧ (48 ≤ (chM Po ((fv Po 301 24).toInt + 1)).toInt ∧ (chM Po ((fv Po 301 24).toInt + 1)).toInt ≤ 57) ∧ (chM Po ((fv Po 301 24).toInt + 2)).toInt = 61 ∧ ((chM Po ((fv Po 301 24).toInt + 3)).toInt = 111 ∨ (chM Po ((fv Po 301 24).toInt + 3)).toInt = 109 ∨ (chM Po ((fv Po 301 24).toInt + 3)).toInt = 118)) ∧ (fv P98 301 24).toInt = (fv Po 301 24).toInt + 4 ∧ (fv P98 301 27).toInt = (chM Po ((fv Po 301 24).toInt + 1)).toInt - 48 ∧ (fv P98 301 29).toInt = (kn (chM Po ((fv Po 301 24).toInt + 3)).toInt).toInt) ∨ ((0 : Int) = 0 ∧ ¬ ((chM Po (fv Po 301 24).toInt).toInt = 46 ∧ (48 ≤ (chM Po ((fv Po 301 24).toInt + 1)).toInt ∧ (chM Po ((fv Po 301 24).toInt + 1)).toInt ≤ 57) ∧ (chM Po ((fv Po 301 24).toInt + 2)).toInt = 61 ∧ ((chM Po ((fv Po 301 24).toInt + 3)).toInt = 111 ∨ (chM Po ((fv Po 301 24).toInt + 3)).toInt = 109 ∨ (chM Po ((fv Po 301 24).toInt + 3)).toInt = 118))))) := ⟨by omega, by omega, ⟨by omega, by omega⟩, Or.inr ⟨rfl, by omega⟩⟩
            exact mp_iret ⟨⟨_, rfl, u109⟩, hT99, k103, trivial⟩ dX7_readsMark_81 (Or.inr ⟨rfl, by decide⟩)
          · have c108 : (fv P98 301 29).toInt ≥ 0 := ti_lt_n c108
            refine mp_a (a_iconst (v := 1) dX7_readsMark_76 rfl) (mpp 77 rfl ?_)
            refine mp_a (a_goto (t := 81) dX7_readsMark_77 (by decide)) ?_
            have e125 : (fv P33 301 24).toInt = (fv P21 301 24).toInt := congrArg Int32.toInt (f36 301 24 (by omega))
            have e126 : (fv P33 301 23).toInt = (fv P21 301 23).toInt := congrArg Int32.toInt (f36 301 23 (by omega))
            have e127 : (fv P82 301 24).toInt = (fv P54 301 24).toInt := congrArg Int32.toInt (f85 301 24 (by omega))
            have e128 : (fv P82 301 23).toInt = (fv P54 301 23).toInt := congrArg Int32.toInt (f85 301 23 (by omega))
            have e129 : (fv P5 301 23).toInt = (fv Po 301 23).toInt := congrArg Int32.toInt (KW.at k10 23 rl_301 rfl)
            have e130 : (fv P21 301 23).toInt = (fv P5 301 23).toInt := congrArg Int32.toInt (KW.at k26 23 rl_301 rfl)
            have e131 : (fv P54 301 23).toInt = (fv P33 301 23).toInt := congrArg Int32.toInt (KW.at k59 23 rl_301 rfl)
            have y132_ := g8
            have t134_ : chM P5 = chM Po := chM_eq (fun j => by rw [KW.at k10 j rl_314 rfl]) (by rw [KW.at k10 23 rl_301 rfl])
            have y133_ := g24
            rw [t134_, show (fv P5 301 24).toInt = (fv Po 301 24).toInt + 1 from by omega] at y133_
            have t136_ : chM P33 = chM Po := chM_eq (fun j => by rw [f36 314 j (by omega), KW.at k26 j rl_314 rfl, KW.at k10 j rl_314 rfl]) (by rw [f36 301 23 (by omega), KW.at k26 23 rl_301 rfl, KW.at k10 23 rl_301 rfl])
            have y135_ := g57
            rw [t136_, show (fv P33 301 24).toInt = (fv Po 301 24).toInt + 2 from by omega] at y135_
            have t138_ : chM P54 = chM Po := chM_eq (fun j => by rw [KW.at k59 j rl_314 rfl, f36 314 j (by omega), KW.at k26 j rl_314 rfl, KW.at k10 j rl_314 rfl]) (by rw [KW.at k59 23 rl_301 rfl, f36 301 23 (by omega), KW.at k26 23 rl_301 rfl, KW.at k10 23 rl_301 rfl])
            have y137_ := g73
            rw [t138_, show (fv P54 301 24).toInt = (fv Po 301 24).toInt + 3 from by omega] at y137_
            have e139 : (fv P98 301 27).toInt = (fv P33 301 27).toInt := by rw [f101 301 27 (by omega), f85 301 27 (by omega), KW.at k59 27 rl_301 rfl]
            have e140 : (fv P98 301 29).toInt = (fv P82 301 29).toInt := by rw [f101 301 29 (by omega)]
            have w141_ : x79.toInt = (kn (chM Po ((fv Po 301 24).toInt + 3)).toInt).toInt := by rw [show (chM Po ((fv Po 301 24).toInt + 3)).toInt = x72.toInt from by omega]; exact (g80.resolve_right (by omega)).2.2
            have u124 : 0 ≤ (1 : Int) ∧ (1 : Int) ≤ 1 ∧ (((fv Po 301 24).toInt ≤ (fv P98 301 24).toInt ∧ (fv P98 301 24).toInt ≤ (fv Po 301 23).toInt) ∧ (((1 : Int) = 1 ∧ ((chM Po (fv Po 301 24).toInt).toInt = 46 ∧ (48 ≤ (chM Po ((fv Po 301 24).toInt + 1)).toInt ∧ (chM Po ((fv Po 301 24).toInt + 1)).toInt ≤ 57) ∧ (chM Po ((fv Po 301 24).toInt + 2)).toInt = 61 ∧ ((chM Po ((fv Po 301 24).toInt + 3)).toInt = 111 ∨ (chM Po ((fv Po 301 24).toInt + 3)).toInt = 109 ∨ (chM Po ((fv Po 301 24).toInt + 3)).toInt = 118)) ∧ (fv P98 301 24).toInt = (fv Po 301 24).toInt + 4 ∧ (fv P98 301 27).toInt = (chM Po ((fv Po 301 24).toInt + 1)).toInt - 48 ∧ (fv P98 301 29).toInt = (kn (chM Po ((fv Po 301 24).toInt + 3)).toInt).toInt) ∨ ((1 : Int) = 0 ∧ ¬ ((chM Po (fv Po 301 24).toInt).toInt = 46 ∧ (48 ≤ (chM Po ((fv Po 301 24).toInt + 1)).toInt ∧ (chM Po ((fv Po 301 24).toInt + 1)).toInt ≤ 57) ∧ (chM Po ((fv Po 301 24).toInt + 2)).toInt = 61 ∧ ((chM Po ((fv Po 301 24).toInt + 3)).toInt = 111 ∨ (chM Po ((fv Po 301 24).toInt + 3)).toInt = 109 ∨ (chM Po ((fv Po 301 24).toInt + 3)).toInt = 118))))) := ⟨by omega, by omega, ⟨by omega, by omega⟩, Or.inl ⟨rfl, by omega, by omega, by omega, by omega⟩⟩
            exact mp_iret ⟨⟨_, rfl, u124⟩, hT99, k103, trivial⟩ dX7_readsMark_81 (Or.inr ⟨rfl, by decide⟩)
        · have c94 : (fv P82 301 29).toInt ≥ 0 := ti_lt_n c94
          refine mp_a (a_iconst (v := 1) dX7_readsMark_60 rfl) (mpp 61 rfl ?_)
          refine mp_a (a_goto (t := 65) dX7_readsMark_61 (by decide)) ?_
          obtain ⟨z142, h143⟩ := ti_ex ((fv P82 301 24) + 1 : Int32)
          have wz142 := ti_full z142
          refine mp_t (s_iadd (v := z142) dX7_readsMark_65 h143) (mpp 66 rfl ?_)
          try have e144 : z142.toInt = (fv P82 301 24).toInt + 1 := ti_addz h143 rfl rfl (by omega) (by omega)
          refine mt_putI (i := 294) (k := 24) (x := z142) hT83 dX7_readsMark_66 rfl rl_301 (by decide) rfl (by decide) rfl ⟨by omega, by omega⟩ rfl rfl (fun P145 hT146 f147 f148 f149 => mpp 69 rfl ?_)
          have k150 : KW [1112, 1115, 1117] Po P145 := KW.step k87 rl_301 rfl f148 f149
          have e151 : (fv P145 301 24).toInt = z142.toInt := congrArg Int32.toInt f147
          refine mp_a (a_aload_n dX7_readsMark_69 rfl) (mpp 70 rfl ?_)
          have e152 : (fv P145 301 29).toInt = (fv P82 301 29).toInt := congrArg Int32.toInt (f148 301 29 (ne_k rfl))
          refine mt_getI (i := 318) (k := 29) hT146 dX7_readsMark_70 rfl rl_301 (by decide) rfl (by decide) rfl (fun g153 g154 => mpp 73 rfl ?_)
          refine mp_Tb (t := 80) (j_if_lt dX7_readsMark_73) (by decide) (fun c155 => ?_) (fun c155 => mpp 76 rfl ?_)
          · have c155 : (fv P145 301 29).toInt < 0 := ti_lt c155
            refine mp_a (a_iconst (v := 0) dX7_readsMark_80 rfl) (mpp 81 rfl ?_)
            have e157 : (fv P33 301 24).toInt = (fv P21 301 24).toInt := congrArg Int32.toInt (f36 301 24 (by omega))
            have e158 : (fv P33 301 23).toInt = (fv P21 301 23).toInt := congrArg Int32.toInt (f36 301 23 (by omega))
            have e159 : (fv P82 301 24).toInt = (fv P54 301 24).toInt := congrArg Int32.toInt (f85 301 24 (by omega))
            have e160 : (fv P82 301 23).toInt = (fv P54 301 23).toInt := congrArg Int32.toInt (f85 301 23 (by omega))
            have e161 : (fv P5 301 23).toInt = (fv Po 301 23).toInt := congrArg Int32.toInt (KW.at k10 23 rl_301 rfl)
            have e162 : (fv P21 301 23).toInt = (fv P5 301 23).toInt := congrArg Int32.toInt (KW.at k26 23 rl_301 rfl)
            have e163 : (fv P54 301 23).toInt = (fv P33 301 23).toInt := congrArg Int32.toInt (KW.at k59 23 rl_301 rfl)
            have y164_ := g8
            have t166_ : chM P5 = chM Po := chM_eq (fun j => by rw [KW.at k10 j rl_314 rfl]) (by rw [KW.at k10 23 rl_301 rfl])
            have y165_ := g24
            rw [t166_, show (fv P5 301 24).toInt = (fv Po 301 24).toInt + 1 from by omega] at y165_
            have t168_ : chM P33 = chM Po := chM_eq (fun j => by rw [f36 314 j (by omega), KW.at k26 j rl_314 rfl, KW.at k10 j rl_314 rfl]) (by rw [f36 301 23 (by omega), KW.at k26 23 rl_301 rfl, KW.at k10 23 rl_301 rfl])
            have y167_ := g57
            rw [t168_, show (fv P33 301 24).toInt = (fv Po 301 24).toInt + 2 from by omega] at y167_
            have t170_ : chM P54 = chM Po := chM_eq (fun j => by rw [KW.at k59 j rl_314 rfl, f36 314 j (by omega), KW.at k26 j rl_314 rfl, KW.at k10 j rl_314 rfl]) (by rw [KW.at k59 23 rl_301 rfl, f36 301 23 (by omega), KW.at k26 23 rl_301 rfl, KW.at k10 23 rl_301 rfl])
            have y169_ := g73
            rw [t170_, show (fv P54 301 24).toInt = (fv Po 301 24).toInt + 3 from by omega] at y169_
            have u156 : 0 ≤ (0 : Int) ∧ (0 : Int) ≤ 1 ∧ (((fv Po 301 24).toInt ≤ (fv P145 301 24).toInt ∧ (fv P145 301 24).toInt ≤ (fv Po 301 23).toInt) ∧ (((0 : Int) = 1 ∧ ((chM Po (fv Po 301 24).toInt).toInt = 46 ∧ (48 ≤ (chM Po ((fv Po 301 24).toInt + 1)).toInt ∧ (chM Po ((fv Po 301 24).toInt + 1)).toInt ≤ 57) ∧ (chM Po ((fv Po 301 24).toInt + 2)).toInt = 61 ∧ ((chM Po ((fv Po 301 24).toInt + 3)).toInt = 111 ∨ (chM Po ((fv Po 301 24).toInt + 3)).toInt = 109 ∨ (chM Po ((fv Po 301 24).toInt + 3)).toInt = 118)) ∧ (fv P145 301 24).toInt = (fv Po 301 24).toInt + 4 ∧ (fv P145 301 27).toInt = (chM Po ((fv Po 301 24).toInt + 1)).toInt - 48 ∧ (fv P145 301 29).toInt = (kn (chM Po ((fv Po 301 24).toInt + 3)).toInt).toInt) ∨ ((0 : Int) = 0 ∧ ¬ ((chM Po (fv Po 301 24).toInt).toInt = 46 ∧ (48 ≤ (chM Po ((fv Po 301 24).toInt + 1)).toInt ∧ (chM Po ((fv Po 301 24).toInt + 1)).toInt ≤ 57) ∧ (chM Po ((fv Po 301 24).toInt + 2)).toInt = 61 ∧ ((chM Po ((fv Po 301 24).toInt + 3)).toInt = 111 ∨ (chM Po ((fv Po 301 24).toInt + 3)).toInt = 109 ∨ (chM Po ((fv Po 301 24).toInt + 3)).toInt = 118))))) := ⟨by omega, by omega, ⟨by omega, by omega⟩, Or.inr ⟨rfl, by omega⟩⟩
            exact mp_iret ⟨⟨_, rfl, u156⟩, hT146, k150, trivial⟩ dX7_readsMark_81 (Or.inr ⟨rfl, by decide⟩)
          · have c155 : (fv P145 301 29).toInt ≥ 0 := ti_lt_n c155
            refine mp_a (a_iconst (v := 1) dX7_readsMark_76 rfl) (mpp 77 rfl ?_)
            refine mp_a (a_goto (t := 81) dX7_readsMark_77 (by decide)) ?_
            have e172 : (fv P33 301 24).toInt = (fv P21 301 24).toInt := congrArg Int32.toInt (f36 301 24 (by omega))
            have e173 : (fv P33 301 23).toInt = (fv P21 301 23).toInt := congrArg Int32.toInt (f36 301 23 (by omega))
            have e174 : (fv P82 301 24).toInt = (fv P54 301 24).toInt := congrArg Int32.toInt (f85 301 24 (by omega))
            have e175 : (fv P82 301 23).toInt = (fv P54 301 23).toInt := congrArg Int32.toInt (f85 301 23 (by omega))
            have e176 : (fv P5 301 23).toInt = (fv Po 301 23).toInt := congrArg Int32.toInt (KW.at k10 23 rl_301 rfl)
            have e177 : (fv P21 301 23).toInt = (fv P5 301 23).toInt := congrArg Int32.toInt (KW.at k26 23 rl_301 rfl)
            have e178 : (fv P54 301 23).toInt = (fv P33 301 23).toInt := congrArg Int32.toInt (KW.at k59 23 rl_301 rfl)
            have y179_ := g8
            have t181_ : chM P5 = chM Po := chM_eq (fun j => by rw [KW.at k10 j rl_314 rfl]) (by rw [KW.at k10 23 rl_301 rfl])
            have y180_ := g24
            rw [t181_, show (fv P5 301 24).toInt = (fv Po 301 24).toInt + 1 from by omega] at y180_
            have t183_ : chM P33 = chM Po := chM_eq (fun j => by rw [f36 314 j (by omega), KW.at k26 j rl_314 rfl, KW.at k10 j rl_314 rfl]) (by rw [f36 301 23 (by omega), KW.at k26 23 rl_301 rfl, KW.at k10 23 rl_301 rfl])
            have y182_ := g57
            rw [t183_, show (fv P33 301 24).toInt = (fv Po 301 24).toInt + 2 from by omega] at y182_
            have t185_ : chM P54 = chM Po := chM_eq (fun j => by rw [KW.at k59 j rl_314 rfl, f36 314 j (by omega), KW.at k26 j rl_314 rfl, KW.at k10 j rl_314 rfl]) (by rw [KW.at k59 23 rl_301 rfl, f36 301 23 (by omega), KW.at k26 23 rl_301 rfl, KW.at k10 23 rl_301 rfl])
            have y184_ := g73
            rw [t185_, show (fv P54 301 24).toInt = (fv Po 301 24).toInt + 3 from by omega] at y184_
            have e186 : (fv P145 301 27).toInt = (fv P33 301 27).toInt := by rw [f148 301 27 (by omega), f85 301 27 (by omega), KW.at k59 27 rl_301 rfl]
            have e187 : (fv P145 301 29).toInt = (fv P82 301 29).toInt := by rw [f148 301 29 (by omega)]
            have w188_ : x79.toInt = (kn (chM Po ((fv Po 301 24).toInt + 3)).toInt).toInt := by rw [show (chM Po ((fv Po 301 24).toInt + 3)).toInt = x72.toInt from by omega]; exact (g80.resolve_right (by omega)).2.2
            have u171 : 0 ≤ (1 : Int) ∧ (1 : Int) ≤ 1 ∧ (((fv Po 301 24).toInt ≤ (fv P145 301 24).toInt ∧ (fv P145 301 24).toInt ≤ (fv Po 301 23).toInt) ∧ (((1 : Int) = 1 ∧ ((chM Po (fv Po 301 24).toInt).toInt = 46 ∧ (48 ≤ (chM Po ((fv Po 301 24).toInt + 1)).toInt ∧ (chM Po ((fv Po 301 24).toInt + 1)).toInt ≤ 57) ∧ (chM Po ((fv Po 301 24).toInt + 2)).toInt = 61 ∧ ((chM Po ((fv Po 301 24).toInt + 3)).toInt = 111 ∨ (chM Po ((fv Po 301 24).toInt + 3)).toInt = 109 ∨ (chM Po ((fv Po 301 24).toInt + 3)).toInt = 118)) ∧ (fv P145 301 24).toInt = (fv Po 301 24).toInt + 4 ∧ (fv P145 301 27).toInt = (chM Po ((fv Po 301 24).toInt + 1)).toInt - 48 ∧ (fv P145 301 29).toInt = (kn (chM Po ((fv Po 301 24).toInt + 3)).toInt).toInt) ∨ ((1 : Int) = 0 ∧ ¬ ((chM Po (fv Po 301 24).toInt).toInt = 46 ∧ (48 ≤ (chM Po ((fv Po 301 24).toInt + 1)).toInt ∧ (chM Po ((fv Po 301 24).toInt + 1)).toInt ≤ 57) ∧ (chM Po ((fv Po 301 24).toInt + 2)).toInt = 61 ∧ ((chM Po ((fv Po 301 24).toInt + 3)).toInt = 111 ∨ (chM Po ((fv Po 301 24).toInt + 3)).toInt = 109 ∨ (chM Po ((fv Po 301 24).toInt + 3)).toInt = 118))))) := ⟨by omega, by omega, ⟨by omega, by omega⟩, Or.inl ⟨rfl, by omega, by omega, by omega, by omega⟩⟩
            exact mp_iret ⟨⟨_, rfl, u171⟩, hT146, k150, trivial⟩ dX7_readsMark_81 (Or.inr ⟨rfl, by decide⟩)
      · have c68 : x56.toInt = 0 := ti_ne_n c68
        refine mp_a (a_iconst (v := 0) dX7_readsMark_35 rfl) (mpp 36 rfl ?_)
        have e190 : (fv P33 301 24).toInt = (fv P21 301 24).toInt := congrArg Int32.toInt (f36 301 24 (by omega))
        have e191 : (fv P33 301 23).toInt = (fv P21 301 23).toInt := congrArg Int32.toInt (f36 301 23 (by omega))
        have e192 : (fv P5 301 23).toInt = (fv Po 301 23).toInt := congrArg Int32.toInt (KW.at k10 23 rl_301 rfl)
        have e193 : (fv P21 301 23).toInt = (fv P5 301 23).toInt := congrArg Int32.toInt (KW.at k26 23 rl_301 rfl)
        have e194 : (fv P54 301 23).toInt = (fv P33 301 23).toInt := congrArg Int32.toInt (KW.at k59 23 rl_301 rfl)
        have y195_ := g8
        have t197_ : chM P5 = chM Po := chM_eq (fun j => by rw [KW.at k10 j rl_314 rfl]) (by rw [KW.at k10 23 rl_301 rfl])
        have y196_ := g24
        rw [t197_, show (fv P5 301 24).toInt = (fv Po 301 24).toInt + 1 from by omega] at y196_
        have t199_ : chM P33 = chM Po := chM_eq (fun j => by rw [f36 314 j (by omega), KW.at k26 j rl_314 rfl, KW.at k10 j rl_314 rfl]) (by rw [f36 301 23 (by omega), KW.at k26 23 rl_301 rfl, KW.at k10 23 rl_301 rfl])
        have y198_ := g57
        rw [t199_, show (fv P33 301 24).toInt = (fv Po 301 24).toInt + 2 from by omega] at y198_
        have u189 : 0 ≤ (0 : Int) ∧ (0 : Int) ≤ 1 ∧ (((fv Po 301 24).toInt ≤ (fv P54 301 24).toInt ∧ (fv P54 301 24).toInt ≤ (fv Po 301 23).toInt) ∧ (((0 : Int) = 1 ∧ ((chM Po (fv Po 301 24).toInt).toInt = 46 ∧ (48 ≤ (chM Po ((fv Po 301 24).toInt + 1)).toInt ∧ (chM Po ((fv Po 301 24).toInt + 1)).toInt ≤ 57) ∧ (chM Po ((fv Po 301 24).toInt + 2)).toInt = 61 ∧ ((chM Po ((fv Po 301 24).toInt + 3)).toInt = 111 ∨ (chM Po ((fv Po 301 24).toInt + 3)).toInt = 109 ∨ (chM Po ((fv Po 301 24).toInt + 3)).toInt = 118)) ∧ (fv P54 301 24).toInt = (fv Po 301 24).toInt + 4 ∧ (fv P54 301 27).toInt = (chM Po ((fv Po 301 24).toInt + 1)).toInt - 48 ∧ (fv P54 301 29).toInt = (kn (chM Po ((fv Po 301 24).toInt + 3)).toInt).toInt) ∨ ((0 : Int) = 0 ∧ ¬ ((chM Po (fv Po 301 24).toInt).toInt = 46 ∧ (48 ≤ (chM Po ((fv Po 301 24).toInt + 1)).toInt ∧ (chM Po ((fv Po 301 24).toInt + 1)).toInt ≤ 57) ∧ (chM Po ((fv Po 301 24).toInt + 2)).toInt = 61 ∧ ((chM Po ((fv Po 301 24).toInt + 3)).toInt = 111 ∨ (chM Po ((fv Po 301 24).toInt + 3)).toInt = 109 ∨ (chM Po ((fv Po 301 24).toInt + 3)).toInt = 118))))) := ⟨by omega, by omega, ⟨by omega, by omega⟩, Or.inr ⟨rfl, by omega⟩⟩
        exact mp_iret ⟨⟨_, rfl, u189⟩, hT58, k61, trivial⟩ dX7_readsMark_36 (Or.inr ⟨rfl, by decide⟩)
  · have c17 : x7.toInt = 0 := ti_ne_n c17
    refine mp_a (a_iconst (v := 0) dX7_readsMark_9 rfl) (mpp 10 rfl ?_)
    have e201 : (fv P5 301 23).toInt = (fv Po 301 23).toInt := congrArg Int32.toInt (KW.at k10 23 rl_301 rfl)
    have y202_ := g8
    have u200 : 0 ≤ (0 : Int) ∧ (0 : Int) ≤ 1 ∧ (((fv Po 301 24).toInt ≤ (fv P5 301 24).toInt ∧ (fv P5 301 24).toInt ≤ (fv Po 301 23).toInt) ∧ (((0 : Int) = 1 ∧ ((chM Po (fv Po 301 24).toInt).toInt = 46 ∧ (48 ≤ (chM Po ((fv Po 301 24).toInt + 1)).toInt ∧ (chM Po ((fv Po 301 24).toInt + 1)).toInt ≤ 57) ∧ (chM Po ((fv Po 301 24).toInt + 2)).toInt = 61 ∧ ((chM Po ((fv Po 301 24).toInt + 3)).toInt = 111 ∨ (chM Po ((fv Po 301 24).toInt + 3)).toInt = 109 ∨ (chM Po ((fv Po 301 24).toInt + 3)).toInt = 118)) ∧ (fv P5 301 24).toInt = (fv Po 301 24).toInt + 4 ∧ (fv P5 301 27).toInt = (chM Po ((fv Po 301 24).toInt + 1)).toInt - 48 ∧ (fv P5 301 29).toInt = (kn (chM Po ((fv Po 301 24).toInt + 3)).toInt).toInt) ∨ ((0 : Int) = 0 ∧ ¬ ((chM Po (fv Po 301 24).toInt).toInt = 46 ∧ (48 ≤ (chM Po ((fv Po 301 24).toInt + 1)).toInt ∧ (chM Po ((fv Po 301 24).toInt + 1)).toInt ≤ 57) ∧ (chM Po ((fv Po 301 24).toInt + 2)).toInt = 61 ∧ ((chM Po ((fv Po 301 24).toInt + 3)).toInt = 111 ∨ (chM Po ((fv Po 301 24).toInt + 3)).toInt = 109 ∨ (chM Po ((fv Po 301 24).toInt + 3)).toInt = 118))))) := ⟨by omega, by omega, ⟨by omega, by omega⟩, Or.inr ⟨rfl, by omega⟩⟩
    exact mp_iret ⟨⟨_, rfl, u200⟩, hT9, k12, trivial⟩ dX7_readsMark_10 (Or.inr ⟨rfl, by decide⟩)

