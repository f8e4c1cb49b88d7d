/-! methods on typed pools, 49 (written by a program) -/
set_option maxHeartbeats 4000000 in
theorem c_M_readsCommand {Po : mP}  (hT : Typ Po)  (hp0 : (fv Po 301 24).toInt ≤ (fv Po 301 23).toInt)  : EvP 4 217 [.ref 301] Po (fun r P' => (∃ x : Int32, r = some (.int x) ∧ (0 ≤ x.toInt ∧ x.toInt ≤ 1 ∧ (((fv Po 301 24).toInt ≤ (fv P' 301 24).toInt ∧ (fv P' 301 24).toInt ≤ (fv Po 301 23).toInt) ∧ ((x.toInt = 1 ∧ CMD (chM Po) (fv Po 301 24).toInt (fv P' 301 24).toInt (fv P' 301 25).toInt (fv P' 301 26).toInt (fv P' 301 27).toInt (fv P' 301 28).toInt (fv P' 301 29).toInt) ∨ (x.toInt = 0 ∧ ¬ CMO (chM Po) (fv Po 301 24).toInt))))) ∧ Typ P' ∧ KW [1112, 1113, 1114, 1115, 1116, 1117] Po P' ∧ True) := by
  refine EvP.of qm_217 (Nat.le_of_ble_eq_true rfl) rfl ?_
  show MEvP _ none q_217 0 [(0, .ref 301)] [] _ 0 0 _
  have g1 : (0 : Int) ≤ (fv Po 301 24).toInt ∧ (fv Po 301 24).toInt ≤ 81 := Typ.rng hT rl_301 (by decide) (by decide) rfl
  have g2 : (0 : Int) ≤ (fv Po 301 23).toInt ∧ (fv Po 301 23).toInt ≤ 80 := Typ.rng hT rl_301 (by decide) (by decide) rfl
  refine mp_a (a_aload_n dX7_readsCommand_0 rfl) (mpp 1 rfl ?_)
  refine mp_a (a_aload_n dX7_readsCommand_1 rfl) (mpp 2 rfl ?_)
  refine mt_callv (i := 297) (q' := q_218) (As := []) (rest := [.ref 301]) hT dX7_readsCommand_2 rfl qm_218 (by decide) rfl rl_301 (by decide) rfl (Nat.le_of_ble_eq_true rfl) rfl ⟨rfl, rfl⟩ ⟨Nat.le_of_ble_eq_true rfl, Nat.le_of_ble_eq_true rfl⟩ (EvP.mono (by decide) (c_M_sign hT )) (fun r3 P4 g5 => mpp 5 rfl ?_)
  obtain ⟨⟨x6, rfl, g7⟩, e8⟩ := g5
  have e8 := e8.symm
  subst e8
  have wx6 := ti_full x6
  replace g7 : (x6.toInt = -1 ∨ (fv Po 301 24).toInt + 1 ≤ (fv Po 301 23).toInt) ∧ x6.toInt = (chM Po (fv Po 301 24).toInt).toInt := g7
  show MEvP _ none q_217 5 [(0, .ref 301)] [.int x6, .ref 301] _ _ _ _
  refine mt_putI (i := 321) (k := 25) (x := x6) hT dX7_readsCommand_5 rfl rl_301 (by decide) rfl (by decide) rfl (ti_full x6) rfl rfl (fun P9 hT10 f11 f12 f13 => mpp 8 rfl ?_)
  have k14 : KW [1112, 1113, 1114, 1115, 1116, 1117] Po P9 := KW.step KW.refl rl_301 rfl f12 f13
  have e15 : (fv P9 301 25).toInt = x6.toInt := congrArg Int32.toInt f11
  refine mp_a (a_aload_n dX7_readsCommand_8 rfl) (mpp 9 rfl ?_)
  refine mt_getI (i := 321) (k := 25) hT10 dX7_readsCommand_9 rfl rl_301 (by decide) rfl (by decide) rfl (fun g16 g17 => mpp 12 rfl ?_)
  refine mp_a (a_bipush (v := 115) dX7_readsCommand_12 rfl) (mpp 14 rfl ?_)
  refine mp_Tb (t := 26) (j_icmp_eq dX7_readsCommand_14) (by decide) (fun c18 => ?_) (fun c18 => mpp 17 rfl ?_)
  · have c18 : (fv P9 301 25).toInt = 115 := ti_eq c18
    have e19 : (fv P9 301 24).toInt = (fv Po 301 24).toInt := congrArg Int32.toInt (f12 301 24 (by omega))
    refine mp_a (a_aload_n dX7_readsCommand_26 rfl) (mpp 27 rfl ?_)
    refine mp_t (s_dup dX7_readsCommand_27 rfl) (mpp 28 rfl ?_)
    have e20 : (fv P9 301 24).toInt = (fv Po 301 24).toInt := congrArg Int32.toInt (f12 301 24 (ne_k rfl))
    refine mt_getI (i := 294) (k := 24) hT10 dX7_readsCommand_28 rfl rl_301 (by decide) rfl (by decide) rfl (fun g21 g22 => mpp 31 rfl ?_)
    refine mp_a (a_iconst (v := 1) dX7_readsCommand_31 rfl) (mpp 32 rfl ?_)
    obtain ⟨z23, h24⟩ := ti_ex ((fv P9 301 24) + 1 : Int32)
    have wz23 := ti_full z23
    refine mp_t (s_iadd (v := z23) dX7_readsCommand_32 h24) (mpp 33 rfl ?_)
    try have e25 : z23.toInt = (fv P9 301 24).toInt + 1 := ti_addz h24 rfl rfl (by omega) (by omega)
    refine mt_putI (i := 294) (k := 24) (x := z23) hT10 dX7_readsCommand_33 rfl rl_301 (by decide) rfl (by decide) rfl ⟨by omega, by omega⟩ rfl rfl (fun P26 hT27 f28 f29 f30 => mpp 36 rfl ?_)
    have k31 : KW [1112, 1113, 1114, 1115, 1116, 1117] Po P26 := KW.step k14 rl_301 rfl f29 f30
    have e32 : (fv P26 301 24).toInt = z23.toInt := congrArg Int32.toInt f28
    refine mp_a (a_aload_n dX7_readsCommand_36 rfl) (mpp 37 rfl ?_)
    have e33 : (fv P26 301 23).toInt = (fv Po 301 23).toInt := congrArg Int32.toInt ((f29 301 23 (ne_k rfl)).trans (f12 301 23 (ne_k rfl)))
    have p34 : (fv P26 301 24).toInt ≤ (fv P26 301 23).toInt := by omega
    refine mt_callv (i := 324) (q' := q_219) (As := []) (rest := []) hT27 dX7_readsCommand_37 rfl qm_219 (by decide) rfl rl_301 (by decide) rfl (Nat.le_of_ble_eq_true rfl) rfl ⟨rfl, rfl⟩ ⟨Nat.le_of_ble_eq_true rfl, Nat.le_of_ble_eq_true rfl⟩ (EvP.mono (by decide) (c_M_readsSizes hT27 p34 )) (fun r35 P36 g37 => mpp 40 rfl ?_)
    obtain ⟨⟨x38, rfl, g39⟩, hT40, k41, R42⟩ := g37
    have k43 : KW [1112, 1113, 1114, 1115, 1116, 1117] Po P36 := KW.trans k31 k41 rfl
    have wx38 := ti_full x38
    replace g39 : 0 ≤ x38.toInt ∧ x38.toInt ≤ 1 ∧ (((fv P26 301 24).toInt ≤ (fv P36 301 24).toInt ∧ (fv P36 301 24).toInt ≤ (fv P26 301 23).toInt) ∧ ∃ k : Nat, RUN D1 (chM P26) (fv P26 301 24).toInt k ∧ (fv P36 301 24).toInt = (fv P26 301 24).toInt + (k : Int) ∧ fv P36 301 26 = szI (chM P26) (fv P26 301 24).toInt k ∧ ((x38.toInt = 1 ∧ 1 ≤ k) ∨ (x38.toInt = 0 ∧ k = 0))) := g39
    have g45 : (0 : Int) ≤ (fv P36 301 24).toInt ∧ (fv P36 301 24).toInt ≤ 81 := Typ.rng hT40 rl_301 (by decide) (by decide) rfl
    have g46 : (0 : Int) ≤ (fv P36 301 24).toInt ∧ (fv P36 301 24).toInt ≤ 81 := Typ.rng hT40 rl_301 (by decide) (by decide) rfl
    have g47 : (0 : Int) ≤ (fv P36 301 24).toInt ∧ (fv P36 301 24).toInt ≤ 81 := Typ.rng hT40 rl_301 (by decide) (by decide) rfl
    show MEvP _ none q_217 40 [(0, .ref 301)] [.int x38] _ _ _ _
    refine mp_Tb (t := 63) (j_if_eq dX7_readsCommand_40) (by decide) (fun c48 => ?_) (fun c48 => mpp 43 rfl ?_)
    · have c48 : x38.toInt = 0 := ti_eq c48
      refine mp_a (a_iconst (v := 0) dX7_readsCommand_63 rfl) (mpp 64 rfl ?_)
      have e49 : (fv P36 301 25).toInt = (fv P9 301 25).toInt := congrArg Int32.toInt ((KW.at k41 25 rl_301 rfl).trans (f29 301 25 (ne_k rfl)))
      have g50 := ti_full (fv P36 301 26)
      have g51 := ti_full (fv P36 301 27)
      have g52 := ti_full (fv P36 301 28)
      have g53 := ti_full (fv P36 301 29)
      have e56 : (fv P9 301 24).toInt = (fv Po 301 24).toInt := congrArg Int32.toInt (f12 301 24 (by omega))
      have e57 : (fv P9 301 23).toInt = (fv Po 301 23).toInt := congrArg Int32.toInt (f12 301 23 (by omega))
      have e58 : (fv P36 301 23).toInt = (fv P26 301 23).toInt := congrArg Int32.toInt (KW.at k41 23 rl_301 rfl)
      have y59_ := g7
      have t61_ : chM P26 = chM Po := chM_eq (fun j => by rw [f29 314 j (by omega), f12 314 j (by omega)]) (by rw [f29 301 23 (by omega), f12 301 23 (by omega)])
      have y60_ := g39
      rw [t61_, show (fv P26 301 24).toInt = (fv Po 301 24).toInt + 1 from by omega] at y60_
      obtain ⟨kw55_, rw55_, pw55_, vw55_, ow55_⟩ := y60_.2.2.2
      have u54 : 0 ≤ (0 : Int) ∧ (0 : Int) ≤ 1 ∧ (((fv Po 301 24).toInt ≤ (fv P36 301 24).toInt ∧ (fv P36 301 24).toInt ≤ (fv Po 301 23).toInt) ∧ (((0 : Int) = 1 ∧ CMD (chM Po) (fv Po 301 24).toInt (fv P36 301 24).toInt (fv P36 301 25).toInt (fv P36 301 26).toInt (fv P36 301 27).toInt (fv P36 301 28).toInt (fv P36 301 29).toInt) ∨ ((0 : Int) = 0 ∧ ¬ CMO (chM Po) (fv Po 301 24).toInt))) := ⟨by omega, by omega, ⟨by omega, by omega⟩, Or.inr ⟨rfl, fun ⟨i1, l1, a1, b1, n1, s1, q1, q2⟩ => by
          rcases q2 with ⟨q2, k2, m2, q3, q4, q5, q6, q7, q8⟩ | ⟨q2, q3, q4, q5, q6, q7, q8⟩ | ⟨q2, q3, q8⟩
          · have e := rw55_.uniq q5; omega
          · omega
          · omega⟩⟩
      exact mp_iret ⟨⟨_, rfl, u54⟩, hT40, k43, trivial⟩ dX7_readsCommand_64 (Or.inr ⟨rfl, by decide⟩)
    · have c48 : x38.toInt ≠ 0 := ti_eq_n c48
      refine mp_a (a_aload_n dX7_readsCommand_43 rfl) (mpp 44 rfl ?_)
      refine mp_a (a_bipush (v := 58) dX7_readsCommand_44 rfl) (mpp 46 rfl ?_)
      have p62 : 0 ≤ (58 : Int) := by omega
      refine mt_callv (i := 312) (q' := q_220) (As := [.int 58]) (rest := []) hT40 dX7_readsCommand_46 rfl qm_220 (by decide) rfl rl_301 (by decide) rfl (Nat.le_of_ble_eq_true rfl) rfl ⟨rfl, rfl⟩ ⟨Nat.le_of_ble_eq_true rfl, Nat.le_of_ble_eq_true rfl⟩ (EvP.mono (by decide) (c_M_takes hT40 p62 )) (fun r63 P64 g65 => mpp 49 rfl ?_)
      obtain ⟨⟨x66, rfl, g67⟩, hT68, k69, R70⟩ := g65
      have k71 : KW [1112, 1113, 1114, 1115, 1116, 1117] Po P64 := KW.trans k43 k69 rfl
      have wx66 := ti_full x66
      replace g67 : 0 ≤ x66.toInt ∧ x66.toInt ≤ 1 ∧ ((x66.toInt = 1 ∧ (chM P36 (fv P36 301 24).toInt).toInt = (58 : Int) ∧ (fv P64 301 24).toInt = (fv P36 301 24).toInt + 1 ∧ (fv P64 301 24).toInt ≤ (fv P36 301 23).toInt) ∨ (x66.toInt = 0 ∧ ¬ (chM P36 (fv P36 301 24).toInt).toInt = (58 : Int) ∧ (fv P64 301 24).toInt = (fv P36 301 24).toInt)) := g67
      have g73 : (0 : Int) ≤ (fv P64 301 24).toInt ∧ (fv P64 301 24).toInt ≤ 81 := Typ.rng hT68 rl_301 (by decide) (by decide) rfl
      have g74 : (0 : Int) ≤ (fv P64 301 24).toInt ∧ (fv P64 301 24).toInt ≤ 81 := Typ.rng hT68 rl_301 (by decide) (by decide) rfl
      have e75 : (fv P36 301 23).toInt = (fv P26 301 23).toInt := congrArg Int32.toInt (KW.at k41 23 rl_301 rfl)
      have g76 : (0 : Int) ≤ (fv P64 301 24).toInt ∧ (fv P64 301 24).toInt ≤ 81 := Typ.rng hT68 rl_301 (by decide) (by decide) rfl
      show MEvP _ none q_217 49 [(0, .ref 301)] [.int x66] _ _ _ _
      refine mp_Tb (t := 63) (j_if_eq dX7_readsCommand_49) (by decide) (fun c77 => ?_) (fun c77 => mpp 52 rfl ?_)
      · have c77 : x66.toInt = 0 := ti_eq c77
        refine mp_a (a_iconst (v := 0) dX7_readsCommand_63 rfl) (mpp 64 rfl ?_)
        have e78 : (fv P64 301 25).toInt = (fv P9 301 25).toInt := congrArg Int32.toInt ((KW.at k69 25 rl_301 rfl).trans ((KW.at k41 25 rl_301 rfl).trans (f29 301 25 (ne_k rfl))))
        have g79 := ti_full (fv P64 301 26)
        have g80 := ti_full (fv P64 301 27)
        have g81 := ti_full (fv P64 301 28)
        have g82 := ti_full (fv P64 301 29)
        have e85 : (fv P9 301 24).toInt = (fv Po 301 24).toInt := congrArg Int32.toInt (f12 301 24 (by omega))
        have e86 : (fv P9 301 23).toInt = (fv Po 301 23).toInt := congrArg Int32.toInt (f12 301 23 (by omega))
        have e87 : (fv P36 301 23).toInt = (fv P26 301 23).toInt := congrArg Int32.toInt (KW.at k41 23 rl_301 rfl)
        have e88 : (fv P64 301 23).toInt = (fv P36 301 23).toInt := congrArg Int32.toInt (KW.at k69 23 rl_301 rfl)
        have y89_ := g7
        have t91_ : chM P26 = chM Po := chM_eq (fun j => by rw [f29 314 j (by omega), f12 314 j (by omega)]) (by rw [f29 301 23 (by omega), f12 301 23 (by omega)])
        have y90_ := g39
        rw [t91_, show (fv P26 301 24).toInt = (fv Po 301 24).toInt + 1 from by omega] at y90_
        obtain ⟨kw84_, rw84_, pw84_, vw84_, ow84_⟩ := y90_.2.2.2
        have t93_ : chM P36 = chM Po := chM_eq (fun j => by rw [KW.at k41 j rl_314 rfl, f29 314 j (by omega), f12 314 j (by omega)]) (by rw [KW.at k41 23 rl_301 rfl, f29 301 23 (by omega), f12 301 23 (by omega)])
        have y92_ := g67
        rw [t93_, show (fv P36 301 24).toInt = (fv Po 301 24).toInt + 1 + (kw84_ : Int) from by omega] at y92_
        have u83 : 0 ≤ (0 : Int) ∧ (0 : Int) ≤ 1 ∧ (((fv Po 301 24).toInt ≤ (fv P64 301 24).toInt ∧ (fv P64 301 24).toInt ≤ (fv Po 301 23).toInt) ∧ (((0 : Int) = 1 ∧ CMD (chM Po) (fv Po 301 24).toInt (fv P64 301 24).toInt (fv P64 301 25).toInt (fv P64 301 26).toInt (fv P64 301 27).toInt (fv P64 301 28).toInt (fv P64 301 29).toInt) ∨ ((0 : Int) = 0 ∧ ¬ CMO (chM Po) (fv Po 301 24).toInt))) := ⟨by omega, by omega, ⟨by omega, by omega⟩, Or.inr ⟨rfl, fun ⟨i1, l1, a1, b1, n1, s1, q1, q2⟩ => by
            rcases q2 with ⟨q2, k2, m2, q3, q4, q5, q6, q7, q8⟩ | ⟨q2, q3, q4, q5, q6, q7, q8⟩ | ⟨q2, q3, q8⟩
            · have e := rw84_.uniq q5; subst e; omega
            · omega
            · omega⟩⟩
        exact mp_iret ⟨⟨_, rfl, u83⟩, hT68, k71, trivial⟩ dX7_readsCommand_64 (Or.inr ⟨rfl, by decide⟩)
      · have c77 : x66.toInt ≠ 0 := ti_eq_n c77
        refine mp_a (a_aload_n dX7_readsCommand_52 rfl) (mpp 53 rfl ?_)
        have e94 : (fv P64 301 23).toInt = (fv P36 301 23).toInt := congrArg Int32.toInt (KW.at k69 23 rl_301 rfl)
        have p95 : (fv P64 301 24).toInt ≤ (fv P64 301 23).toInt := by omega
        refine mt_callv (i := 327) (q' := q_221) (As := []) (rest := []) hT68 dX7_readsCommand_53 rfl qm_221 (by decide) rfl rl_301 (by decide) rfl (Nat.le_of_ble_eq_true rfl) rfl ⟨rfl, rfl⟩ ⟨Nat.le_of_ble_eq_true rfl, Nat.le_of_ble_eq_true rfl⟩ (EvP.mono (by decide) (c_M_readsSigns hT68 p95 )) (fun r96 P97 g98 => mpp 56 rfl ?_)
        obtain ⟨⟨x99, rfl, g100⟩, hT101, k102, R103⟩ := g98
        have k104 : KW [1112, 1113, 1114, 1115, 1116, 1117] Po P97 := KW.trans k71 k102 rfl
        have wx99 := ti_full x99
        replace g100 : 0 ≤ x99.toInt ∧ x99.toInt ≤ 1 ∧ (((fv P64 301 24).toInt ≤ (fv P97 301 24).toInt ∧ (fv P97 301 24).toInt ≤ (fv P64 301 23).toInt) ∧ ∃ k : Nat, RUN KK (chM P64) (fv P64 301 24).toInt k ∧ (fv P97 301 24).toInt = (fv P64 301 24).toInt + (k : Int) ∧ fv P97 301 27 = knV (chM P64) (fv P64 301 24).toInt k ∧ (fv P97 301 28).toInt = (k : Int) ∧ ((x99.toInt = 1 ∧ 1 ≤ k) ∨ (x99.toInt = 0 ∧ k = 0))) := g100
        have g106 : (0 : Int) ≤ (fv P97 301 24).toInt ∧ (fv P97 301 24).toInt ≤ 81 := Typ.rng hT101 rl_301 (by decide) (by decide) rfl
        have g107 : (0 : Int) ≤ (fv P97 301 24).toInt ∧ (fv P97 301 24).toInt ≤ 81 := Typ.rng hT101 rl_301 (by decide) (by decide) rfl
        have g108 : (0 : Int) ≤ (fv P97 301 24).toInt ∧ (fv P97 301 24).toInt ≤ 81 := Typ.rng hT101 rl_301 (by decide) (by decide) rfl
        have g109 := ti_full (fv P97 301 28)
        show MEvP _ none q_217 56 [(0, .ref 301)] [.int x99] _ _ _ _
        refine mp_Tb (t := 63) (j_if_eq dX7_readsCommand_56) (by decide) (fun c110 => ?_) (fun c110 => mpp 59 rfl ?_)
        · have c110 : x99.toInt = 0 := ti_eq c110
          refine mp_a (a_iconst (v := 0) dX7_readsCommand_63 rfl) (mpp 64 rfl ?_)
          have e111 : (fv P97 301 25).toInt = (fv P9 301 25).toInt := congrArg Int32.toInt ((KW.at k102 25 rl_301 rfl).trans ((KW.at k69 25 rl_301 rfl).trans ((KW.at k41 25 rl_301 rfl).trans (f29 301 25 (ne_k rfl)))))
          have g112 := ti_full (fv P97 301 26)
          have g113 := ti_full (fv P97 301 27)
          have g114 := ti_full (fv P97 301 29)
          have e117 : (fv P9 301 24).toInt = (fv Po 301 24).toInt := congrArg Int32.toInt (f12 301 24 (by omega))
          have e118 : (fv P9 301 23).toInt = (fv Po 301 23).toInt := congrArg Int32.toInt (f12 301 23 (by omega))
          have e119 : (fv P36 301 23).toInt = (fv P26 301 23).toInt := congrArg Int32.toInt (KW.at k41 23 rl_301 rfl)
          have e120 : (fv P64 301 23).toInt = (fv P36 301 23).toInt := congrArg Int32.toInt (KW.at k69 23 rl_301 rfl)
          have e121 : (fv P97 301 23).toInt = (fv P64 301 23).toInt := congrArg Int32.toInt (KW.at k102 23 rl_301 rfl)
          have y122_ := g7
          have t124_ : chM P26 = chM Po := chM_eq (fun j => by rw [f29 314 j (by omega), f12 314 j (by omega)]) (by rw [f29 301 23 (by omega), f12 301 23 (by omega)])
          have y123_ := g39
          rw [t124_, show (fv P26 301 24).toInt = (fv Po 301 24).toInt + 1 from by omega] at y123_
          obtain ⟨kw116_, rw116_, pw116_, vw116_, ow116_⟩ := y123_.2.2.2
          have t126_ : chM P36 = chM Po := chM_eq (fun j => by rw [KW.at k41 j rl_314 rfl, f29 314 j (by omega), f12 314 j (by omega)]) (by rw [KW.at k41 23 rl_301 rfl, f29 301 23 (by omega), f12 301 23 (by omega)])
          have y125_ := g67
          rw [t126_, show (fv P36 301 24).toInt = (fv Po 301 24).toInt + 1 + (kw116_ : Int) from by omega] at y125_
          have t128_ : chM P64 = chM Po := chM_eq (fun j => by rw [KW.at k69 j rl_314 rfl, KW.at k41 j rl_314 rfl, f29 314 j (by omega), f12 314 j (by omega)]) (by rw [KW.at k69 23 rl_301 rfl, KW.at k41 23 rl_301 rfl, f29 301 23 (by omega), f12 301 23 (by omega)])
          have y127_ := g100
          rw [t128_, show (fv P64 301 24).toInt = (fv Po 301 24).toInt + 2 + (kw116_ : Int) from by omega] at y127_
          obtain ⟨mw116_, uw116_, tw116_, ww116_, zw116_, yw116_⟩ := y127_.2.2.2
          have u115 : 0 ≤ (0 : Int) ∧ (0 : Int) ≤ 1 ∧ (((fv Po 301 24).toInt ≤ (fv P97 301 24).toInt ∧ (fv P97 301 24).toInt ≤ (fv Po 301 23).toInt) ∧ (((0 : Int) = 1 ∧ CMD (chM Po) (fv Po 301 24).toInt (fv P97 301 24).toInt (fv P97 301 25).toInt (fv P97 301 26).toInt (fv P97 301 27).toInt (fv P97 301 28).toInt (fv P97 301 29).toInt) ∨ ((0 : Int) = 0 ∧ ¬ CMO (chM Po) (fv Po 301 24).toInt))) := ⟨by omega, by omega, ⟨by omega, by omega⟩, Or.inr ⟨rfl, fun ⟨i1, l1, a1, b1, n1, s1, q1, q2⟩ => by
              rcases q2 with ⟨q2, k2, m2, q3, q4, q5, q6, q7, q8⟩ | ⟨q2, q3, q4, q5, q6, q7, q8⟩ | ⟨q2, q3, q8⟩
              · have e := rw116_.uniq q5; subst e; have e2 := uw116_.uniq q7; omega
              · omega
              · omega⟩⟩
          exact mp_iret ⟨⟨_, rfl, u115⟩, hT101, k104, trivial⟩ dX7_readsCommand_64 (Or.inr ⟨rfl, by decide⟩)
        · have c110 : x99.toInt ≠ 0 := ti_eq_n c110
          refine mp_a (a_iconst (v := 1) dX7_readsCommand_59 rfl) (mpp 60 rfl ?_)
          refine mp_a (a_goto (t := 64) dX7_readsCommand_60 (by decide)) ?_
          have e129 : (fv P97 301 25).toInt = (fv P9 301 25).toInt := congrArg Int32.toInt ((KW.at k102 25 rl_301 rfl).trans ((KW.at k69 25 rl_301 rfl).trans ((KW.at k41 25 rl_301 rfl).trans (f29 301 25 (ne_k rfl)))))
          have g130 := ti_full (fv P97 301 26)
          have g131 := ti_full (fv P97 301 27)
          have g132 := ti_full (fv P97 301 29)
          have e135 : (fv P9 301 24).toInt = (fv Po 301 24).toInt := congrArg Int32.toInt (f12 301 24 (by omega))
          have e136 : (fv P9 301 23).toInt = (fv Po 301 23).toInt := congrArg Int32.toInt (f12 301 23 (by omega))
          have e137 : (fv P36 301 23).toInt = (fv P26 301 23).toInt := congrArg Int32.toInt (KW.at k41 23 rl_301 rfl)
          have e138 : (fv P64 301 23).toInt = (fv P36 301 23).toInt := congrArg Int32.toInt (KW.at k69 23 rl_301 rfl)
          have e139 : (fv P97 301 23).toInt = (fv P64 301 23).toInt := congrArg Int32.toInt (KW.at k102 23 rl_301 rfl)
          have y140_ := g7
          have t142_ : chM P26 = chM Po := chM_eq (fun j => by rw [f29 314 j (by omega), f12 314 j (by omega)]) (by rw [f29 301 23 (by omega), f12 301 23 (by omega)])
          have y141_ := g39
          rw [t142_, show (fv P26 301 24).toInt = (fv Po 301 24).toInt + 1 from by omega] at y141_
          obtain ⟨kw134_, rw134_, pw134_, vw134_, ow134_⟩ := y141_.2.2.2
          have t144_ : chM P36 = chM Po := chM_eq (fun j => by rw [KW.at k41 j rl_314 rfl, f29 314 j (by omega), f12 314 j (by omega)]) (by rw [KW.at k41 23 rl_301 rfl, f29 301 23 (by omega), f12 301 23 (by omega)])
          have y143_ := g67
          rw [t144_, show (fv P36 301 24).toInt = (fv Po 301 24).toInt + 1 + (kw134_ : Int) from by omega] at y143_
          have t146_ : chM P64 = chM Po := chM_eq (fun j => by rw [KW.at k69 j rl_314 rfl, KW.at k41 j rl_314 rfl, f29 314 j (by omega), f12 314 j (by omega)]) (by rw [KW.at k69 23 rl_301 rfl, KW.at k41 23 rl_301 rfl, f29 301 23 (by omega), f12 301 23 (by omega)])
          have y145_ := g100
          rw [t146_, show (fv P64 301 24).toInt = (fv Po 301 24).toInt + 2 + (kw134_ : Int) from by omega] at y145_
          obtain ⟨mw134_, uw134_, tw134_, ww134_, zw134_, yw134_⟩ := y145_.2.2.2
          have e147 : (fv P97 301 26).toInt = (fv P36 301 26).toInt := by rw [KW.at k102 26 rl_301 rfl, KW.at k69 26 rl_301 rfl]
          have e148 : (fv P97 301 25).toInt = (fv P9 301 25).toInt := by rw [KW.at k102 25 rl_301 rfl, KW.at k69 25 rl_301 rfl, KW.at k41 25 rl_301 rfl, f29 301 25 (by omega)]
          have u133 : 0 ≤ (1 : Int) ∧ (1 : Int) ≤ 1 ∧ (((fv Po 301 24).toInt ≤ (fv P97 301 24).toInt ∧ (fv P97 301 24).toInt ≤ (fv Po 301 23).toInt) ∧ (((1 : Int) = 1 ∧ CMD (chM Po) (fv Po 301 24).toInt (fv P97 301 24).toInt (fv P97 301 25).toInt (fv P97 301 26).toInt (fv P97 301 27).toInt (fv P97 301 28).toInt (fv P97 301 29).toInt) ∨ ((1 : Int) = 0 ∧ ¬ CMO (chM Po) (fv Po 301 24).toInt))) := ⟨by omega, by omega, ⟨by omega, by omega⟩, Or.inl ⟨rfl, by omega, Or.inl ⟨by omega, kw134_, mw134_, by omega, by omega, rw134_, by omega, uw134_, by omega, e147.trans (congrArg Int32.toInt vw134_), congrArg Int32.toInt ww134_, by omega⟩⟩⟩
          exact mp_iret ⟨⟨_, rfl, u133⟩, hT101, k104, trivial⟩ dX7_readsCommand_64 (Or.inr ⟨rfl, by decide⟩)
  · have c18 : (fv P9 301 25).toInt ≠ 115 := ti_eq_n c18
    refine mp_a (a_aload_n dX7_readsCommand_17 rfl) (mpp 18 rfl ?_)
    refine mt_getI (i := 321) (k := 25) hT10 dX7_readsCommand_18 rfl rl_301 (by decide) rfl (by decide) rfl (fun g149 g150 => mpp 21 rfl ?_)
    refine mp_a (a_bipush (v := 99) dX7_readsCommand_21 rfl) (mpp 23 rfl ?_)
    refine mp_Tb (t := 65) (j_icmp_ne dX7_readsCommand_23) (by decide) (fun c151 => ?_) (fun c151 => mpp 26 rfl ?_)
    · have c151 : (fv P9 301 25).toInt ≠ 99 := ti_ne c151
      refine mp_a (a_aload_n dX7_readsCommand_65 rfl) (mpp 66 rfl ?_)
      refine mt_getI (i := 321) (k := 25) hT10 dX7_readsCommand_66 rfl rl_301 (by decide) rfl (by decide) rfl (fun g152 g153 => mpp 69 rfl ?_)
      refine mp_a (a_bipush (v := 109) dX7_readsCommand_69 rfl) (mpp 71 rfl ?_)
      refine mp_Tb (t := 112) (j_icmp_eq dX7_readsCommand_71) (by decide) (fun c154 => ?_) (fun c154 => mpp 74 rfl ?_)
      · have c154 : (fv P9 301 25).toInt = 109 := ti_eq c154
        have e155 : (fv P9 301 24).toInt = (fv Po 301 24).toInt := congrArg Int32.toInt (f12 301 24 (by omega))
        refine mp_a (a_aload_n dX7_readsCommand_112 rfl) (mpp 113 rfl ?_)
        refine mp_t (s_dup dX7_readsCommand_113 rfl) (mpp 114 rfl ?_)
        have e156 : (fv P9 301 24).toInt = (fv Po 301 24).toInt := congrArg Int32.toInt (f12 301 24 (ne_k rfl))
        refine mt_getI (i := 294) (k := 24) hT10 dX7_readsCommand_114 rfl rl_301 (by decide) rfl (by decide) rfl (fun g157 g158 => mpp 117 rfl ?_)
        refine mp_a (a_iconst (v := 1) dX7_readsCommand_117 rfl) (mpp 118 rfl ?_)
        obtain ⟨z159, h160⟩ := ti_ex ((fv P9 301 24) + 1 : Int32)
        have wz159 := ti_full z159
        refine mp_t (s_iadd (v := z159) dX7_readsCommand_118 h160) (mpp 119 rfl ?_)
        try have e161 : z159.toInt = (fv P9 301 24).toInt + 1 := ti_addz h160 rfl rfl (by omega) (by omega)
        refine mt_putI (i := 294) (k := 24) (x := z159) hT10 dX7_readsCommand_119 rfl rl_301 (by decide) rfl (by decide) rfl ⟨by omega, by omega⟩ rfl rfl (fun P162 hT163 f164 f165 f166 => mpp 122 rfl ?_)
        have k167 : KW [1112, 1113, 1114, 1115, 1116, 1117] Po P162 := KW.step k14 rl_301 rfl f165 f166
        have e168 : (fv P162 301 24).toInt = z159.toInt := congrArg Int32.toInt f164
        refine mp_a (a_aload_n dX7_readsCommand_122 rfl) (mpp 123 rfl ?_)
        refine mp_a (a_aload_n dX7_readsCommand_123 rfl) (mpp 124 rfl ?_)
        have e169 : (fv P162 301 23).toInt = (fv Po 301 23).toInt := congrArg Int32.toInt ((f165 301 23 (ne_k rfl)).trans (f12 301 23 (ne_k rfl)))
        have p170 : (fv P162 301 24).toInt ≤ (fv P162 301 23).toInt := by omega
        refine mt_callv (i := 315) (q' := q_223) (As := []) (rest := [.ref 301]) hT163 dX7_readsCommand_124 rfl qm_223 (by decide) rfl rl_301 (by decide) rfl (Nat.le_of_ble_eq_true rfl) rfl ⟨rfl, rfl⟩ ⟨Nat.le_of_ble_eq_true rfl, Nat.le_of_ble_eq_true rfl⟩ (EvP.mono (by decide) (c_M_digit hT163 p170 )) (fun r171 P172 g173 => mpp 127 rfl ?_)
        obtain ⟨⟨x174, rfl, g175⟩, hT176, k177, R178⟩ := g173
        have k179 : KW [1112, 1113, 1114, 1115, 1116, 1117] Po P172 := KW.trans k167 k177 rfl
        have wx174 := ti_full x174
        replace g175 : ((fv P162 301 24).toInt ≤ (fv P172 301 24).toInt ∧ (fv P172 301 24).toInt ≤ (fv P162 301 23).toInt) ∧ (((48 ≤ (chM P162 (fv P162 301 24).toInt).toInt ∧ (chM P162 (fv P162 301 24).toInt).toInt ≤ 57) ∧ x174.toInt = (chM P162 (fv P162 301 24).toInt).toInt - 48 ∧ (fv P172 301 24).toInt = (fv P162 301 24).toInt + 1) ∨ (¬ (48 ≤ (chM P162 (fv P162 301 24).toInt).toInt ∧ (chM P162 (fv P162 301 24).toInt).toInt ≤ 57) ∧ x174.toInt = -1)) := g175
        have g181 : (0 : Int) ≤ (fv P172 301 24).toInt ∧ (fv P172 301 24).toInt ≤ 81 := Typ.rng hT176 rl_301 (by decide) (by decide) rfl
        have g182 : (0 : Int) ≤ (fv P172 301 24).toInt ∧ (fv P172 301 24).toInt ≤ 81 := Typ.rng hT176 rl_301 (by decide) (by decide) rfl
        have g183 : (0 : Int) ≤ (fv P172 301 24).toInt ∧ (fv P172 301 24).toInt ≤ 81 := Typ.rng hT176 rl_301 (by decide) (by decide) rfl
        show MEvP _ none q_217 127 [(0, .ref 301)] [.int x174, .ref 301] _ _ _ _
        refine mt_putI (i := 300) (k := 26) (x := x174) hT176 dX7_readsCommand_127 rfl rl_301 (by decide) rfl (by decide) rfl (ti_full x174) rfl rfl (fun P184 hT185 f186 f187 f188 => mpp 130 rfl ?_)
        have k189 : KW [1112, 1113, 1114, 1115, 1116, 1117] Po P184 := KW.step k179 rl_301 rfl f187 f188
        have e190 : (fv P184 301 26).toInt = x174.toInt := congrArg Int32.toInt f186
        refine mp_a (a_aload_n dX7_readsCommand_130 rfl) (mpp 131 rfl ?_)
        refine mt_getI (i := 300) (k := 26) hT185 dX7_readsCommand_131 rfl rl_301 (by decide) rfl (by decide) rfl (fun g191 g192 => mpp 134 rfl ?_)
        refine mp_Tb (t := 157) (j_if_lt dX7_readsCommand_134) (by decide) (fun c193 => ?_) (fun c193 => mpp 137 rfl ?_)
        · have c193 : (fv P184 301 26).toInt < 0 := ti_lt c193
          refine mp_a (a_iconst (v := 0) dX7_readsCommand_157 rfl) (mpp 158 rfl ?_)
          have e194 : (fv P184 301 24).toInt = (fv P172 301 24).toInt := congrArg Int32.toInt (f187 301 24 (ne_k rfl))
          have e195 : (fv P184 301 25).toInt = (fv P9 301 25).toInt := congrArg Int32.toInt ((f187 301 25 (ne_k rfl)).trans ((KW.at k177 25 rl_301 rfl).trans (f165 301 25 (ne_k rfl))))
          have g196 := ti_full (fv P184 301 27)
          have g197 := ti_full (fv P184 301 28)
          have g198 := ti_full (fv P184 301 29)
          have e201 : (fv P9 301 24).toInt = (fv Po 301 24).toInt := congrArg Int32.toInt (f12 301 24 (by omega))
          have e202 : (fv P9 301 23).toInt = (fv Po 301 23).toInt := congrArg Int32.toInt (f12 301 23 (by omega))
          have e203 : (fv P184 301 24).toInt = (fv P172 301 24).toInt := congrArg Int32.toInt (f187 301 24 (by omega))
          have e204 : (fv P184 301 23).toInt = (fv P172 301 23).toInt := congrArg Int32.toInt (f187 301 23 (by omega))
          have e205 : (fv P172 301 23).toInt = (fv P162 301 23).toInt := congrArg Int32.toInt (KW.at k177 23 rl_301 rfl)
          have y206_ := g7
          have t208_ : chM P162 = chM Po := chM_eq (fun j => by rw [f165 314 j (by omega), f12 314 j (by omega)]) (by rw [f165 301 23 (by omega), f12 301 23 (by omega)])
          have y207_ := g175
          rw [t208_, show (fv P162 301 24).toInt = (fv Po 301 24).toInt + 1 from by omega] at y207_
          have u199 : 0 ≤ (0 : Int) ∧ (0 : Int) ≤ 1 ∧ (((fv Po 301 24).toInt ≤ (fv P184 301 24).toInt ∧ (fv P184 301 24).toInt ≤ (fv Po 301 23).toInt) ∧ (((0 : Int) = 1 ∧ CMD (chM Po) (fv Po 301 24).toInt (fv P184 301 24).toInt (fv P184 301 25).toInt (fv P184 301 26).toInt (fv P184 301 27).toInt (fv P184 301 28).toInt (fv P184 301 29).toInt) ∨ ((0 : Int) = 0 ∧ ¬ CMO (chM Po) (fv Po 301 24).toInt))) := ⟨by omega, by omega, ⟨by omega, by omega⟩, Or.inr ⟨rfl, fun ⟨i1, l1, a1, b1, n1, s1, q1, q2⟩ => by
              rcases q2 with ⟨q2, k2, m2, q3, q4, q5, q6, q7, q8⟩ | ⟨q2, q3, q4, q5, q6, q7, q8⟩ | ⟨q2, q3, q8⟩ <;> omega⟩⟩
          exact mp_iret ⟨⟨_, rfl, u199⟩, hT185, k189, trivial⟩ dX7_readsCommand_158 (Or.inr ⟨rfl, by decide⟩)
        · have c193 : (fv P184 301 26).toInt ≥ 0 := ti_lt_n c193
          refine mp_a (a_aload_n dX7_readsCommand_137 rfl) (mpp 138 rfl ?_)
          have e209 : (fv P184 301 25).toInt = (fv P9 301 25).toInt := congrArg Int32.toInt ((f187 301 25 (ne_k rfl)).trans ((KW.at k177 25 rl_301 rfl).trans (f165 301 25 (ne_k rfl))))
          refine mt_getI (i := 321) (k := 25) hT185 dX7_readsCommand_138 rfl rl_301 (by decide) rfl (by decide) rfl (fun g210 g211 => mpp 141 rfl ?_)
          refine mp_a (a_bipush (v := 109) dX7_readsCommand_141 rfl) (mpp 143 rfl ?_)
          refine mp_Tb (t := 153) (j_icmp_ne dX7_readsCommand_143) (by decide) (fun c212 => ?_) (fun c212 => mpp 146 rfl ?_)
          · have c212 : (fv P184 301 25).toInt ≠ 109 := ti_ne c212
            refine mp_a (a_iconst (v := 1) dX7_readsCommand_153 rfl) (mpp 154 rfl ?_)
            refine mp_a (a_goto (t := 158) dX7_readsCommand_154 (by decide)) ?_
            have e213 : (fv P184 301 24).toInt = (fv P172 301 24).toInt := congrArg Int32.toInt (f187 301 24 (ne_k rfl))
            have g214 := ti_full (fv P184 301 27)
            have g215 := ti_full (fv P184 301 28)
            have g216 := ti_full (fv P184 301 29)
            have e219 : (fv P9 301 24).toInt = (fv Po 301 24).toInt := congrArg Int32.toInt (f12 301 24 (by omega))
            have e220 : (fv P9 301 23).toInt = (fv Po 301 23).toInt := congrArg Int32.toInt (f12 301 23 (by omega))
            have e221 : (fv P184 301 24).toInt = (fv P172 301 24).toInt := congrArg Int32.toInt (f187 301 24 (by omega))
            have e222 : (fv P184 301 23).toInt = (fv P172 301 23).toInt := congrArg Int32.toInt (f187 301 23 (by omega))
            have e223 : (fv P172 301 23).toInt = (fv P162 301 23).toInt := congrArg Int32.toInt (KW.at k177 23 rl_301 rfl)
            have y224_ := g7
            have t226_ : chM P162 = chM Po := chM_eq (fun j => by rw [f165 314 j (by omega), f12 314 j (by omega)]) (by rw [f165 301 23 (by omega), f12 301 23 (by omega)])
            have y225_ := g175
            rw [t226_, show (fv P162 301 24).toInt = (fv Po 301 24).toInt + 1 from by omega] at y225_
            have e227 : (fv P184 301 26).toInt = (fv P184 301 26).toInt := rfl
            have e228 : (fv P184 301 25).toInt = (fv P9 301 25).toInt := by rw [f187 301 25 (by omega), KW.at k177 25 rl_301 rfl, f165 301 25 (by omega)]
            have u217 : 0 ≤ (1 : Int) ∧ (1 : Int) ≤ 1 ∧ (((fv Po 301 24).toInt ≤ (fv P184 301 24).toInt ∧ (fv P184 301 24).toInt ≤ (fv Po 301 23).toInt) ∧ (((1 : Int) = 1 ∧ CMD (chM Po) (fv Po 301 24).toInt (fv P184 301 24).toInt (fv P184 301 25).toInt (fv P184 301 26).toInt (fv P184 301 27).toInt (fv P184 301 28).toInt (fv P184 301 29).toInt) ∨ ((1 : Int) = 0 ∧ ¬ CMO (chM Po) (fv Po 301 24).toInt))) := ⟨by omega, by omega, ⟨by omega, by omega⟩, Or.inl ⟨rfl, by omega, Or.inr (Or.inr ⟨by omega, ⟨by omega, by omega⟩, by omega, by omega⟩)⟩⟩
            exact mp_iret ⟨⟨_, rfl, u217⟩, hT185, k189, trivial⟩ dX7_readsCommand_158 (Or.inr ⟨rfl, by decide⟩)
          · have c212 : (fv P184 301 25).toInt = 109 := ti_ne_n c212
            refine mp_a (a_aload_n dX7_readsCommand_146 rfl) (mpp 147 rfl ?_)
            have e229 : (fv P184 301 24).toInt = (fv P172 301 24).toInt := congrArg Int32.toInt (f187 301 24 (ne_k rfl))
            have e230 : (fv P184 301 23).toInt = (fv P162 301 23).toInt := congrArg Int32.toInt ((f187 301 23 (ne_k rfl)).trans (KW.at k177 23 rl_301 rfl))
            have p231 : (fv P184 301 24).toInt ≤ (fv P184 301 23).toInt := by omega
            refine mt_callv (i := 330) (q' := q_224) (As := []) (rest := []) hT185 dX7_readsCommand_147 rfl qm_224 (by decide) rfl rl_301 (by decide) rfl (Nat.le_of_ble_eq_true rfl) rfl ⟨rfl, rfl⟩ ⟨Nat.le_of_ble_eq_true rfl, Nat.le_of_ble_eq_true rfl⟩ (EvP.mono (by decide) (c_M_readsMark hT185 p231 )) (fun r232 P233 g234 => mpp 150 rfl ?_)
            obtain ⟨⟨x235, rfl, g236⟩, hT237, k238, R239⟩ := g234
            have k240 : KW [1112, 1113, 1114, 1115, 1116, 1117] Po P233 := KW.trans k189 k238 rfl
            have wx235 := ti_full x235
            replace g236 : 0 ≤ x235.toInt ∧ x235.toInt ≤ 1 ∧ (((fv P184 301 24).toInt ≤ (fv P233 301 24).toInt ∧ (fv P233 301 24).toInt ≤ (fv P184 301 23).toInt) ∧ ((x235.toInt = 1 ∧ ((chM P184 (fv P184 301 24).toInt).toInt = 46 ∧ (48 ≤ (chM P184 ((fv P184 301 24).toInt + 1)).toInt ∧ (chM P184 ((fv P184 301 24).toInt + 1)).toInt ≤ 57) ∧ (chM P184 ((fv P184 301 24).toInt + 2)).toInt = 61 ∧ ((chM P184 ((fv P184 301 24).toInt + 3)).toInt = 111 ∨ (chM P184 ((fv P184 301 24).toInt + 3)).toInt = 109 ∨ (chM P184 ((fv P184 301 24).toInt + 3)).toInt = 118)) ∧ (fv P233 301 24).toInt = (fv P184 301 24).toInt + 4 ∧ (fv P233 301 27).toInt = (chM P184 ((fv P184 301 24).toInt + 1)).toInt - 48 ∧ (fv P233 301 29).toInt = (kn (chM P184 ((fv P184 301 24).toInt + 3)).toInt).toInt) ∨ (x235.toInt = 0 ∧ ¬ ((chM P184 (fv P184 301 24).toInt).toInt = 46 ∧ (48 ≤ (chM P184 ((fv P184 301 24).toInt + 1)).toInt ∧ (chM P184 ((fv P184 301 24).toInt + 1)).toInt ≤ 57) ∧ (chM P184 ((fv P184 301 24).toInt + 2)).toInt = 61 ∧ ((chM P184 ((fv P184 301 24).toInt + 3)).toInt = 111 ∨ (chM P184 ((fv P184 301 24).toInt + 3)).toInt = 109 ∨ (chM P184 ((fv P184 301 24).toInt + 3)).toInt = 118))))) := g236
            have g242 : (0 : Int) ≤ (fv P233 301 24).toInt ∧ (fv P233 301 24).toInt ≤ 81 := Typ.rng hT237 rl_301 (by decide) (by decide) rfl
            have g243 : (0 : Int) ≤ (fv P233 301 24).toInt ∧ (fv P233 301 24).toInt ≤ 81 := Typ.rng hT237 rl_301 (by decide) (by decide) rfl
            have g244 : (0 : Int) ≤ (fv P233 301 24).toInt ∧ (fv P233 301 24).toInt ≤ 81 := Typ.rng hT237 rl_301 (by decide) (by decide) rfl
            show MEvP _ none q_217 150 [(0, .ref 301)] [.int x235] _ _ _ _
            refine mp_Tb (t := 157) (j_if_eq dX7_readsCommand_150) (by decide) (fun c245 => ?_) (fun c245 => mpp 153 rfl ?_)
            · have c245 : x235.toInt = 0 := ti_eq c245
              refine mp_a (a_iconst (v := 0) dX7_readsCommand_157 rfl) (mpp 158 rfl ?_)
              have e246 : (fv P233 301 25).toInt = (fv P184 301 25).toInt := congrArg Int32.toInt (KW.at k238 25 rl_301 rfl)
              have e247 : (fv P233 301 26).toInt = (fv P184 301 26).toInt := congrArg Int32.toInt (KW.at k238 26 rl_301 rfl)
              have g248 := ti_full (fv P233 301 27)
              have g249 := ti_full (fv P233 301 28)
              have g250 := ti_full (fv P233 301 29)
              have e253 : (fv P9 301 24).toInt = (fv Po 301 24).toInt := congrArg Int32.toInt (f12 301 24 (by omega))
              have e254 : (fv P9 301 23).toInt = (fv Po 301 23).toInt := congrArg Int32.toInt (f12 301 23 (by omega))
              have e255 : (fv P184 301 24).toInt = (fv P172 301 24).toInt := congrArg Int32.toInt (f187 301 24 (by omega))
              have e256 : (fv P184 301 23).toInt = (fv P172 301 23).toInt := congrArg Int32.toInt (f187 301 23 (by omega))
              have e257 : (fv P172 301 23).toInt = (fv P162 301 23).toInt := congrArg Int32.toInt (KW.at k177 23 rl_301 rfl)
              have e258 : (fv P233 301 23).toInt = (fv P184 301 23).toInt := congrArg Int32.toInt (KW.at k238 23 rl_301 rfl)
              have y259_ := g7
              have t261_ : chM P162 = chM Po := chM_eq (fun j => by rw [f165 314 j (by omega), f12 314 j (by omega)]) (by rw [f165 301 23 (by omega), f12 301 23 (by omega)])
              have y260_ := g175
              rw [t261_, show (fv P162 301 24).toInt = (fv Po 301 24).toInt + 1 from by omega] at y260_
              have t263_ : chM P184 = chM Po := chM_eq (fun j => by rw [f187 314 j (by omega), KW.at k177 j rl_314 rfl, f165 314 j (by omega), f12 314 j (by omega)]) (by rw [f187 301 23 (by omega), KW.at k177 23 rl_301 rfl, f165 301 23 (by omega), f12 301 23 (by omega)])
              have y262_ := g236
              rw [t263_, show (fv P184 301 24).toInt = (fv Po 301 24).toInt + 2 from by omega] at y262_
              rw [show (fv Po 301 24).toInt + 2 + 1 = (fv Po 301 24).toInt + 3 from by omega, show (fv Po 301 24).toInt + 2 + 2 = (fv Po 301 24).toInt + 4 from by omega, show (fv Po 301 24).toInt + 2 + 3 = (fv Po 301 24).toInt + 5 from by omega] at y262_
              have u251 : 0 ≤ (0 : Int) ∧ (0 : Int) ≤ 1 ∧ (((fv Po 301 24).toInt ≤ (fv P233 301 24).toInt ∧ (fv P233 301 24).toInt ≤ (fv Po 301 23).toInt) ∧ (((0 : Int) = 1 ∧ CMD (chM Po) (fv Po 301 24).toInt (fv P233 301 24).toInt (fv P233 301 25).toInt (fv P233 301 26).toInt (fv P233 301 27).toInt (fv P233 301 28).toInt (fv P233 301 29).toInt) ∨ ((0 : Int) = 0 ∧ ¬ CMO (chM Po) (fv Po 301 24).toInt))) := ⟨by omega, by omega, ⟨by omega, by omega⟩, Or.inr ⟨rfl, fun ⟨i1, l1, a1, b1, n1, s1, q1, q2⟩ => by
                  rcases q2 with ⟨q2, k2, m2, q3, q4, q5, q6, q7, q8⟩ | ⟨q2, q3, q4, q5, q6, q7, q8⟩ | ⟨q2, q3, q8⟩ <;> omega⟩⟩
              exact mp_iret ⟨⟨_, rfl, u251⟩, hT237, k240, trivial⟩ dX7_readsCommand_158 (Or.inr ⟨rfl, by decide⟩)
            · have c245 : x235.toInt ≠ 0 := ti_eq_n c245
              refine mp_a (a_iconst (v := 1) dX7_readsCommand_153 rfl) (mpp 154 rfl ?_)
              refine mp_a (a_goto (t := 158) dX7_readsCommand_154 (by decide)) ?_
              have e264 : (fv P233 301 25).toInt = (fv P184 301 25).toInt := congrArg Int32.toInt (KW.at k238 25 rl_301 rfl)
              have e265 : (fv P233 301 26).toInt = (fv P184 301 26).toInt := congrArg Int32.toInt (KW.at k238 26 rl_301 rfl)
              have g266 := ti_full (fv P233 301 27)
              have g267 := ti_full (fv P233 301 28)
              have g268 := ti_full (fv P233 301 29)
              have e271 : (fv P9 301 24).toInt = (fv Po 301 24).toInt := congrArg Int32.toInt (f12 301 24 (by omega))
              have e272 : (fv P9 301 23).toInt = (fv Po 301 23).toInt := congrArg Int32.toInt (f12 301 23 (by omega))
              have e273 : (fv P184 301 24).toInt = (fv P172 301 24).toInt := congrArg Int32.toInt (f187 301 24 (by omega))
              have e274 : (fv P184 301 23).toInt = (fv P172 301 23).toInt := congrArg Int32.toInt (f187 301 23 (by omega))
              have e275 : (fv P172 301 23).toInt = (fv P162 301 23).toInt := congrArg Int32.toInt (KW.at k177 23 rl_301 rfl)
              have e276 : (fv P233 301 23).toInt = (fv P184 301 23).toInt := congrArg Int32.toInt (KW.at k238 23 rl_301 rfl)
              have y277_ := g7
              have t279_ : chM P162 = chM Po := chM_eq (fun j => by rw [f165 314 j (by omega), f12 314 j (by omega)]) (by rw [f165 301 23 (by omega), f12 301 23 (by omega)])
              have y278_ := g175
              rw [t279_, show (fv P162 301 24).toInt = (fv Po 301 24).toInt + 1 from by omega] at y278_
              have t281_ : chM P184 = chM Po := chM_eq (fun j => by rw [f187 314 j (by omega), KW.at k177 j rl_314 rfl, f165 314 j (by omega), f12 314 j (by omega)]) (by rw [f187 301 23 (by omega), KW.at k177 23 rl_301 rfl, f165 301 23 (by omega), f12 301 23 (by omega)])
              have y280_ := g236
              rw [t281_, show (fv P184 301 24).toInt = (fv Po 301 24).toInt + 2 from by omega] at y280_
              rw [show (fv Po 301 24).toInt + 2 + 1 = (fv Po 301 24).toInt + 3 from by omega, show (fv Po 301 24).toInt + 2 + 2 = (fv Po 301 24).toInt + 4 from by omega, show (fv Po 301 24).toInt + 2 + 3 = (fv Po 301 24).toInt + 5 from by omega] at y280_
              have e282 : (fv P233 301 26).toInt = (fv P184 301 26).toInt := by rw [KW.at k238 26 rl_301 rfl]
              have e283 : (fv P233 301 25).toInt = (fv P9 301 25).toInt := by rw [KW.at k238 25 rl_301 rfl, f187 301 25 (by omega), KW.at k177 25 rl_301 rfl, f165 301 25 (by omega)]
              have u269 : 0 ≤ (1 : Int) ∧ (1 : Int) ≤ 1 ∧ (((fv Po 301 24).toInt ≤ (fv P233 301 24).toInt ∧ (fv P233 301 24).toInt ≤ (fv Po 301 23).toInt) ∧ (((1 : Int) = 1 ∧ CMD (chM Po) (fv Po 301 24).toInt (fv P233 301 24).toInt (fv P233 301 25).toInt (fv P233 301 26).toInt (fv P233 301 27).toInt (fv P233 301 28).toInt (fv P233 301 29).toInt) ∨ ((1 : Int) = 0 ∧ ¬ CMO (chM Po) (fv Po 301 24).toInt))) := ⟨by omega, by omega, ⟨by omega, by omega⟩, Or.inl ⟨rfl, by omega, Or.inr (Or.inl ⟨by omega, ⟨by omega, by omega⟩, by omega, ⟨by omega, by omega⟩, by omega, by have q : ((chM Po ((fv Po 301 24).toInt + 5)).toInt = 111 ∨ (chM Po ((fv Po 301 24).toInt + 5)).toInt = 109 ∨ (chM Po ((fv Po 301 24).toInt + 5)).toInt = 118) := (by omega); exact q, by omega, by omega, by omega, by omega⟩)⟩⟩
              exact mp_iret ⟨⟨_, rfl, u269⟩, hT237, k240, trivial⟩ dX7_readsCommand_158 (Or.inr ⟨rfl, by decide⟩)
      · have c154 : (fv P9 301 25).toInt ≠ 109 := ti_eq_n c154
        refine mp_a (a_aload_n dX7_readsCommand_74 rfl) (mpp 75 rfl ?_)
        refine mt_getI (i := 321) (k := 25) hT10 dX7_readsCommand_75 rfl rl_301 (by decide) rfl (by decide) rfl (fun g284 g285 => mpp 78 rfl ?_)
        refine mp_a (a_bipush (v := 116) dX7_readsCommand_78 rfl) (mpp 80 rfl ?_)
        refine mp_Tb (t := 112) (j_icmp_eq dX7_readsCommand_80) (by decide) (fun c286 => ?_) (fun c286 => mpp 83 rfl ?_)
        · have c286 : (fv P9 301 25).toInt = 116 := ti_eq c286
          have e287 : (fv P9 301 24).toInt = (fv Po 301 24).toInt := congrArg Int32.toInt (f12 301 24 (by omega))
          refine mp_a (a_aload_n dX7_readsCommand_112 rfl) (mpp 113 rfl ?_)
          refine mp_t (s_dup dX7_readsCommand_113 rfl) (mpp 114 rfl ?_)
          have e288 : (fv P9 301 24).toInt = (fv Po 301 24).toInt := congrArg Int32.toInt (f12 301 24 (ne_k rfl))
          refine mt_getI (i := 294) (k := 24) hT10 dX7_readsCommand_114 rfl rl_301 (by decide) rfl (by decide) rfl (fun g289 g290 => mpp 117 rfl ?_)
          refine mp_a (a_iconst (v := 1) dX7_readsCommand_117 rfl) (mpp 118 rfl ?_)
          obtain ⟨z291, h292⟩ := ti_ex ((fv P9 301 24) + 1 : Int32)
          have wz291 := ti_full z291
          refine mp_t (s_iadd (v := z291) dX7_readsCommand_118 h292) (mpp 119 rfl ?_)
          try have e293 : z291.toInt = (fv P9 301 24).toInt + 1 := ti_addz h292 rfl rfl (by omega) (by omega)
          refine mt_putI (i := 294) (k := 24) (x := z291) hT10 dX7_readsCommand_119 rfl rl_301 (by decide) rfl (by decide) rfl ⟨by omega, by omega⟩ rfl rfl (fun P294 hT295 f296 f297 f298 => mpp 122 rfl ?_)
          have k299 : KW [1112, 1113, 1114, 1115, 1116, 1117] Po P294 := KW.step k14 rl_301 rfl f297 f298
          have e300 : (fv P294 301 24).toInt = z291.toInt := congrArg Int32.toInt f296
          refine mp_a (a_aload_n dX7_readsCommand_122 rfl) (mpp 123 rfl ?_)
          refine mp_a (a_aload_n dX7_readsCommand_123 rfl) (mpp 124 rfl ?_)
          have e301 : (fv P294 301 23).toInt = (fv Po 301 23).toInt := congrArg Int32.toInt ((f297 301 23 (ne_k rfl)).trans (f12 301 23 (ne_k rfl)))
          have p302 : (fv P294 301 24).toInt ≤ (fv P294 301 23).toInt := by omega
          refine mt_callv (i := 315) (q' := q_223) (As := []) (rest := [.ref 301]) hT295 dX7_readsCommand_124 rfl qm_223 (by decide) rfl rl_301 (by decide) rfl (Nat.le_of_ble_eq_true rfl) rfl ⟨rfl, rfl⟩ ⟨Nat.le_of_ble_eq_true rfl, Nat.le_of_ble_eq_true rfl⟩ (EvP.mono (by decide) (c_M_digit hT295 p302 )) (fun r303 P304 g305 => mpp 127 rfl ?_)
          obtain ⟨⟨x306, rfl, g307⟩, hT308, k309, R310⟩ := g305
          have k311 : KW [1112, 1113, 1114, 1115, 1116, 1117] Po P304 := KW.trans k299 k309 rfl
          have wx306 := ti_full x306
          replace g307 : ((fv P294 301 24).toInt ≤ (fv P304 301 24).toInt ∧ (fv P304 301 24).toInt ≤ (fv P294 301 23).toInt) ∧ (((48 ≤ (chM P294 (fv P294 301 24).toInt).toInt ∧ (chM P294 (fv P294 301 24).toInt).toInt ≤ 57) ∧ x306.toInt = (chM P294 (fv P294 301 24).toInt).toInt - 48 ∧ (fv P304 301 24).toInt = (fv P294 301 24).toInt + 1) ∨ (¬ (48 ≤ (chM P294 (fv P294 301 24).toInt).toInt ∧ (chM P294 (fv P294 301 24).toInt).toInt ≤ 57) ∧ x306.toInt = -1)) := g307
          have g313 : (0 : Int) ≤ (fv P304 301 24).toInt ∧ (fv P304 301 24).toInt ≤ 81 := Typ.rng hT308 rl_301 (by decide) (by decide) rfl
          have g314 : (0 : Int) ≤ (fv P304 301 24).toInt ∧ (fv P304 301 24).toInt ≤ 81 := Typ.rng hT308 rl_301 (by decide) (by decide) rfl
          have g315 : (0 : Int) ≤ (fv P304 301 24).toInt ∧ (fv P304 301 24).toInt ≤ 81 := Typ.rng hT308 rl_301 (by decide) (by decide) rfl
          show MEvP _ none q_217 127 [(0, .ref 301)] [.int x306, .ref 301] _ _ _ _
          refine mt_putI (i := 300) (k := 26) (x := x306) hT308 dX7_readsCommand_127 rfl rl_301 (by decide) rfl (by decide) rfl (ti_full x306) rfl rfl (fun P316 hT317 f318 f319 f320 => mpp 130 rfl ?_)
          have k321 : KW [1112, 1113, 1114, 1115, 1116, 1117] Po P316 := KW.step k311 rl_301 rfl f319 f320
          have e322 : (fv P316 301 26).toInt = x306.toInt := congrArg Int32.toInt f318
          refine mp_a (a_aload_n dX7_readsCommand_130 rfl) (mpp 131 rfl ?_)
          refine mt_getI (i := 300) (k := 26) hT317 dX7_readsCommand_131 rfl rl_301 (by decide) rfl (by decide) rfl (fun g323 g324 => mpp 134 rfl ?_)
          refine mp_Tb (t := 157) (j_if_lt dX7_readsCommand_134) (by decide) (fun c325 => ?_) (fun c325 => mpp 137 rfl ?_)
          · have c325 : (fv P316 301 26).toInt < 0 := ti_lt c325
            refine mp_a (a_iconst (v := 0) dX7_readsCommand_157 rfl) (mpp 158 rfl ?_)
            have e326 : (fv P316 301 24).toInt = (fv P304 301 24).toInt := congrArg Int32.toInt (f319 301 24 (ne_k rfl))
            have e327 : (fv P316 301 25).toInt = (fv P9 301 25).toInt := congrArg Int32.toInt ((f319 301 25 (ne_k rfl)).trans ((KW.at k309 25 rl_301 rfl).trans (f297 301 25 (ne_k rfl))))
            have g328 := ti_full (fv P316 301 27)
            have g329 := ti_full (fv P316 301 28)
            have g330 := ti_full (fv P316 301 29)
            have e333 : (fv P9 301 24).toInt = (fv Po 301 24).toInt := congrArg Int32.toInt (f12 301 24 (by omega))
            have e334 : (fv P9 301 23).toInt = (fv Po 301 23).toInt := congrArg Int32.toInt (f12 301 23 (by omega))
            have e335 : (fv P316 301 24).toInt = (fv P304 301 24).toInt := congrArg Int32.toInt (f319 301 24 (by omega))
            have e336 : (fv P316 301 23).toInt = (fv P304 301 23).toInt := congrArg Int32.toInt (f319 301 23 (by omega))
            have e337 : (fv P304 301 23).toInt = (fv P294 301 23).toInt := congrArg Int32.toInt (KW.at k309 23 rl_301 rfl)
            have y338_ := g7
            have t340_ : chM P294 = chM Po := chM_eq (fun j => by rw [f297 314 j (by omega), f12 314 j (by omega)]) (by rw [f297 301 23 (by omega), f12 301 23 (by omega)])
            have y339_ := g307
            rw [t340_, show (fv P294 301 24).toInt = (fv Po 301 24).toInt + 1 from by omega] at y339_
            have u331 : 0 ≤ (0 : Int) ∧ (0 : Int) ≤ 1 ∧ (((fv Po 301 24).toInt ≤ (fv P316 301 24).toInt ∧ (fv P316 301 24).toInt ≤ (fv Po 301 23).toInt) ∧ (((0 : Int) = 1 ∧ CMD (chM Po) (fv Po 301 24).toInt (fv P316 301 24).toInt (fv P316 301 25).toInt (fv P316 301 26).toInt (fv P316 301 27).toInt (fv P316 301 28).toInt (fv P316 301 29).toInt) ∨ ((0 : Int) = 0 ∧ ¬ CMO (chM Po) (fv Po 301 24).toInt))) := ⟨by omega, by omega, ⟨by omega, by omega⟩, Or.inr ⟨rfl, fun ⟨i1, l1, a1, b1, n1, s1, q1, q2⟩ => by
                rcases q2 with ⟨q2, k2, m2, q3, q4, q5, q6, q7, q8⟩ | ⟨q2, q3, q4, q5, q6, q7, q8⟩ | ⟨q2, q3, q8⟩ <;> omega⟩⟩
            exact mp_iret ⟨⟨_, rfl, u331⟩, hT317, k321, trivial⟩ dX7_readsCommand_158 (Or.inr ⟨rfl, by decide⟩)
          · have c325 : (fv P316 301 26).toInt ≥ 0 := ti_lt_n c325
            refine mp_a (a_aload_n dX7_readsCommand_137 rfl) (mpp 138 rfl ?_)
            have e341 : (fv P316 301 25).toInt = (fv P9 301 25).toInt := congrArg Int32.toInt ((f319 301 25 (ne_k rfl)).trans ((KW.at k309 25 rl_301 rfl).trans (f297 301 25 (ne_k rfl))))
            refine mt_getI (i := 321) (k := 25) hT317 dX7_readsCommand_138 rfl rl_301 (by decide) rfl (by decide) rfl (fun g342 g343 => mpp 141 rfl ?_)
            refine mp_a (a_bipush (v := 109) dX7_readsCommand_141 rfl) (mpp 143 rfl ?_)
            refine mp_Tb (t := 153) (j_icmp_ne dX7_readsCommand_143) (by decide) (fun c344 => ?_) (fun c344 => mpp 146 rfl ?_)
            · have c344 : (fv P316 301 25).toInt ≠ 109 := ti_ne c344
              refine mp_a (a_iconst (v := 1) dX7_readsCommand_153 rfl) (mpp 154 rfl ?_)
              refine mp_a (a_goto (t := 158) dX7_readsCommand_154 (by decide)) ?_
              have e345 : (fv P316 301 24).toInt = (fv P304 301 24).toInt := congrArg Int32.toInt (f319 301 24 (ne_k rfl))
              have g346 := ti_full (fv P316 301 27)
              have g347 := ti_full (fv P316 301 28)
              have g348 := ti_full (fv P316 301 29)
              have e351 : (fv P9 301 24).toInt = (fv Po 301 24).toInt := congrArg Int32.toInt (f12 301 24 (by omega))
              have e352 : (fv P9 301 23).toInt = (fv Po 301 23).toInt := congrArg Int32.toInt (f12 301 23 (by omega))
              have e353 : (fv P316 301 24).toInt = (fv P304 301 24).toInt := congrArg Int32.toInt (f319 301 24 (by omega))
              have e354 : (fv P316 301 23).toInt = (fv P304 301 23).toInt := congrArg Int32.toInt (f319 301 23 (by omega))
              have e355 : (fv P304 301 23).toInt = (fv P294 301 23).toInt := congrArg Int32.toInt (KW.at k309 23 rl_301 rfl)
              have y356_ := g7
              have t358_ : chM P294 = chM Po := chM_eq (fun j => by rw [f297 314 j (by omega), f12 314 j (by omega)]) (by rw [f297 301 23 (by omega), f12 301 23 (by omega)])
              have y357_ := g307
              rw [t358_, show (fv P294 301 24).toInt = (fv Po 301 24).toInt + 1 from by omega] at y357_
              have e359 : (fv P316 301 26).toInt = (fv P316 301 26).toInt := rfl
              have e360 : (fv P316 301 25).toInt = (fv P9 301 25).toInt := by rw [f319 301 25 (by omega), KW.at k309 25 rl_301 rfl, f297 301 25 (by omega)]
              have u349 : 0 ≤ (1 : Int) ∧ (1 : Int) ≤ 1 ∧ (((fv Po 301 24).toInt ≤ (fv P316 301 24).toInt ∧ (fv P316 301 24).toInt ≤ (fv Po 301 23).toInt) ∧ (((1 : Int) = 1 ∧ CMD (chM Po) (fv Po 301 24).toInt (fv P316 301 24).toInt (fv P316 301 25).toInt (fv P316 301 26).toInt (fv P316 301 27).toInt (fv P316 301 28).toInt (fv P316 301 29).toInt) ∨ ((1 : Int) = 0 ∧ ¬ CMO (chM Po) (fv Po 301 24).toInt))) := ⟨by omega, by omega, ⟨by omega, by omega⟩, Or.inl ⟨rfl, by omega, Or.inr (Or.inr ⟨by omega, ⟨by omega, by omega⟩, by omega, by omega⟩)⟩⟩
              exact mp_iret ⟨⟨_, rfl, u349⟩, hT317, k321, trivial⟩ dX7_readsCommand_158 (Or.inr ⟨rfl, by decide⟩)
            · have c344 : (fv P316 301 25).toInt = 109 := ti_ne_n c344
              refine mp_a (a_aload_n dX7_readsCommand_146 rfl) (mpp 147 rfl ?_)
              have e361 : (fv P316 301 24).toInt = (fv P304 301 24).toInt := congrArg Int32.toInt (f319 301 24 (ne_k rfl))
              have e362 : (fv P316 301 23).toInt = (fv P294 301 23).toInt := congrArg Int32.toInt ((f319 301 23 (ne_k rfl)).trans (KW.at k309 23 rl_301 rfl))
              have p363 : (fv P316 301 24).toInt ≤ (fv P316 301 23).toInt := by omega
              refine mt_callv (i := 330) (q' := q_224) (As := []) (rest := []) hT317 dX7_readsCommand_147 rfl qm_224 (by decide) rfl rl_301 (by decide) rfl (Nat.le_of_ble_eq_true rfl) rfl ⟨rfl, rfl⟩ ⟨Nat.le_of_ble_eq_true rfl, Nat.le_of_ble_eq_true rfl⟩ (EvP.mono (by decide) (c_M_readsMark hT317 p363 )) (fun r364 P365 g366 => mpp 150 rfl ?_)
              obtain ⟨⟨x367, rfl, g368⟩, hT369, k370, R371⟩ := g366
              have k372 : KW [1112, 1113, 1114, 1115, 1116, 1117] Po P365 := KW.trans k321 k370 rfl
              have wx367 := ti_full x367
              replace g368 : 0 ≤ x367.toInt ∧ x367.toInt ≤ 1 ∧ (((fv P316 301 24).toInt ≤ (fv P365 301 24).toInt ∧ (fv P365 301 24).toInt ≤ (fv P316 301 23).toInt) ∧ ((x367.toInt = 1 ∧ ((chM P316 (fv P316 301 24).toInt).toInt = 46 ∧ (48 ≤ (chM P316 ((fv P316 301 24).toInt + 1)).toInt ∧ (chM P316 ((fv P316 301 24).toInt + 1)).toInt ≤ 57) ∧ (chM P316 ((fv P316 301 24).toInt + 2)).toInt = 61 ∧ ((chM P316 ((fv P316 301 24).toInt + 3)).toInt = 111 ∨ (chM P316 ((fv P316 301 24).toInt + 3)).toInt = 109 ∨ (chM P316 ((fv P316 301 24).toInt + 3)).toInt = 118)) ∧ (fv P365 301 24).toInt = (fv P316 301 24).toInt + 4 ∧ (fv P365 301 27).toInt = (chM P316 ((fv P316 301 24).toInt + 1)).toInt - 48 ∧ (fv P365 301 29).toInt = (kn (chM P316 ((fv P316 301 24).toInt + 3)).toInt).toInt) ∨ (x367.toInt = 0 ∧ ¬ ((chM P316 (fv P316 301 24).toInt).toInt = 46 ∧ (48 ≤ (chM P316 ((fv P316 301 24).toInt + 1)).toInt ∧ (chM P316 ((fv P316 301 24).toInt + 1)).toInt ≤ 57) ∧ (chM P316 ((fv P316 301 24).toInt + 2)).toInt = 61 ∧ ((chM P316 ((fv P316 301 24).toInt + 3)).toInt = 111 ∨ (chM P316 ((fv P316 301 24).toInt + 3)).toInt = 109 ∨ (chM P316 ((fv P316 301 24).toInt + 3)).toInt = 118))))) := g368
              have g374 : (0 : Int) ≤ (fv P365 301 24).toInt ∧ (fv P365 301 24).toInt ≤ 81 := Typ.rng hT369 rl_301 (by decide) (by decide) rfl
              have g375 : (0 : Int) ≤ (fv P365 301 24).toInt ∧ (fv P365 301 24).toInt ≤ 81 := Typ.rng hT369 rl_301 (by decide) (by decide) rfl
              have g376 : (0 : Int) ≤ (fv P365 301 24).toInt ∧ (fv P365 301 24).toInt ≤ 81 := Typ.rng hT369 rl_301 (by decide) (by decide) rfl
              show MEvP _ none q_217 150 [(0, .ref 301)] [.int x367] _ _ _ _
              refine mp_Tb (t := 157) (j_if_eq dX7_readsCommand_150) (by decide) (fun c377 => ?_) (fun c377 => mpp 153 rfl ?_)
              · have c377 : x367.toInt = 0 := ti_eq c377
                refine mp_a (a_iconst (v := 0) dX7_readsCommand_157 rfl) (mpp 158 rfl ?_)
                have e378 : (fv P365 301 25).toInt = (fv P316 301 25).toInt := congrArg Int32.toInt (KW.at k370 25 rl_301 rfl)
                have e379 : (fv P365 301 26).toInt = (fv P316 301 26).toInt := congrArg Int32.toInt (KW.at k370 26 rl_301 rfl)
                have g380 := ti_full (fv P365 301 27)
                have g381 := ti_full (fv P365 301 28)
                have g382 := ti_full (fv P365 301 29)
                have e385 : (fv P9 301 24).toInt = (fv Po 301 24).toInt := congrArg Int32.toInt (f12 301 24 (by omega))
                have e386 : (fv P9 301 23).toInt = (fv Po 301 23).toInt := congrArg Int32.toInt (f12 301 23 (by omega))
                have e387 : (fv P316 301 24).toInt = (fv P304 301 24).toInt := congrArg Int32.toInt (f319 301 24 (by omega))
                have e388 : (fv P316 301 23).toInt = (fv P304 301 23).toInt := congrArg Int32.toInt (f319 301 23 (by omega))
                have e389 : (fv P304 301 23).toInt = (fv P294 301 23).toInt := congrArg Int32.toInt (KW.at k309 23 rl_301 rfl)
                have e390 : (fv P365 301 23).toInt = (fv P316 301 23).toInt := congrArg Int32.toInt (KW.at k370 23 rl_301 rfl)
                have y391_ := g7
                have t393_ : chM P294 = chM Po := chM_eq (fun j => by rw [f297 314 j (by omega), f12 314 j (by omega)]) (by rw [f297 301 23 (by omega), f12 301 23 (by omega)])
                have y392_ := g307
                rw [t393_, show (fv P294 301 24).toInt = (fv Po 301 24).toInt + 1 from by omega] at y392_
                have t395_ : chM P316 = chM Po := chM_eq (fun j => by rw [f319 314 j (by omega), KW.at k309 j rl_314 rfl, f297 314 j (by omega), f12 314 j (by omega)]) (by rw [f319 301 23 (by omega), KW.at k309 23 rl_301 rfl, f297 301 23 (by omega), f12 301 23 (by omega)])
                have y394_ := g368
                rw [t395_, show (fv P316 301 24).toInt = (fv Po 301 24).toInt + 2 from by omega] at y394_
                rw [show (fv Po 301 24).toInt + 2 + 1 = (fv Po 301 24).toInt + 3 from by omega, show (fv Po 301 24).toInt + 2 + 2 = (fv Po 301 24).toInt + 4 from by omega, show (fv Po 301 24).toInt + 2 + 3 = (fv Po 301 24).toInt + 5 from by omega] at y394_
                have u383 : 0 ≤ (0 : Int) ∧ (0 : Int) ≤ 1 ∧ (((fv Po 301 24).toInt ≤ (fv P365 301 24).toInt ∧ (fv P365 301 24).toInt ≤ (fv Po 301 23).toInt) ∧ (((0 : Int) = 1 ∧ CMD (chM Po) (fv Po 301 24).toInt (fv P365 301 24).toInt (fv P365 301 25).toInt (fv P365 301 26).toInt (fv P365 301 27).toInt (fv P365 301 28).toInt (fv P365 301 29).toInt) ∨ ((0 : Int) = 0 ∧ ¬ CMO (chM Po) (fv Po 301 24).toInt))) := ⟨by omega, by omega, ⟨by omega, by omega⟩, Or.inr ⟨rfl, fun ⟨i1, l1, a1, b1, n1, s1, q1, q2⟩ => by
                    rcases q2 with ⟨q2, k2, m2, q3, q4, q5, q6, q7, q8⟩ | ⟨q2, q3, q4, q5, q6, q7, q8⟩ | ⟨q2, q3, q8⟩ <;> omega⟩⟩
                exact mp_iret ⟨⟨_, rfl, u383⟩, hT369, k372, trivial⟩ dX7_readsCommand_158 (Or.inr ⟨rfl, by decide⟩)
              · have c377 : x367.toInt ≠ 0 := ti_eq_n c377
                refine mp_a (a_iconst (v := 1) dX7_readsCommand_153 rfl) (mpp 154 rfl ?_)
                refine mp_a (a_goto (t := 158) dX7_readsCommand_154 (by decide)) ?_
                have e396 : (fv P365 301 25).toInt = (fv P316 301 25).toInt := congrArg Int32.toInt (KW.at k370 25 rl_301 rfl)
                have e397 : (fv P365 301 26).toInt = (fv P316 301 26).toInt := congrArg Int32.toInt (KW.at k370 26 rl_301 rfl)
                have g398 := ti_full (fv P365 301 27)
                have g399 := ti_full (fv P365 301 28)
                have g400 := ti_full (fv P365 301 29)
                have e403 : (fv P9 301 24).toInt = (fv Po 301 24).toInt := congrArg Int32.toInt (f12 301 24 (by omega))
                have e404 : (fv P9 301 23).toInt = (fv Po 301 23).toInt := congrArg Int32.toInt (f12 301 23 (by omega))
                have e405 : (fv P316 301 24).toInt = (fv P304 301 24).toInt := congrArg Int32.toInt (f319 301 24 (by omega))
                have e406 : (fv P316 301 23).toInt = (fv P304 301 23).toInt := congrArg Int32.toInt (f319 301 23 (by omega))
                have e407 : (fv P304 301 23).toInt = (fv P294 301 23).toInt := congrArg Int32.toInt (KW.at k309 23 rl_301 rfl)
                have e408 : (fv P365 301 23).toInt = (fv P316 301 23).toInt := congrArg Int32.toInt (KW.at k370 23 rl_301 rfl)
                have y409_ := g7
                have t411_ : chM P294 = chM Po := chM_eq (fun j => by rw [f297 314 j (by omega), f12 314 j (by omega)]) (by rw [f297 301 23 (by omega), f12 301 23 (by omega)])
                have y410_ := g307
                rw [t411_, show (fv P294 301 24).toInt = (fv Po 301 24).toInt + 1 from by omega] at y410_
                have t413_ : chM P316 = chM Po := chM_eq (fun j => by rw [f319 314 j (by omega), KW.at k309 j rl_314 rfl, f297 314 j (by omega), f12 314 j (by omega)]) (by rw [f319 301 23 (by omega), KW.at k309 23 rl_301 rfl, f297 301 23 (by omega), f12 301 23 (by omega)])
                have y412_ := g368
                rw [t413_, show (fv P316 301 24).toInt = (fv Po 301 24).toInt + 2 from by omega] at y412_
                rw [show (fv Po 301 24).toInt + 2 + 1 = (fv Po 301 24).toInt + 3 from by omega, show (fv Po 301 24).toInt + 2 + 2 = (fv Po 301 24).toInt + 4 from by omega, show (fv Po 301 24).toInt + 2 + 3 = (fv Po 301 24).toInt + 5 from by omega] at y412_
                have e414 : (fv P365 301 26).toInt = (fv P316 301 26).toInt := by rw [KW.at k370 26 rl_301 rfl]
                have e415 : (fv P365 301 25).toInt = (fv P9 301 25).toInt := by rw [KW.at k370 25 rl_301 rfl, f319 301 25 (by omega), KW.at k309 25 rl_301 rfl, f297 301 25 (by omega)]
                have u401 : 0 ≤ (1 : Int) ∧ (1 : Int) ≤ 1 ∧ (((fv Po 301 24).toInt ≤ (fv P365 301 24).toInt ∧ (fv P365 301 24).toInt ≤ (fv Po 301 23).toInt) ∧ (((1 : Int) = 1 ∧ CMD (chM Po) (fv Po 301 24).toInt (fv P365 301 24).toInt (fv P365 301 25).toInt (fv P365 301 26).toInt (fv P365 301 27).toInt (fv P365 301 28).toInt (fv P365 301 29).toInt) ∨ ((1 : Int) = 0 ∧ ¬ CMO (chM Po) (fv Po 301 24).toInt))) := ⟨by omega, by omega, ⟨by omega, by omega⟩, Or.inl ⟨rfl, by omega, Or.inr (Or.inl ⟨by omega, ⟨by omega, by omega⟩, by omega, ⟨by omega, by omega⟩, by omega, by have q : ((chM Po ((fv Po 301 24).toInt + 5)).toInt = 111 ∨ (chM Po ((fv Po 301 24).toInt + 5)).toInt = 109 ∨ (chM Po ((fv Po 301 24).toInt + 5)).toInt = 118) := (by omega); exact q, by omega, by omega, by omega, by omega⟩)⟩⟩
                exact mp_iret ⟨⟨_, rfl, u401⟩, hT369, k372, trivial⟩ dX7_readsCommand_158 (Or.inr ⟨rfl, by decide⟩)
        · have c286 : (fv P9 301 25).toInt ≠ 116 := ti_eq_n c286
          refine mp_a (a_aload_n dX7_readsCommand_83 rfl) (mpp 84 rfl ?_)
          refine mt_getI (i := 321) (k := 25) hT10 dX7_readsCommand_84 rfl rl_301 (by decide) rfl (by decide) rfl (fun g416 g417 => mpp 87 rfl ?_)
          refine mp_a (a_bipush (v := 102) dX7_readsCommand_87 rfl) (mpp 89 rfl ?_)
          refine mp_Tb (t := 112) (j_icmp_eq dX7_readsCommand_89) (by decide) (fun c418 => ?_) (fun c418 => mpp 92 rfl ?_)
          · have c418 : (fv P9 301 25).toInt = 102 := ti_eq c418
            have e419 : (fv P9 301 24).toInt = (fv Po 301 24).toInt := congrArg Int32.toInt (f12 301 24 (by omega))
            refine mp_a (a_aload_n dX7_readsCommand_112 rfl) (mpp 113 rfl ?_)
            refine mp_t (s_dup dX7_readsCommand_113 rfl) (mpp 114 rfl ?_)
            have e420 : (fv P9 301 24).toInt = (fv Po 301 24).toInt := congrArg Int32.toInt (f12 301 24 (ne_k rfl))
            refine mt_getI (i := 294) (k := 24) hT10 dX7_readsCommand_114 rfl rl_301 (by decide) rfl (by decide) rfl (fun g421 g422 => mpp 117 rfl ?_)
            refine mp_a (a_iconst (v := 1) dX7_readsCommand_117 rfl) (mpp 118 rfl ?_)
            obtain ⟨z423, h424⟩ := ti_ex ((fv P9 301 24) + 1 : Int32)
            have wz423 := ti_full z423
            refine mp_t (s_iadd (v := z423) dX7_readsCommand_118 h424) (mpp 119 rfl ?_)
            try have e425 : z423.toInt = (fv P9 301 24).toInt + 1 := ti_addz h424 rfl rfl (by omega) (by omega)
            refine mt_putI (i := 294) (k := 24) (x := z423) hT10 dX7_readsCommand_119 rfl rl_301 (by decide) rfl (by decide) rfl ⟨by omega, by omega⟩ rfl rfl (fun P426 hT427 f428 f429 f430 => mpp 122 rfl ?_)
            have k431 : KW [1112, 1113, 1114, 1115, 1116, 1117] Po P426 := KW.step k14 rl_301 rfl f429 f430
            have e432 : (fv P426 301 24).toInt = z423.toInt := congrArg Int32.toInt f428
            refine mp_a (a_aload_n dX7_readsCommand_122 rfl) (mpp 123 rfl ?_)
            refine mp_a (a_aload_n dX7_readsCommand_123 rfl) (mpp 124 rfl ?_)
            have e433 : (fv P426 301 23).toInt = (fv Po 301 23).toInt := congrArg Int32.toInt ((f429 301 23 (ne_k rfl)).trans (f12 301 23 (ne_k rfl)))
            have p434 : (fv P426 301 24).toInt ≤ (fv P426 301 23).toInt := by omega
            refine mt_callv (i := 315) (q' := q_223) (As := []) (rest := [.ref 301]) hT427 dX7_readsCommand_124 rfl qm_223 (by decide) rfl rl_301 (by decide) rfl (Nat.le_of_ble_eq_true rfl) rfl ⟨rfl, rfl⟩ ⟨Nat.le_of_ble_eq_true rfl, Nat.le_of_ble_eq_true rfl⟩ (EvP.mono (by decide) (c_M_digit hT427 p434 )) (fun r435 P436 g437 => mpp 127 rfl ?_)
            obtain ⟨⟨x438, rfl, g439⟩, hT440, k441, R442⟩ := g437
            have k443 : KW [1112, 1113, 1114, 1115, 1116, 1117] Po P436 := KW.trans k431 k441 rfl
            have wx438 := ti_full x438
            replace g439 : ((fv P426 301 24).toInt ≤ (fv P436 301 24).toInt ∧ (fv P436 301 24).toInt ≤ (fv P426 301 23).toInt) ∧ (((48 ≤ (chM P426 (fv P426 301 24).toInt).toInt ∧ (chM P426 (fv P426 301 24).toInt).toInt ≤ 57) ∧ x438.toInt = (chM P426 (fv P426 301 24).toInt).toInt - 48 ∧ (fv P436 301 24).toInt = (fv P426 301 24).toInt + 1) ∨ (¬ (48 ≤ (chM P426 (fv P426 301 24).toInt).toInt ∧ (chM P426 (fv P426 301 24).toInt).toInt ≤ 57) ∧ x438.toInt = -1)) := g439
            have g445 : (0 : Int) ≤ (fv P436 301 24).toInt ∧ (fv P436 301 24).toInt ≤ 81 := Typ.rng hT440 rl_301 (by decide) (by decide) rfl
            have g446 : (0 : Int) ≤ (fv P436 301 24).toInt ∧ (fv P436 301 24).toInt ≤ 81 := Typ.rng hT440 rl_301 (by decide) (by decide) rfl
            have g447 : (0 : Int) ≤ (fv P436 301 24).toInt ∧ (fv P436 301 24).toInt ≤ 81 := Typ.rng hT440 rl_301 (by decide) (by decide) rfl
            show MEvP _ none q_217 127 [(0, .ref 301)] [.int x438, .ref 301] _ _ _ _
            refine mt_putI (i := 300) (k := 26) (x := x438) hT440 dX7_readsCommand_127 rfl rl_301 (by decide) rfl (by decide) rfl (ti_full x438) rfl rfl (fun P448 hT449 f450 f451 f452 => mpp 130 rfl ?_)
            have k453 : KW [1112, 1113, 1114, 1115, 1116, 1117] Po P448 := KW.step k443 rl_301 rfl f451 f452
            have e454 : (fv P448 301 26).toInt = x438.toInt := congrArg Int32.toInt f450
            refine mp_a (a_aload_n dX7_readsCommand_130 rfl) (mpp 131 rfl ?_)
            refine mt_getI (i := 300) (k := 26) hT449 dX7_readsCommand_131 rfl rl_301 (by decide) rfl (by decide) rfl (fun g455 g456 => mpp 134 rfl ?_)
            refine mp_Tb (t := 157) (j_if_lt dX7_readsCommand_134) (by decide) (fun c457 => ?_) (fun c457 => mpp 137 rfl ?_)
            · have c457 : (fv P448 301 26).toInt < 0 := ti_lt c457
              refine mp_a (a_iconst (v := 0) dX7_readsCommand_157 rfl) (mpp 158 rfl ?_)
              have e458 : (fv P448 301 24).toInt = (fv P436 301 24).toInt := congrArg Int32.toInt (f451 301 24 (ne_k rfl))
              have e459 : (fv P448 301 25).toInt = (fv P9 301 25).toInt := congrArg Int32.toInt ((f451 301 25 (ne_k rfl)).trans ((KW.at k441 25 rl_301 rfl).trans (f429 301 25 (ne_k rfl))))
              have g460 := ti_full (fv P448 301 27)
              have g461 := ti_full (fv P448 301 28)
              have g462 := ti_full (fv P448 301 29)
              have e465 : (fv P9 301 24).toInt = (fv Po 301 24).toInt := congrArg Int32.toInt (f12 301 24 (by omega))
              have e466 : (fv P9 301 23).toInt = (fv Po 301 23).toInt := congrArg Int32.toInt (f12 301 23 (by omega))
              have e467 : (fv P448 301 24).toInt = (fv P436 301 24).toInt := congrArg Int32.toInt (f451 301 24 (by omega))
              have e468 : (fv P448 301 23).toInt = (fv P436 301 23).toInt := congrArg Int32.toInt (f451 301 23 (by omega))
              have e469 : (fv P436 301 23).toInt = (fv P426 301 23).toInt := congrArg Int32.toInt (KW.at k441 23 rl_301 rfl)
              have y470_ := g7
              have t472_ : chM P426 = chM Po := chM_eq (fun j => by rw [f429 314 j (by omega), f12 314 j (by omega)]) (by rw [f429 301 23 (by omega), f12 301 23 (by omega)])
              have y471_ := g439
              rw [t472_, show (fv P426 301 24).toInt = (fv Po 301 24).toInt + 1 from by omega] at y471_
              have u463 : 0 ≤ (0 : Int) ∧ (0 : Int) ≤ 1 ∧ (((fv Po 301 24).toInt ≤ (fv P448 301 24).toInt ∧ (fv P448 301 24).toInt ≤ (fv Po 301 23).toInt) ∧ (((0 : Int) = 1 ∧ CMD (chM Po) (fv Po 301 24).toInt (fv P448 301 24).toInt (fv P448 301 25).toInt (fv P448 301 26).toInt (fv P448 301 27).toInt (fv P448 301 28).toInt (fv P448 301 29).toInt) ∨ ((0 : Int) = 0 ∧ ¬ CMO (chM Po) (fv Po 301 24).toInt))) := ⟨by omega, by omega, ⟨by omega, by omega⟩, Or.inr ⟨rfl, fun ⟨i1, l1, a1, b1, n1, s1, q1, q2⟩ => by
                  rcases q2 with ⟨q2, k2, m2, q3, q4, q5, q6, q7, q8⟩ | ⟨q2, q3, q4, q5, q6, q7, q8⟩ | ⟨q2, q3, q8⟩ <;> omega⟩⟩
              exact mp_iret ⟨⟨_, rfl, u463⟩, hT449, k453, trivial⟩ dX7_readsCommand_158 (Or.inr ⟨rfl, by decide⟩)
            · have c457 : (fv P448 301 26).toInt ≥ 0 := ti_lt_n c457
              refine mp_a (a_aload_n dX7_readsCommand_137 rfl) (mpp 138 rfl ?_)
              have e473 : (fv P448 301 25).toInt = (fv P9 301 25).toInt := congrArg Int32.toInt ((f451 301 25 (ne_k rfl)).trans ((KW.at k441 25 rl_301 rfl).trans (f429 301 25 (ne_k rfl))))
              refine mt_getI (i := 321) (k := 25) hT449 dX7_readsCommand_138 rfl rl_301 (by decide) rfl (by decide) rfl (fun g474 g475 => mpp 141 rfl ?_)
              refine mp_a (a_bipush (v := 109) dX7_readsCommand_141 rfl) (mpp 143 rfl ?_)
              refine mp_Tb (t := 153) (j_icmp_ne dX7_readsCommand_143) (by decide) (fun c476 => ?_) (fun c476 => mpp 146 rfl ?_)
              · have c476 : (fv P448 301 25).toInt ≠ 109 := ti_ne c476
                refine mp_a (a_iconst (v := 1) dX7_readsCommand_153 rfl) (mpp 154 rfl ?_)
                refine mp_a (a_goto (t := 158) dX7_readsCommand_154 (by decide)) ?_
                have e477 : (fv P448 301 24).toInt = (fv P436 301 24).toInt := congrArg Int32.toInt (f451 301 24 (ne_k rfl))
                have g478 := ti_full (fv P448 301 27)
                have g479 := ti_full (fv P448 301 28)
                have g480 := ti_full (fv P448 301 29)
                have e483 : (fv P9 301 24).toInt = (fv Po 301 24).toInt := congrArg Int32.toInt (f12 301 24 (by omega))
                have e484 : (fv P9 301 23).toInt = (fv Po 301 23).toInt := congrArg Int32.toInt (f12 301 23 (by omega))
                have e485 : (fv P448 301 24).toInt = (fv P436 301 24).toInt := congrArg Int32.toInt (f451 301 24 (by omega))
                have e486 : (fv P448 301 23).toInt = (fv P436 301 23).toInt := congrArg Int32.toInt (f451 301 23 (by omega))
                have e487 : (fv P436 301 23).toInt = (fv P426 301 23).toInt := congrArg Int32.toInt (KW.at k441 23 rl_301 rfl)
                have y488_ := g7
                have t490_ : chM P426 = chM Po := chM_eq (fun j => by rw [f429 314 j (by omega), f12 314 j (by omega)]) (by rw [f429 301 23 (by omega), f12 301 23 (by omega)])
                have y489_ := g439
                rw [t490_, show (fv P426 301 24).toInt = (fv Po 301 24).toInt + 1 from by omega] at y489_
                have e491 : (fv P448 301 26).toInt = (fv P448 301 26).toInt := rfl
                have e492 : (fv P448 301 25).toInt = (fv P9 301 25).toInt := by rw [f451 301 25 (by omega), KW.at k441 25 rl_301 rfl, f429 301 25 (by omega)]
                have u481 : 0 ≤ (1 : Int) ∧ (1 : Int) ≤ 1 ∧ (((fv Po 301 24).toInt ≤ (fv P448 301 24).toInt ∧ (fv P448 301 24).toInt ≤ (fv Po 301 23).toInt) ∧ (((1 : Int) = 1 ∧ CMD (chM Po) (fv Po 301 24).toInt (fv P448 301 24).toInt (fv P448 301 25).toInt (fv P448 301 26).toInt (fv P448 301 27).toInt (fv P448 301 28).toInt (fv P448 301 29).toInt) ∨ ((1 : Int) = 0 ∧ ¬ CMO (chM Po) (fv Po 301 24).toInt))) := ⟨by omega, by omega, ⟨by omega, by omega⟩, Or.inl ⟨rfl, by omega, Or.inr (Or.inr ⟨by omega, ⟨by omega, by omega⟩, by omega, by omega⟩)⟩⟩
                exact mp_iret ⟨⟨_, rfl, u481⟩, hT449, k453, trivial⟩ dX7_readsCommand_158 (Or.inr ⟨rfl, by decide⟩)
              · have c476 : (fv P448 301 25).toInt = 109 := ti_ne_n c476
                refine mp_a (a_aload_n dX7_readsCommand_146 rfl) (mpp 147 rfl ?_)
                have e493 : (fv P448 301 24).toInt = (fv P436 301 24).toInt := congrArg Int32.toInt (f451 301 24 (ne_k rfl))
                have e494 : (fv P448 301 23).toInt = (fv P426 301 23).toInt := congrArg Int32.toInt ((f451 301 23 (ne_k rfl)).trans (KW.at k441 23 rl_301 rfl))
                have p495 : (fv P448 301 24).toInt ≤ (fv P448 301 23).toInt := by omega
                refine mt_callv (i := 330) (q' := q_224) (As := []) (rest := []) hT449 dX7_readsCommand_147 rfl qm_224 (by decide) rfl rl_301 (by decide) rfl (Nat.le_of_ble_eq_true rfl) rfl ⟨rfl, rfl⟩ ⟨Nat.le_of_ble_eq_true rfl, Nat.le_of_ble_eq_true rfl⟩ (EvP.mono (by decide) (c_M_readsMark hT449 p495 )) (fun r496 P497 g498 => mpp 150 rfl ?_)
                obtain ⟨⟨x499, rfl, g500⟩, hT501, k502, R503⟩ := g498
                have k504 : KW [1112, 1113, 1114, 1115, 1116, 1117] Po P497 := KW.trans k453 k502 rfl
                have wx499 := ti_full x499
                replace g500 : 0 ≤ x499.toInt ∧ x499.toInt ≤ 1 ∧ (((fv P448 301 24).toInt ≤ (fv P497 301 24).toInt ∧ (fv P497 301 24).toInt ≤ (fv P448 301 23).toInt) ∧ ((x499.toInt = 1 ∧ ((chM P448 (fv P448 301 24).toInt).toInt = 46 ∧ (48 ≤ (chM P448 ((fv P448 301 24).toInt + 1)).toInt ∧ (chM P448 ((fv P448 301 24).toInt + 1)).toInt ≤ 57) ∧ (chM P448 ((fv P448 301 24).toInt + 2)).toInt = 61 ∧ ((chM P448 ((fv P448 301 24).toInt + 3)).toInt = 111 ∨ (chM P448 ((fv P448 301 24).toInt + 3)).toInt = 109 ∨ (chM P448 ((fv P448 301 24).toInt + 3)).toInt = 118)) ∧ (fv P497 301 24).toInt = (fv P448 301 24).toInt + 4 ∧ (fv P497 301 27).toInt = (chM P448 ((fv P448 301 24).toInt + 1)).toInt - 48 ∧ (fv P497 301 29).toInt = (kn (chM P448 ((fv P448 301 24).toInt + 3)).toInt).toInt) ∨ (x499.toInt = 0 ∧ ¬ ((chM P448 (fv P448 301 24).toInt).toInt = 46 ∧ (48 ≤ (chM P448 ((fv P448 301 24).toInt + 1)).toInt ∧ (chM P448 ((fv P448 301 24).toInt + 1)).toInt ≤ 57) ∧ (chM P448 ((fv P448 301 24).toInt + 2)).toInt = 61 ∧ ((chM P448 ((fv P448 301 24).toInt + 3)).toInt = 111 ∨ (chM P448 ((fv P448 301 24).toInt + 3)).toInt = 109 ∨ (chM P448 ((fv P448 301 24).toInt + 3)).toInt = 118))))) := g500
                have g506 : (0 : Int) ≤ (fv P497 301 24).toInt ∧ (fv P497 301 24).toInt ≤ 81 := Typ.rng hT501 rl_301 (by decide) (by decide) rfl
                have g507 : (0 : Int) ≤ (fv P497 301 24).toInt ∧ (fv P497 301 24).toInt ≤ 81 := Typ.rng hT501 rl_301 (by decide) (by decide) rfl
                have g508 : (0 : Int) ≤ (fv P497 301 24).toInt ∧ (fv P497 301 24).toInt ≤ 81 := Typ.rng hT501 rl_301 (by decide) (by decide) rfl
                show MEvP _ none q_217 150 [(0, .ref 301)] [.int x499] _ _ _ _
                refine mp_Tb (t := 157) (j_if_eq dX7_readsCommand_150) (by decide) (fun c509 => ?_) (fun c509 => mpp 153 rfl ?_)
                · have c509 : x499.toInt = 0 := ti_eq c509
                  refine mp_a (a_iconst (v := 0) dX7_readsCommand_157 rfl) (mpp 158 rfl ?_)
                  have e510 : (fv P497 301 25).toInt = (fv P448 301 25).toInt := congrArg Int32.toInt (KW.at k502 25 rl_301 rfl)
                  have e511 : (fv P497 301 26).toInt = (fv P448 301 26).toInt := congrArg Int32.toInt (KW.at k502 26 rl_301 rfl)
                  have g512 := ti_full (fv P497 301 27)
                  have g513 := ti_full (fv P497 301 28)
                  have g514 := ti_full (fv P497 301 29)
                  have e517 : (fv P9 301 24).toInt = (fv Po 301 24).toInt := congrArg Int32.toInt (f12 301 24 (by omega))
                  have e518 : (fv P9 301 23).toInt = (fv Po 301 23).toInt := congrArg Int32.toInt (f12 301 23 (by omega))
                  have e519 : (fv P448 301 24).toInt = (fv P436 301 24).toInt := congrArg Int32.toInt (f451 301 24 (by omega))
                  have e520 : (fv P448 301 23).toInt = (fv P436 301 23).toInt := congrArg Int32.toInt (f451 301 23 (by omega))
                  have e521 : (fv P436 301 23).toInt = (fv P426 301 23).toInt := congrArg Int32.toInt (KW.at k441 23 rl_301 rfl)
                  have e522 : (fv P497 301 23).toInt = (fv P448 301 23).toInt := congrArg Int32.toInt (KW.at k502 23 rl_301 rfl)
                  have y523_ := g7
                  have t525_ : chM P426 = chM Po := chM_eq (fun j => by rw [f429 314 j (by omega), f12 314 j (by omega)]) (by rw [f429 301 23 (by omega), f12 301 23 (by omega)])
                  have y524_ := g439
                  rw [t525_, show (fv P426 301 24).toInt = (fv Po 301 24).toInt + 1 from by omega] at y524_
                  have t527_ : chM P448 = chM Po := chM_eq (fun j => by rw [f451 314 j (by omega), KW.at k441 j rl_314 rfl, f429 314 j (by omega), f12 314 j (by omega)]) (by rw [f451 301 23 (by omega), KW.at k441 23 rl_301 rfl, f429 301 23 (by omega), f12 301 23 (by omega)])
                  have y526_ := g500
                  rw [t527_, show (fv P448 301 24).toInt = (fv Po 301 24).toInt + 2 from by omega] at y526_
                  rw [show (fv Po 301 24).toInt + 2 + 1 = (fv Po 301 24).toInt + 3 from by omega, show (fv Po 301 24).toInt + 2 + 2 = (fv Po 301 24).toInt + 4 from by omega, show (fv Po 301 24).toInt + 2 + 3 = (fv Po 301 24).toInt + 5 from by omega] at y526_
                  have u515 : 0 ≤ (0 : Int) ∧ (0 : Int) ≤ 1 ∧ (((fv Po 301 24).toInt ≤ (fv P497 301 24).toInt ∧ (fv P497 301 24).toInt ≤ (fv Po 301 23).toInt) ∧ (((0 : Int) = 1 ∧ CMD (chM Po) (fv Po 301 24).toInt (fv P497 301 24).toInt (fv P497 301 25).toInt (fv P497 301 26).toInt (fv P497 301 27).toInt (fv P497 301 28).toInt (fv P497 301 29).toInt) ∨ ((0 : Int) = 0 ∧ ¬ CMO (chM Po) (fv Po 301 24).toInt))) := ⟨by omega, by omega, ⟨by omega, by omega⟩, Or.inr ⟨rfl, fun ⟨i1, l1, a1, b1, n1, s1, q1, q2⟩ => by
                      rcases q2 with ⟨q2, k2, m2, q3, q4, q5, q6, q7, q8⟩ | ⟨q2, q3, q4, q5, q6, q7, q8⟩ | ⟨q2, q3, q8⟩ <;> omega⟩⟩
                  exact mp_iret ⟨⟨_, rfl, u515⟩, hT501, k504, trivial⟩ dX7_readsCommand_158 (Or.inr ⟨rfl, by decide⟩)
                · have c509 : x499.toInt ≠ 0 := ti_eq_n c509
                  refine mp_a (a_iconst (v := 1) dX7_readsCommand_153 rfl) (mpp 154 rfl ?_)
                  refine mp_a (a_goto (t := 158) dX7_readsCommand_154 (by decide)) ?_
                  have e528 : (fv P497 301 25).toInt = (fv P448 301 25).toInt := congrArg Int32.toInt (KW.at k502 25 rl_301 rfl)
                  have e529 : (fv P497 301 26).toInt = (fv P448 301 26).toInt := congrArg Int32.toInt (KW.at k502 26 rl_301 rfl)
                  have g530 := ti_full (fv P497 301 27)
                  have g531 := ti_full (fv P497 301 28)
                  have g532 := ti_full (fv P497 301 29)
                  have e535 : (fv P9 301 24).toInt = (fv Po 301 24).toInt := congrArg Int32.toInt (f12 301 24 (by omega))
                  have e536 : (fv P9 301 23).toInt = (fv Po 301 23).toInt := congrArg Int32.toInt (f12 301 23 (by omega))
                  have e537 : (fv P448 301 24).toInt = (fv P436 301 24).toInt := congrArg Int32.toInt (f451 301 24 (by omega))
                  have e538 : (fv P448 301 23).toInt = (fv P436 301 23).toInt := congrArg Int32.toInt (f451 301 23 (by omega))
                  have e539 : (fv P436 301 23).toInt = (fv P426 301 23).toInt := congrArg Int32.toInt (KW.at k441 23 rl_301 rfl)
                  have e540 : (fv P497 301 23).toInt = (fv P448 301 23).toInt := congrArg Int32.toInt (KW.at k502 23 rl_301 rfl)
                  have y541_ := g7
                  have t543_ : chM P426 = chM Po := chM_eq (fun j => by rw [f429 314 j (by omega), f12 314 j (by omega)]) (by rw [f429 301 23 (by omega), f12 301 23 (by omega)])
                  have y542_ := g439
                  rw [t543_, show (fv P426 301 24).toInt = (fv Po 301 24).toInt + 1 from by omega] at y542_
                  have t545_ : chM P448 = chM Po := chM_eq (fun j => by rw [f451 314 j (by omega), KW.at k441 j rl_314 rfl, f429 314 j (by omega), f12 314 j (by omega)]) (by rw [f451 301 23 (by omega), KW.at k441 23 rl_301 rfl, f429 301 23 (by omega), f12 301 23 (by omega)])
                  have y544_ := g500
                  rw [t545_, show (fv P448 301 24).toInt = (fv Po 301 24).toInt + 2 from by omega] at y544_
                  rw [show (fv Po 301 24).toInt + 2 + 1 = (fv Po 301 24).toInt + 3 from by omega, show (fv Po 301 24).toInt + 2 + 2 = (fv Po 301 24).toInt + 4 from by omega, show (fv Po 301 24).toInt + 2 + 3 = (fv Po 301 24).toInt + 5 from by omega] at y544_
                  have e546 : (fv P497 301 26).toInt = (fv P448 301 26).toInt := by rw [KW.at k502 26 rl_301 rfl]
                  have e547 : (fv P497 301 25).toInt = (fv P9 301 25).toInt := by rw [KW.at k502 25 rl_301 rfl, f451 301 25 (by omega), KW.at k441 25 rl_301 rfl, f429 301 25 (by omega)]
                  have u533 : 0 ≤ (1 : Int) ∧ (1 : Int) ≤ 1 ∧ (((fv Po 301 24).toInt ≤ (fv P497 301 24).toInt ∧ (fv P497 301 24).toInt ≤ (fv Po 301 23).toInt) ∧ (((1 : Int) = 1 ∧ CMD (chM Po) (fv Po 301 24).toInt (fv P497 301 24).toInt (fv P497 301 25).toInt (fv P497 301 26).toInt (fv P497 301 27).toInt (fv P497 301 28).toInt (fv P497 301 29).toInt) ∨ ((1 : Int) = 0 ∧ ¬ CMO (chM Po) (fv Po 301 24).toInt))) := ⟨by omega, by omega, ⟨by omega, by omega⟩, Or.inl ⟨rfl, by omega, Or.inr (Or.inl ⟨by omega, ⟨by omega, by omega⟩, by omega, ⟨by omega, by omega⟩, by omega, by have q : ((chM Po ((fv Po 301 24).toInt + 5)).toInt = 111 ∨ (chM Po ((fv Po 301 24).toInt + 5)).toInt = 109 ∨ (chM Po ((fv Po 301 24).toInt + 5)).toInt = 118) := (by omega); exact q, by omega, by omega, by omega, by omega⟩)⟩⟩
                  exact mp_iret ⟨⟨_, rfl, u533⟩, hT501, k504, trivial⟩ dX7_readsCommand_158 (Or.inr ⟨rfl, by decide⟩)
          · have c418 : (fv P9 301 25).toInt ≠ 102 := ti_eq_n c418
            refine mp_a (a_aload_n dX7_readsCommand_92 rfl) (mpp 93 rfl ?_)
            refine mt_getI (i := 321) (k := 25) hT10 dX7_readsCommand_93 rfl rl_301 (by decide) rfl (by decide) rfl (fun g548 g549 => mpp 96 rfl ?_)
            refine mp_a (a_bipush (v := 117) dX7_readsCommand_96 rfl) (mpp 98 rfl ?_)
            refine mp_Tb (t := 112) (j_icmp_eq dX7_readsCommand_98) (by decide) (fun c550 => ?_) (fun c550 => mpp 101 rfl ?_)
            · have c550 : (fv P9 301 25).toInt = 117 := ti_eq c550
              have e551 : (fv P9 301 24).toInt = (fv Po 301 24).toInt := congrArg Int32.toInt (f12 301 24 (by omega))
              refine mp_a (a_aload_n dX7_readsCommand_112 rfl) (mpp 113 rfl ?_)
              refine mp_t (s_dup dX7_readsCommand_113 rfl) (mpp 114 rfl ?_)
              have e552 : (fv P9 301 24).toInt = (fv Po 301 24).toInt := congrArg Int32.toInt (f12 301 24 (ne_k rfl))
              refine mt_getI (i := 294) (k := 24) hT10 dX7_readsCommand_114 rfl rl_301 (by decide) rfl (by decide) rfl (fun g553 g554 => mpp 117 rfl ?_)
              refine mp_a (a_iconst (v := 1) dX7_readsCommand_117 rfl) (mpp 118 rfl ?_)
              obtain ⟨z555, h556⟩ := ti_ex ((fv P9 301 24) + 1 : Int32)
              have wz555 := ti_full z555
              refine mp_t (s_iadd (v := z555) dX7_readsCommand_118 h556) (mpp 119 rfl ?_)
              try have e557 : z555.toInt = (fv P9 301 24).toInt + 1 := ti_addz h556 rfl rfl (by omega) (by omega)
              refine mt_putI (i := 294) (k := 24) (x := z555) hT10 dX7_readsCommand_119 rfl rl_301 (by decide) rfl (by decide) rfl ⟨by omega, by omega⟩ rfl rfl (fun P558 hT559 f560 f561 f562 => mpp 122 rfl ?_)
              have k563 : KW [1112, 1113, 1114, 1115, 1116, 1117] Po P558 := KW.step k14 rl_301 rfl f561 f562
              have e564 : (fv P558 301 24).toInt = z555.toInt := congrArg Int32.toInt f560
              refine mp_a (a_aload_n dX7_readsCommand_122 rfl) (mpp 123 rfl ?_)
              refine mp_a (a_aload_n dX7_readsCommand_123 rfl) (mpp 124 rfl ?_)
              have e565 : (fv P558 301 23).toInt = (fv Po 301 23).toInt := congrArg Int32.toInt ((f561 301 23 (ne_k rfl)).trans (f12 301 23 (ne_k rfl)))
              have p566 : (fv P558 301 24).toInt ≤ (fv P558 301 23).toInt := by omega
              refine mt_callv (i := 315) (q' := q_223) (As := []) (rest := [.ref 301]) hT559 dX7_readsCommand_124 rfl qm_223 (by decide) rfl rl_301 (by decide) rfl (Nat.le_of_ble_eq_true rfl) rfl ⟨rfl, rfl⟩ ⟨Nat.le_of_ble_eq_true rfl, Nat.le_of_ble_eq_true rfl⟩ (EvP.mono (by decide) (c_M_digit hT559 p566 )) (fun r567 P568 g569 => mpp 127 rfl ?_)
              obtain ⟨⟨x570, rfl, g571⟩, hT572, k573, R574⟩ := g569
              have k575 : KW [1112, 1113, 1114, 1115, 1116, 1117] Po P568 := KW.trans k563 k573 rfl
              have wx570 := ti_full x570
              replace g571 : ((fv P558 301 24).toInt ≤ (fv P568 301 24).toInt ∧ (fv P568 301 24).toInt ≤ (fv P558 301 23).toInt) ∧ (((48 ≤ (chM P558 (fv P558 301 24).toInt).toInt ∧ (chM P558 (fv P558 301 24).toInt).toInt ≤ 57) ∧ x570.toInt = (chM P558 (fv P558 301 24).toInt).toInt - 48 ∧ (fv P568 301 24).toInt = (fv P558 301 24).toInt + 1) ∨ (¬ (48 ≤ (chM P558 (fv P558 301 24).toInt).toInt ∧ (chM P558 (fv P558 301 24).toInt).toInt ≤ 57) ∧ x570.toInt = -1)) := g571
              have g577 : (0 : Int) ≤ (fv P568 301 24).toInt ∧ (fv P568 301 24).toInt ≤ 81 := Typ.rng hT572 rl_301 (by decide) (by decide) rfl
              have g578 : (0 : Int) ≤ (fv P568 301 24).toInt ∧ (fv P568 301 24).toInt ≤ 81 := Typ.rng hT572 rl_301 (by decide) (by decide) rfl
              have g579 : (0 : Int) ≤ (fv P568 301 24).toInt ∧ (fv P568 301 24).toInt ≤ 81 := Typ.rng hT572 rl_301 (by decide) (by decide) rfl
              show MEvP _ none q_217 127 [(0, .ref 301)] [.int x570, .ref 301] _ _ _ _
              refine mt_putI (i := 300) (k := 26) (x := x570) hT572 dX7_readsCommand_127 rfl rl_301 (by decide) rfl (by decide) rfl (ti_full x570) rfl rfl (fun P580 hT581 f582 f583 f584 => mpp 130 rfl ?_)
              have k585 : KW [1112, 1113, 1114, 1115, 1116, 1117] Po P580 := KW.step k575 rl_301 rfl f583 f584
              have e586 : (fv P580 301 26).toInt = x570.toInt := congrArg Int32.toInt f582
              refine mp_a (a_aload_n dX7_readsCommand_130 rfl) (mpp 131 rfl ?_)
              refine mt_getI (i := 300) (k := 26) hT581 dX7_readsCommand_131 rfl rl_301 (by decide) rfl (by decide) rfl (fun g587 g588 => mpp 134 rfl ?_)
              refine mp_Tb (t := 157) (j_if_lt dX7_readsCommand_134) (by decide) (fun c589 => ?_) (fun c589 => mpp 137 rfl ?_)
              · have c589 : (fv P580 301 26).toInt < 0 := ti_lt c589
                refine mp_a (a_iconst (v := 0) dX7_readsCommand_157 rfl) (mpp 158 rfl ?_)
                have e590 : (fv P580 301 24).toInt = (fv P568 301 24).toInt := congrArg Int32.toInt (f583 301 24 (ne_k rfl))
                have e591 : (fv P580 301 25).toInt = (fv P9 301 25).toInt := congrArg Int32.toInt ((f583 301 25 (ne_k rfl)).trans ((KW.at k573 25 rl_301 rfl).trans (f561 301 25 (ne_k rfl))))
                have g592 := ti_full (fv P580 301 27)
                have g593 := ti_full (fv P580 301 28)
                have g594 := ti_full (fv P580 301 29)
                have e597 : (fv P9 301 24).toInt = (fv Po 301 24).toInt := congrArg Int32.toInt (f12 301 24 (by omega))
                have e598 : (fv P9 301 23).toInt = (fv Po 301 23).toInt := congrArg Int32.toInt (f12 301 23 (by omega))
                have e599 : (fv P580 301 24).toInt = (fv P568 301 24).toInt := congrArg Int32.toInt (f583 301 24 (by omega))
                have e600 : (fv P580 301 23).toInt = (fv P568 301 23).toInt := congrArg Int32.toInt (f583 301 23 (by omega))
                have e601 : (fv P568 301 23).toInt = (fv P558 301 23).toInt := congrArg Int32.toInt (KW.at k573 23 rl_301 rfl)
                have y602_ := g7
                have t604_ : chM P558 = chM Po := chM_eq (fun j => by rw [f561 314 j (by omega), f12 314 j (by omega)]) (by rw [f561 301 23 (by omega), f12 301 23 (by omega)])
                have y603_ := g571
                rw [t604_, show (fv P558 301 24).toInt = (fv Po 301 24).toInt + 1 from by omega] at y603_
                have u595 : 0 ≤ (0 : Int) ∧ (0 : Int) ≤ 1 ∧ (((fv Po 301 24).toInt ≤ (fv P580 301 24).toInt ∧ (fv P580 301 24).toInt ≤ (fv Po 301 23).toInt) ∧ (((0 : Int) = 1 ∧ CMD (chM Po) (fv Po 301 24).toInt (fv P580 301 24).toInt (fv P580 301 25).toInt (fv P580 301 26).toInt (fv P580 301 27).toInt (fv P580 301 28).toInt (fv P580 301 29).toInt) ∨ ((0 : Int) = 0 ∧ ¬ CMO (chM Po) (fv Po 301 24).toInt))) := ⟨by omega, by omega, ⟨by omega, by omega⟩, Or.inr ⟨rfl, fun ⟨i1, l1, a1, b1, n1, s1, q1, q2⟩ => by
                    rcases q2 with ⟨q2, k2, m2, q3, q4, q5, q6, q7, q8⟩ | ⟨q2, q3, q4, q5, q6, q7, q8⟩ | ⟨q2, q3, q8⟩ <;> omega⟩⟩
                exact mp_iret ⟨⟨_, rfl, u595⟩, hT581, k585, trivial⟩ dX7_readsCommand_158 (Or.inr ⟨rfl, by decide⟩)
              · have c589 : (fv P580 301 26).toInt ≥ 0 := ti_lt_n c589
                refine mp_a (a_aload_n dX7_readsCommand_137 rfl) (mpp 138 rfl ?_)
                have e605 : (fv P580 301 25).toInt = (fv P9 301 25).toInt := congrArg Int32.toInt ((f583 301 25 (ne_k rfl)).trans ((KW.at k573 25 rl_301 rfl).trans (f561 301 25 (ne_k rfl))))
                refine mt_getI (i := 321) (k := 25) hT581 dX7_readsCommand_138 rfl rl_301 (by decide) rfl (by decide) rfl (fun g606 g607 => mpp 141 rfl ?_)
                refine mp_a (a_bipush (v := 109) dX7_readsCommand_141 rfl) (mpp 143 rfl ?_)
                refine mp_Tb (t := 153) (j_icmp_ne dX7_readsCommand_143) (by decide) (fun c608 => ?_) (fun c608 => mpp 146 rfl ?_)
                · have c608 : (fv P580 301 25).toInt ≠ 109 := ti_ne c608
                  refine mp_a (a_iconst (v := 1) dX7_readsCommand_153 rfl) (mpp 154 rfl ?_)
                  refine mp_a (a_goto (t := 158) dX7_readsCommand_154 (by decide)) ?_
                  have e609 : (fv P580 301 24).toInt = (fv P568 301 24).toInt := congrArg Int32.toInt (f583 301 24 (ne_k rfl))
                  have g610 := ti_full (fv P580 301 27)
                  have g611 := ti_full (fv P580 301 28)
                  have g612 := ti_full (fv P580 301 29)
                  have e615 : (fv P9 301 24).toInt = (fv Po 301 24).toInt := congrArg Int32.toInt (f12 301 24 (by omega))
                  have e616 : (fv P9 301 23).toInt = (fv Po 301 23).toInt := congrArg Int32.toInt (f12 301 23 (by omega))
                  have e617 : (fv P580 301 24).toInt = (fv P568 301 24).toInt := congrArg Int32.toInt (f583 301 24 (by omega))
                  have e618 : (fv P580 301 23).toInt = (fv P568 301 23).toInt := congrArg Int32.toInt (f583 301 23 (by omega))
                  have e619 : (fv P568 301 23).toInt = (fv P558 301 23).toInt := congrArg Int32.toInt (KW.at k573 23 rl_301 rfl)
                  have y620_ := g7
                  have t622_ : chM P558 = chM Po := chM_eq (fun j => by rw [f561 314 j (by omega), f12 314 j (by omega)]) (by rw [f561 301 23 (by omega), f12 301 23 (by omega)])
                  have y621_ := g571
                  rw [t622_, show (fv P558 301 24).toInt = (fv Po 301 24).toInt + 1 from by omega] at y621_
                  have e623 : (fv P580 301 26).toInt = (fv P580 301 26).toInt := rfl
                  have e624 : (fv P580 301 25).toInt = (fv P9 301 25).toInt := by rw [f583 301 25 (by omega), KW.at k573 25 rl_301 rfl, f561 301 25 (by omega)]
                  have u613 : 0 ≤ (1 : Int) ∧ (1 : Int) ≤ 1 ∧ (((fv Po 301 24).toInt ≤ (fv P580 301 24).toInt ∧ (fv P580 301 24).toInt ≤ (fv Po 301 23).toInt) ∧ (((1 : Int) = 1 ∧ CMD (chM Po) (fv Po 301 24).toInt (fv P580 301 24).toInt (fv P580 301 25).toInt (fv P580 301 26).toInt (fv P580 301 27).toInt (fv P580 301 28).toInt (fv P580 301 29).toInt) ∨ ((1 : Int) = 0 ∧ ¬ CMO (chM Po) (fv Po 301 24).toInt))) := ⟨by omega, by omega, ⟨by omega, by omega⟩, Or.inl ⟨rfl, by omega, Or.inr (Or.inr ⟨by omega, ⟨by omega, by omega⟩, by omega, by omega⟩)⟩⟩
                  exact mp_iret ⟨⟨_, rfl, u613⟩, hT581, k585, trivial⟩ dX7_readsCommand_158 (Or.inr ⟨rfl, by decide⟩)
                · have c608 : (fv P580 301 25).toInt = 109 := ti_ne_n c608
                  refine mp_a (a_aload_n dX7_readsCommand_146 rfl) (mpp 147 rfl ?_)
                  have e625 : (fv P580 301 24).toInt = (fv P568 301 24).toInt := congrArg Int32.toInt (f583 301 24 (ne_k rfl))
                  have e626 : (fv P580 301 23).toInt = (fv P558 301 23).toInt := congrArg Int32.toInt ((f583 301 23 (ne_k rfl)).trans (KW.at k573 23 rl_301 rfl))
                  have p627 : (fv P580 301 24).toInt ≤ (fv P580 301 23).toInt := by omega
                  refine mt_callv (i := 330) (q' := q_224) (As := []) (rest := []) hT581 dX7_readsCommand_147 rfl qm_224 (by decide) rfl rl_301 (by decide) rfl (Nat.le_of_ble_eq_true rfl) rfl ⟨rfl, rfl⟩ ⟨Nat.le_of_ble_eq_true rfl, Nat.le_of_ble_eq_true rfl⟩ (EvP.mono (by decide) (c_M_readsMark hT581 p627 )) (fun r628 P629 g630 => mpp 150 rfl ?_)
                  obtain ⟨⟨x631, rfl, g632⟩, hT633, k634, R635⟩ := g630
                  have k636 : KW [1112, 1113, 1114, 1115, 1116, 1117] Po P629 := KW.trans k585 k634 rfl
                  have wx631 := ti_full x631
                  replace g632 : 0 ≤ x631.toInt ∧ x631.toInt ≤ 1 ∧ (((fv P580 301 24).toInt ≤ (fv P629 301 24).toInt ∧ (fv P629 301 24).toInt ≤ (fv P580 301 23).toInt) ∧ ((x631.toInt = 1 ∧ ((chM P580 (fv P580 301 24).toInt).toInt = 46 ∧ (48 ≤ (chM P580 ((fv P580 301 24).toInt + 1)).toInt ∧ (chM P580 ((fv P580 301 24).toInt + 1)).toInt ≤ 57) ∧ (chM P580 ((fv P580 301 24).toInt + 2)).toInt = 61 ∧ ((chM P580 ((fv P580 301 24).toInt + 3)).toInt = 111 ∨ (chM P580 ((fv P580 301 24).toInt + 3)).toInt = 109 ∨ (chM P580 ((fv P580 301 24).toInt + 3)).toInt = 118)) ∧ (fv P629 301 24).toInt = (fv P580 301 24).toInt + 4 ∧ (fv P629 301 27).toInt = (chM P580 ((fv P580 301 24).toInt + 1)).toInt - 48 ∧ (fv P629 301 29).toInt = (kn (chM P580 ((fv P580 301 24).toInt + 3)).toInt).toInt) ∨ (x631.toInt = 0 ∧ ¬ ((chM P580 (fv P580 301 24).toInt).toInt = 46 ∧ (48 ≤ (chM P580 ((fv P580 301 24).toInt + 1)).toInt ∧ (chM P580 ((fv P580 301 24).toInt + 1)).toInt ≤ 57) ∧ (chM P580 ((fv P580 301 24).toInt + 2)).toInt = 61 ∧ ((chM P580 ((fv P580 301 24).toInt + 3)).toInt = 111 ∨ (chM P580 ((fv P580 301 24).toInt + 3)).toInt = 109 ∨ (chM P580 ((fv P580 301 24).toInt + 3)).toInt = 118))))) := g632
                  have g638 : (0 : Int) ≤ (fv P629 301 24).toInt ∧ (fv P629 301 24).toInt ≤ 81 := Typ.rng hT633 rl_301 (by decide) (by decide) rfl
                  have g639 : (0 : Int) ≤ (fv P629 301 24).toInt ∧ (fv P629 301 24).toInt ≤ 81 := Typ.rng hT633 rl_301 (by decide) (by decide) rfl
                  have g640 : (0 : Int) ≤ (fv P629 301 24).toInt ∧ (fv P629 301 24).toInt ≤ 81 := Typ.rng hT633 rl_301 (by decide) (by decide) rfl
                  show MEvP _ none q_217 150 [(0, .ref 301)] [.int x631] _ _ _ _
                  refine mp_Tb (t := 157) (j_if_eq dX7_readsCommand_150) (by decide) (fun c641 => ?_) (fun c641 => mpp 153 rfl ?_)
                  · have c641 : x631.toInt = 0 := ti_eq c641
                    refine mp_a (a_iconst (v := 0) dX7_readsCommand_157 rfl) (mpp 158 rfl ?_)
                    have e642 : (fv P629 301 25).toInt = (fv P580 301 25).toInt := congrArg Int32.toInt (KW.at k634 25 rl_301 rfl)
                    have e643 : (fv P629 301 26).toInt = (fv P580 301 26).toInt := congrArg Int32.toInt (KW.at k634 26 rl_301 rfl)
                    have g644 := ti_full (fv P629 301 27)
                    have g645 := ti_full (fv P629 301 28)
                    have g646 := ti_full (fv P629 301 29)
                    have e649 : (fv P9 301 24).toInt = (fv Po 301 24).toInt := congrArg Int32.toInt (f12 301 24 (by omega))
                    have e650 : (fv P9 301 23).toInt = (fv Po 301 23).toInt := congrArg Int32.toInt (f12 301 23 (by omega))
                    have e651 : (fv P580 301 24).toInt = (fv P568 301 24).toInt := congrArg Int32.toInt (f583 301 24 (by omega))
                    have e652 : (fv P580 301 23).toInt = (fv P568 301 23).toInt := congrArg Int32.toInt (f583 301 23 (by omega))
                    have e653 : (fv P568 301 23).toInt = (fv P558 301 23).toInt := congrArg Int32.toInt (KW.at k573 23 rl_301 rfl)
                    have e654 : (fv P629 301 23).toInt = (fv P580 301 23).toInt := congrArg Int32.toInt (KW.at k634 23 rl_301 rfl)
                    have y655_ := g7
                    have t657_ : chM P558 = chM Po := chM_eq (fun j => by rw [f561 314 j (by omega), f12 314 j (by omega)]) (by rw [f561 301 23 (by omega), f12 301 23 (by omega)])
                    have y656_ := g571
                    rw [t657_, show (fv P558 301 24).toInt = (fv Po 301 24).toInt + 1 from by omega] at y656_
                    have t659_ : chM P580 = chM Po := chM_eq (fun j => by rw [f583 314 j (by omega), KW.at k573 j rl_314 rfl, f561 314 j (by omega), f12 314 j (by omega)]) (by rw [f583 301 23 (by omega), KW.at k573 23 rl_301 rfl, f561 301 23 (by omega), f12 301 23 (by omega)])
                    have y658_ := g632
                    rw [t659_, show (fv P580 301 24).toInt = (fv Po 301 24).toInt + 2 from by omega] at y658_
                    rw [show (fv Po 301 24).toInt + 2 + 1 = (fv Po 301 24).toInt + 3 from by omega, show (fv Po 301 24).toInt + 2 + 2 = (fv Po 301 24).toInt + 4 from by omega, show (fv Po 301 24).toInt + 2 + 3 = (fv Po 301 24).toInt + 5 from by omega] at y658_
                    have u647 : 0 ≤ (0 : Int) ∧ (0 : Int) ≤ 1 ∧ (((fv Po 301 24).toInt ≤ (fv P629 301 24).toInt ∧ (fv P629 301 24).toInt ≤ (fv Po 301 23).toInt) ∧ (((0 : Int) = 1 ∧ CMD (chM Po) (fv Po 301 24).toInt (fv P629 301 24).toInt (fv P629 301 25).toInt (fv P629 301 26).toInt (fv P629 301 27).toInt (fv P629 301 28).toInt (fv P629 301 29).toInt) ∨ ((0 : Int) = 0 ∧ ¬ CMO (chM Po) (fv Po 301 24).toInt))) := ⟨by omega, by omega, ⟨by omega, by omega⟩, Or.inr ⟨rfl, fun ⟨i1, l1, a1, b1, n1, s1, q1, q2⟩ => by
                        rcases q2 with ⟨q2, k2, m2, q3, q4, q5, q6, q7, q8⟩ | ⟨q2, q3, q4, q5, q6, q7, q8⟩ | ⟨q2, q3, q8⟩ <;> omega⟩⟩
                    exact mp_iret ⟨⟨_, rfl, u647⟩, hT633, k636, trivial⟩ dX7_readsCommand_158 (Or.inr ⟨rfl, by decide⟩)
                  · have c641 : x631.toInt ≠ 0 := ti_eq_n c641
                    refine mp_a (a_iconst (v := 1) dX7_readsCommand_153 rfl) (mpp 154 rfl ?_)
                    refine mp_a (a_goto (t := 158) dX7_readsCommand_154 (by decide)) ?_
                    have e660 : (fv P629 301 25).toInt = (fv P580 301 25).toInt := congrArg Int32.toInt (KW.at k634 25 rl_301 rfl)
                    have e661 : (fv P629 301 26).toInt = (fv P580 301 26).toInt := congrArg Int32.toInt (KW.at k634 26 rl_301 rfl)
                    have g662 := ti_full (fv P629 301 27)
                    have g663 := ti_full (fv P629 301 28)
                    have g664 := ti_full (fv P629 301 29)
                    have e667 : (fv P9 301 24).toInt = (fv Po 301 24).toInt := congrArg Int32.toInt (f12 301 24 (by omega))
                    have e668 : (fv P9 301 23).toInt = (fv Po 301 23).toInt := congrArg Int32.toInt (f12 301 23 (by omega))
                    have e669 : (fv P580 301 24).toInt = (fv P568 301 24).toInt := congrArg Int32.toInt (f583 301 24 (by omega))
                    have e670 : (fv P580 301 23).toInt = (fv P568 301 23).toInt := congrArg Int32.toInt (f583 301 23 (by omega))
                    have e671 : (fv P568 301 23).toInt = (fv P558 301 23).toInt := congrArg Int32.toInt (KW.at k573 23 rl_301 rfl)
                    have e672 : (fv P629 301 23).toInt = (fv P580 301 23).toInt := congrArg Int32.toInt (KW.at k634 23 rl_301 rfl)
                    have y673_ := g7
                    have t675_ : chM P558 = chM Po := chM_eq (fun j => by rw [f561 314 j (by omega), f12 314 j (by omega)]) (by rw [f561 301 23 (by omega), f12 301 23 (by omega)])
                    have y674_ := g571
                    rw [t675_, show (fv P558 301 24).toInt = (fv Po 301 24).toInt + 1 from by omega] at y674_
                    have t677_ : chM P580 = chM Po := chM_eq (fun j => by rw [f583 314 j (by omega), KW.at k573 j rl_314 rfl, f561 314 j (by omega), f12 314 j (by omega)]) (by rw [f583 301 23 (by omega), KW.at k573 23 rl_301 rfl, f561 301 23 (by omega), f12 301 23 (by omega)])
                    have y676_ := g632
                    rw [t677_, show (fv P580 301 24).toInt = (fv Po 301 24).toInt + 2 from by omega] at y676_
                    rw [show (fv Po 301 24).toInt + 2 + 1 = (fv Po 301 24).toInt + 3 from by omega, show (fv Po 301 24).toInt + 2 + 2 = (fv Po 301 24).toInt + 4 from by omega, show (fv Po 301 24).toInt + 2 + 3 = (fv Po 301 24).toInt + 5 from by omega] at y676_
                    have e678 : (fv P629 301 26).toInt = (fv P580 301 26).toInt := by rw [KW.at k634 26 rl_301 rfl]
                    have e679 : (fv P629 301 25).toInt = (fv P9 301 25).toInt := by rw [KW.at k634 25 rl_301 rfl, f583 301 25 (by omega), KW.at k573 25 rl_301 rfl, f561 301 25 (by omega)]
                    have u665 : 0 ≤ (1 : Int) ∧ (1 : Int) ≤ 1 ∧ (((fv Po 301 24).toInt ≤ (fv P629 301 24).toInt ∧ (fv P629 301 24).toInt ≤ (fv Po 301 23).toInt) ∧ (((1 : Int) = 1 ∧ CMD (chM Po) (fv Po 301 24).toInt (fv P629 301 24).toInt (fv P629 301 25).toInt (fv P629 301 26).toInt (fv P629 301 27).toInt (fv P629 301 28).toInt (fv P629 301 29).toInt) ∨ ((1 : Int) = 0 ∧ ¬ CMO (chM Po) (fv Po 301 24).toInt))) := ⟨by omega, by omega, ⟨by omega, by omega⟩, Or.inl ⟨rfl, by omega, Or.inr (Or.inl ⟨by omega, ⟨by omega, by omega⟩, by omega, ⟨by omega, by omega⟩, by omega, by have q : ((chM Po ((fv Po 301 24).toInt + 5)).toInt = 111 ∨ (chM Po ((fv Po 301 24).toInt + 5)).toInt = 109 ∨ (chM Po ((fv Po 301 24).toInt + 5)).toInt = 118) := (by omega); exact q, by omega, by omega, by omega, by omega⟩)⟩⟩
                    exact mp_iret ⟨⟨_, rfl, u665⟩, hT633, k636, trivial⟩ dX7_readsCommand_158 (Or.inr ⟨rfl, by decide⟩)
            · have c550 : (fv P9 301 25).toInt ≠ 117 := ti_eq_n c550
              refine mp_a (a_aload_n dX7_readsCommand_101 rfl) (mpp 102 rfl ?_)
              refine mt_getI (i := 321) (k := 25) hT10 dX7_readsCommand_102 rfl rl_301 (by decide) rfl (by decide) rfl (fun g680 g681 => mpp 105 rfl ?_)
              refine mp_a (a_bipush (v := 120) dX7_readsCommand_105 rfl) (mpp 107 rfl ?_)
              refine mp_Tb (t := 112) (j_icmp_eq dX7_readsCommand_107) (by decide) (fun c682 => ?_) (fun c682 => mpp 110 rfl ?_)
              · have c682 : (fv P9 301 25).toInt = 120 := ti_eq c682
                have e683 : (fv P9 301 24).toInt = (fv Po 301 24).toInt := congrArg Int32.toInt (f12 301 24 (by omega))
                refine mp_a (a_aload_n dX7_readsCommand_112 rfl) (mpp 113 rfl ?_)
                refine mp_t (s_dup dX7_readsCommand_113 rfl) (mpp 114 rfl ?_)
                have e684 : (fv P9 301 24).toInt = (fv Po 301 24).toInt := congrArg Int32.toInt (f12 301 24 (ne_k rfl))
                refine mt_getI (i := 294) (k := 24) hT10 dX7_readsCommand_114 rfl rl_301 (by decide) rfl (by decide) rfl (fun g685 g686 => mpp 117 rfl ?_)
                refine mp_a (a_iconst (v := 1) dX7_readsCommand_117 rfl) (mpp 118 rfl ?_)
                obtain ⟨z687, h688⟩ := ti_ex ((fv P9 301 24) + 1 : Int32)
                have wz687 := ti_full z687
                refine mp_t (s_iadd (v := z687) dX7_readsCommand_118 h688) (mpp 119 rfl ?_)
                try have e689 : z687.toInt = (fv P9 301 24).toInt + 1 := ti_addz h688 rfl rfl (by omega) (by omega)
                refine mt_putI (i := 294) (k := 24) (x := z687) hT10 dX7_readsCommand_119 rfl rl_301 (by decide) rfl (by decide) rfl ⟨by omega, by omega⟩ rfl rfl (fun P690 hT691 f692 f693 f694 => mpp 122 rfl ?_)
                have k695 : KW [1112, 1113, 1114, 1115, 1116, 1117] Po P690 := KW.step k14 rl_301 rfl f693 f694
                have e696 : (fv P690 301 24).toInt = z687.toInt := congrArg Int32.toInt f692
                refine mp_a (a_aload_n dX7_readsCommand_122 rfl) (mpp 123 rfl ?_)
                refine mp_a (a_aload_n dX7_readsCommand_123 rfl) (mpp 124 rfl ?_)
                have e697 : (fv P690 301 23).toInt = (fv Po 301 23).toInt := congrArg Int32.toInt ((f693 301 23 (ne_k rfl)).trans (f12 301 23 (ne_k rfl)))
                have p698 : (fv P690 301 24).toInt ≤ (fv P690 301 23).toInt := by omega
                refine mt_callv (i := 315) (q' := q_223) (As := []) (rest := [.ref 301]) hT691 dX7_readsCommand_124 rfl qm_223 (by decide) rfl rl_301 (by decide) rfl (Nat.le_of_ble_eq_true rfl) rfl ⟨rfl, rfl⟩ ⟨Nat.le_of_ble_eq_true rfl, Nat.le_of_ble_eq_true rfl⟩ (EvP.mono (by decide) (c_M_digit hT691 p698 )) (fun r699 P700 g701 => mpp 127 rfl ?_)
                obtain ⟨⟨x702, rfl, g703⟩, hT704, k705, R706⟩ := g701
                have k707 : KW [1112, 1113, 1114, 1115, 1116, 1117] Po P700 := KW.trans k695 k705 rfl
                have wx702 := ti_full x702
                replace g703 : ((fv P690 301 24).toInt ≤ (fv P700 301 24).toInt ∧ (fv P700 301 24).toInt ≤ (fv P690 301 23).toInt) ∧ (((48 ≤ (chM P690 (fv P690 301 24).toInt).toInt ∧ (chM P690 (fv P690 301 24).toInt).toInt ≤ 57) ∧ x702.toInt = (chM P690 (fv P690 301 24).toInt).toInt - 48 ∧ (fv P700 301 24).toInt = (fv P690 301 24).toInt + 1) ∨ (¬ (48 ≤ (chM P690 (fv P690 301 24).toInt).toInt ∧ (chM P690 (fv P690 301 24).toInt).toInt ≤ 57) ∧ x702.toInt = -1)) := g703
                have g709 : (0 : Int) ≤ (fv P700 301 24).toInt ∧ (fv P700 301 24).toInt ≤ 81 := Typ.rng hT704 rl_301 (by decide) (by decide) rfl
                have g710 : (0 : Int) ≤ (fv P700 301 24).toInt ∧ (fv P700 301 24).toInt ≤ 81 := Typ.rng hT704 rl_301 (by decide) (by decide) rfl
                have g711 : (0 : Int) ≤ (fv P700 301 24).toInt ∧ (fv P700 301 24).toInt ≤ 81 := Typ.rng hT704 rl_301 (by decide) (by decide) rfl
                show MEvP _ none q_217 127 [(0, .ref 301)] [.int x702, .ref 301] _ _ _ _
                refine mt_putI (i := 300) (k := 26) (x := x702) hT704 dX7_readsCommand_127 rfl rl_301 (by decide) rfl (by decide) rfl (ti_full x702) rfl rfl (fun P712 hT713 f714 f715 f716 => mpp 130 rfl ?_)
                have k717 : KW [1112, 1113, 1114, 1115, 1116, 1117] Po P712 := KW.step k707 rl_301 rfl f715 f716
                have e718 : (fv P712 301 26).toInt = x702.toInt := congrArg Int32.toInt f714
                refine mp_a (a_aload_n dX7_readsCommand_130 rfl) (mpp 131 rfl ?_)
                refine mt_getI (i := 300) (k := 26) hT713 dX7_readsCommand_131 rfl rl_301 (by decide) rfl (by decide) rfl (fun g719 g720 => mpp 134 rfl ?_)
                refine mp_Tb (t := 157) (j_if_lt dX7_readsCommand_134) (by decide) (fun c721 => ?_) (fun c721 => mpp 137 rfl ?_)
                · have c721 : (fv P712 301 26).toInt < 0 := ti_lt c721
                  refine mp_a (a_iconst (v := 0) dX7_readsCommand_157 rfl) (mpp 158 rfl ?_)
                  have e722 : (fv P712 301 24).toInt = (fv P700 301 24).toInt := congrArg Int32.toInt (f715 301 24 (ne_k rfl))
                  have e723 : (fv P712 301 25).toInt = (fv P9 301 25).toInt := congrArg Int32.toInt ((f715 301 25 (ne_k rfl)).trans ((KW.at k705 25 rl_301 rfl).trans (f693 301 25 (ne_k rfl))))
                  have g724 := ti_full (fv P712 301 27)
                  have g725 := ti_full (fv P712 301 28)
                  have g726 := ti_full (fv P712 301 29)
                  have e729 : (fv P9 301 24).toInt = (fv Po 301 24).toInt := congrArg Int32.toInt (f12 301 24 (by omega))
                  have e730 : (fv P9 301 23).toInt = (fv Po 301 23).toInt := congrArg Int32.toInt (f12 301 23 (by omega))
                  have e731 : (fv P712 301 24).toInt = (fv P700 301 24).toInt := congrArg Int32.toInt (f715 301 24 (by omega))
                  have e732 : (fv P712 301 23).toInt = (fv P700 301 23).toInt := congrArg Int32.toInt (f715 301 23 (by omega))
                  have e733 : (fv P700 301 23).toInt = (fv P690 301 23).toInt := congrArg Int32.toInt (KW.at k705 23 rl_301 rfl)
                  have y734_ := g7
                  have t736_ : chM P690 = chM Po := chM_eq (fun j => by rw [f693 314 j (by omega), f12 314 j (by omega)]) (by rw [f693 301 23 (by omega), f12 301 23 (by omega)])
                  have y735_ := g703
                  rw [t736_, show (fv P690 301 24).toInt = (fv Po 301 24).toInt + 1 from by omega] at y735_
                  have u727 : 0 ≤ (0 : Int) ∧ (0 : Int) ≤ 1 ∧ (((fv Po 301 24).toInt ≤ (fv P712 301 24).toInt ∧ (fv P712 301 24).toInt ≤ (fv Po 301 23).toInt) ∧ (((0 : Int) = 1 ∧ CMD (chM Po) (fv Po 301 24).toInt (fv P712 301 24).toInt (fv P712 301 25).toInt (fv P712 301 26).toInt (fv P712 301 27).toInt (fv P712 301 28).toInt (fv P712 301 29).toInt) ∨ ((0 : Int) = 0 ∧ ¬ CMO (chM Po) (fv Po 301 24).toInt))) := ⟨by omega, by omega, ⟨by omega, by omega⟩, Or.inr ⟨rfl, fun ⟨i1, l1, a1, b1, n1, s1, q1, q2⟩ => by
                      rcases q2 with ⟨q2, k2, m2, q3, q4, q5, q6, q7, q8⟩ | ⟨q2, q3, q4, q5, q6, q7, q8⟩ | ⟨q2, q3, q8⟩ <;> omega⟩⟩
                  exact mp_iret ⟨⟨_, rfl, u727⟩, hT713, k717, trivial⟩ dX7_readsCommand_158 (Or.inr ⟨rfl, by decide⟩)
                · have c721 : (fv P712 301 26).toInt ≥ 0 := ti_lt_n c721
                  refine mp_a (a_aload_n dX7_readsCommand_137 rfl) (mpp 138 rfl ?_)
                  have e737 : (fv P712 301 25).toInt = (fv P9 301 25).toInt := congrArg Int32.toInt ((f715 301 25 (ne_k rfl)).trans ((KW.at k705 25 rl_301 rfl).trans (f693 301 25 (ne_k rfl))))
                  refine mt_getI (i := 321) (k := 25) hT713 dX7_readsCommand_138 rfl rl_301 (by decide) rfl (by decide) rfl (fun g738 g739 => mpp 141 rfl ?_)
                  refine mp_a (a_bipush (v := 109) dX7_readsCommand_141 rfl) (mpp 143 rfl ?_)
                  refine mp_Tb (t := 153) (j_icmp_ne dX7_readsCommand_143) (by decide) (fun c740 => ?_) (fun c740 => mpp 146 rfl ?_)
                  · have c740 : (fv P712 301 25).toInt ≠ 109 := ti_ne c740
                    refine mp_a (a_iconst (v := 1) dX7_readsCommand_153 rfl) (mpp 154 rfl ?_)
                    refine mp_a (a_goto (t := 158) dX7_readsCommand_154 (by decide)) ?_
                    have e741 : (fv P712 301 24).toInt = (fv P700 301 24).toInt := congrArg Int32.toInt (f715 301 24 (ne_k rfl))
                    have g742 := ti_full (fv P712 301 27)
                    have g743 := ti_full (fv P712 301 28)
                    have g744 := ti_full (fv P712 301 29)
                    have e747 : (fv P9 301 24).toInt = (fv Po 301 24).toInt := congrArg Int32.toInt (f12 301 24 (by omega))
                    have e748 : (fv P9 301 23).toInt = (fv Po 301 23).toInt := congrArg Int32.toInt (f12 301 23 (by omega))
                    have e749 : (fv P712 301 24).toInt = (fv P700 301 24).toInt := congrArg Int32.toInt (f715 301 24 (by omega))
                    have e750 : (fv P712 301 23).toInt = (fv P700 301 23).toInt := congrArg Int32.toInt (f715 301 23 (by omega))
                    have e751 : (fv P700 301 23).toInt = (fv P690 301 23).toInt := congrArg Int32.toInt (KW.at k705 23 rl_301 rfl)
                    have y752_ := g7
                    have t754_ : chM P690 = chM Po := chM_eq (fun j => by rw [f693 314 j (by omega), f12 314 j (by omega)]) (by rw [f693 301 23 (by omega), f12 301 23 (by omega)])
                    have y753_ := g703
                    rw [t754_, show (fv P690 301 24).toInt = (fv Po 301 24).toInt + 1 from by omega] at y753_
                    have e755 : (fv P712 301 26).toInt = (fv P712 301 26).toInt := rfl
                    have e756 : (fv P712 301 25).toInt = (fv P9 301 25).toInt := by rw [f715 301 25 (by omega), KW.at k705 25 rl_301 rfl, f693 301 25 (by omega)]
                    have u745 : 0 ≤ (1 : Int) ∧ (1 : Int) ≤ 1 ∧ (((fv Po 301 24).toInt ≤ (fv P712 301 24).toInt ∧ (fv P712 301 24).toInt ≤ (fv Po 301 23).toInt) ∧ (((1 : Int) = 1 ∧ CMD (chM Po) (fv Po 301 24).toInt (fv P712 301 24).toInt (fv P712 301 25).toInt (fv P712 301 26).toInt (fv P712 301 27).toInt (fv P712 301 28).toInt (fv P712 301 29).toInt) ∨ ((1 : Int) = 0 ∧ ¬ CMO (chM Po) (fv Po 301 24).toInt))) := ⟨by omega, by omega, ⟨by omega, by omega⟩, Or.inl ⟨rfl, by omega, Or.inr (Or.inr ⟨by omega, ⟨by omega, by omega⟩, by omega, by omega⟩)⟩⟩
                    exact mp_iret ⟨⟨_, rfl, u745⟩, hT713, k717, trivial⟩ dX7_readsCommand_158 (Or.inr ⟨rfl, by decide⟩)
                  · have c740 : (fv P712 301 25).toInt = 109 := ti_ne_n c740
                    refine mp_a (a_aload_n dX7_readsCommand_146 rfl) (mpp 147 rfl ?_)
                    have e757 : (fv P712 301 24).toInt = (fv P700 301 24).toInt := congrArg Int32.toInt (f715 301 24 (ne_k rfl))
                    have e758 : (fv P712 301 23).toInt = (fv P690 301 23).toInt := congrArg Int32.toInt ((f715 301 23 (ne_k rfl)).trans (KW.at k705 23 rl_301 rfl))
                    have p759 : (fv P712 301 24).toInt ≤ (fv P712 301 23).toInt := by omega
                    refine mt_callv (i := 330) (q' := q_224) (As := []) (rest := []) hT713 dX7_readsCommand_147 rfl qm_224 (by decide) rfl rl_301 (by decide) rfl (Nat.le_of_ble_eq_true rfl) rfl ⟨rfl, rfl⟩ ⟨Nat.le_of_ble_eq_true rfl, Nat.le_of_ble_eq_true rfl⟩ (EvP.mono (by decide) (c_M_readsMark hT713 p759 )) (fun r760 P761 g762 => mpp 150 rfl ?_)
                    obtain ⟨⟨x763, rfl, g764⟩, hT765, k766, R767⟩ := g762
                    have k768 : KW [1112, 1113, 1114, 1115, 1116, 1117] Po P761 := KW.trans k717 k766 rfl
                    have wx763 := ti_full x763
                    replace g764 : 0 ≤ x763.toInt ∧ x763.toInt ≤ 1 ∧ (((fv P712 301 24).toInt ≤ (fv P761 301 24).toInt ∧ (fv P761 301 24).toInt ≤ (fv P712 301 23).toInt) ∧ ((x763.toInt = 1 ∧ ((chM P712 (fv P712 301 24).toInt).toInt = 46 ∧ (48 ≤ (chM P712 ((fv P712 301 24).toInt + 1)).toInt ∧ (chM P712 ((fv P712 301 24).toInt + 1)).toInt ≤ 57) ∧ (chM P712 ((fv P712 301 24).toInt + 2)).toInt = 61 ∧ ((chM P712 ((fv P712 301 24).toInt + 3)).toInt = 111 ∨ (chM P712 ((fv P712 301 24).toInt + 3)).toInt = 109 ∨ (chM P712 ((fv P712 301 24).toInt + 3)).toInt = 118)) ∧ (fv P761 301 24).toInt = (fv P712 301 24).toInt + 4 ∧ (fv P761 301 27).toInt = (chM P712 ((fv P712 301 24).toInt + 1)).toInt - 48 ∧ (fv P761 301 29).toInt = (kn (chM P712 ((fv P712 301 24).toInt + 3)).toInt).toInt) ∨ (x763.toInt = 0 ∧ ¬ ((chM P712 (fv P712 301 24).toInt).toInt = 46 ∧ (48 ≤ (chM P712 ((fv P712 301 24).toInt + 1)).toInt ∧ (chM P712 ((fv P712 301 24).toInt + 1)).toInt ≤ 57) ∧ (chM P712 ((fv P712 301 24).toInt + 2)).toInt = 61 ∧ ((chM P712 ((fv P712 301 24).toInt + 3)).toInt = 111 ∨ (chM P712 ((fv P712 301 24).toInt + 3)).toInt = 109 ∨ (chM P712 ((fv P712 301 24).toInt + 3)).toInt = 118))))) := g764
                    have g770 : (0 : Int) ≤ (fv P761 301 24).toInt ∧ (fv P761 301 24).toInt ≤ 81 := Typ.rng hT765 rl_301 (by decide) (by decide) rfl
                    have g771 : (0 : Int) ≤ (fv P761 301 24).toInt ∧ (fv P761 301 24).toInt ≤ 81 := Typ.rng hT765 rl_301 (by decide) (by decide) rfl
                    have g772 : (0 : Int) ≤ (fv P761 301 24).toInt ∧ (fv P761 301 24).toInt ≤ 81 := Typ.rng hT765 rl_301 (by decide) (by decide) rfl
                    show MEvP _ none q_217 150 [(0, .ref 301)] [.int x763] _ _ _ _
                    refine mp_Tb (t := 157) (j_if_eq dX7_readsCommand_150) (by decide) (fun c773 => ?_) (fun c773 => mpp 153 rfl ?_)
                    · have c773 : x763.toInt = 0 := ti_eq c773
                      refine mp_a (a_iconst (v := 0) dX7_readsCommand_157 rfl) (mpp 158 rfl ?_)
                      have e774 : (fv P761 301 25).toInt = (fv P712 301 25).toInt := congrArg Int32.toInt (KW.at k766 25 rl_301 rfl)
                      have e775 : (fv P761 301 26).toInt = (fv P712 301 26).toInt := congrArg Int32.toInt (KW.at k766 26 rl_301 rfl)
                      have g776 := ti_full (fv P761 301 27)
                      have g777 := ti_full (fv P761 301 28)
                      have g778 := ti_full (fv P761 301 29)
                      have e781 : (fv P9 301 24).toInt = (fv Po 301 24).toInt := congrArg Int32.toInt (f12 301 24 (by omega))
                      have e782 : (fv P9 301 23).toInt = (fv Po 301 23).toInt := congrArg Int32.toInt (f12 301 23 (by omega))
                      have e783 : (fv P712 301 24).toInt = (fv P700 301 24).toInt := congrArg Int32.toInt (f715 301 24 (by omega))
                      have e784 : (fv P712 301 23).toInt = (fv P700 301 23).toInt := congrArg Int32.toInt (f715 301 23 (by omega))
                      have e785 : (fv P700 301 23).toInt = (fv P690 301 23).toInt := congrArg Int32.toInt (KW.at k705 23 rl_301 rfl)
                      have e786 : (fv P761 301 23).toInt = (fv P712 301 23).toInt := congrArg Int32.toInt (KW.at k766 23 rl_301 rfl)
                      have y787_ := g7
                      have t789_ : chM P690 = chM Po := chM_eq (fun j => by rw [f693 314 j (by omega), f12 314 j (by omega)]) (by rw [f693 301 23 (by omega), f12 301 23 (by omega)])
                      have y788_ := g703
                      rw [t789_, show (fv P690 301 24).toInt = (fv Po 301 24).toInt + 1 from by omega] at y788_
                      have t791_ : chM P712 = chM Po := chM_eq (fun j => by rw [f715 314 j (by omega), KW.at k705 j rl_314 rfl, f693 314 j (by omega), f12 314 j (by omega)]) (by rw [f715 301 23 (by omega), KW.at k705 23 rl_301 rfl, f693 301 23 (by omega), f12 301 23 (by omega)])
                      have y790_ := g764
                      rw [t791_, show (fv P712 301 24).toInt = (fv Po 301 24).toInt + 2 from by omega] at y790_
                      rw [show (fv Po 301 24).toInt + 2 + 1 = (fv Po 301 24).toInt + 3 from by omega, show (fv Po 301 24).toInt + 2 + 2 = (fv Po 301 24).toInt + 4 from by omega, show (fv Po 301 24).toInt + 2 + 3 = (fv Po 301 24).toInt + 5 from by omega] at y790_
                      have u779 : 0 ≤ (0 : Int) ∧ (0 : Int) ≤ 1 ∧ (((fv Po 301 24).toInt ≤ (fv P761 301 24).toInt ∧ (fv P761 301 24).toInt ≤ (fv Po 301 23).toInt) ∧ (((0 : Int) = 1 ∧ CMD (chM Po) (fv Po 301 24).toInt (fv P761 301 24).toInt (fv P761 301 25).toInt (fv P761 301 26).toInt (fv P761 301 27).toInt (fv P761 301 28).toInt (fv P761 301 29).toInt) ∨ ((0 : Int) = 0 ∧ ¬ CMO (chM Po) (fv Po 301 24).toInt))) := ⟨by omega, by omega, ⟨by omega, by omega⟩, Or.inr ⟨rfl, fun ⟨i1, l1, a1, b1, n1, s1, q1, q2⟩ => by
                          rcases q2 with ⟨q2, k2, m2, q3, q4, q5, q6, q7, q8⟩ | ⟨q2, q3, q4, q5, q6, q7, q8⟩ | ⟨q2, q3, q8⟩ <;> omega⟩⟩
                      exact mp_iret ⟨⟨_, rfl, u779⟩, hT765, k768, trivial⟩ dX7_readsCommand_158 (Or.inr ⟨rfl, by decide⟩)
                    · have c773 : x763.toInt ≠ 0 := ti_eq_n c773
                      refine mp_a (a_iconst (v := 1) dX7_readsCommand_153 rfl) (mpp 154 rfl ?_)
                      refine mp_a (a_goto (t := 158) dX7_readsCommand_154 (by decide)) ?_
                      have e792 : (fv P761 301 25).toInt = (fv P712 301 25).toInt := congrArg Int32.toInt (KW.at k766 25 rl_301 rfl)
                      have e793 : (fv P761 301 26).toInt = (fv P712 301 26).toInt := congrArg Int32.toInt (KW.at k766 26 rl_301 rfl)
                      have g794 := ti_full (fv P761 301 27)
                      have g795 := ti_full (fv P761 301 28)
                      have g796 := ti_full (fv P761 301 29)
                      have e799 : (fv P9 301 24).toInt = (fv Po 301 24).toInt := congrArg Int32.toInt (f12 301 24 (by omega))
                      have e800 : (fv P9 301 23).toInt = (fv Po 301 23).toInt := congrArg Int32.toInt (f12 301 23 (by omega))
                      have e801 : (fv P712 301 24).toInt = (fv P700 301 24).toInt := congrArg Int32.toInt (f715 301 24 (by omega))
                      have e802 : (fv P712 301 23).toInt = (fv P700 301 23).toInt := congrArg Int32.toInt (f715 301 23 (by omega))
                      have e803 : (fv P700 301 23).toInt = (fv P690 301 23).toInt := congrArg Int32.toInt (KW.at k705 23 rl_301 rfl)
                      have e804 : (fv P761 301 23).toInt = (fv P712 301 23).toInt := congrArg Int32.toInt (KW.at k766 23 rl_301 rfl)
                      have y805_ := g7
                      have t807_ : chM P690 = chM Po := chM_eq (fun j => by rw [f693 314 j (by omega), f12 314 j (by omega)]) (by rw [f693 301 23 (by omega), f12 301 23 (by omega)])
                      have y806_ := g703
                      rw [t807_, show (fv P690 301 24).toInt = (fv Po 301 24).toInt + 1 from by omega] at y806_
                      have t809_ : chM P712 = chM Po := chM_eq (fun j => by rw [f715 314 j (by omega), KW.at k705 j rl_314 rfl, f693 314 j (by omega), f12 314 j (by omega)]) (by rw [f715 301 23 (by omega), KW.at k705 23 rl_301 rfl, f693 301 23 (by omega), f12 301 23 (by omega)])
                      have y808_ := g764
                      rw [t809_, show (fv P712 301 24).toInt = (fv Po 301 24).toInt + 2 from by omega] at y808_
                      rw [show (fv Po 301 24).toInt + 2 + 1 = (fv Po 301 24).toInt + 3 from by omega, show (fv Po 301 24).toInt + 2 + 2 = (fv Po 301 24).toInt + 4 from by omega, show (fv Po 301 24).toInt + 2 + 3 = (fv Po 301 24).toInt + 5 from by omega] at y808_
                      have e810 : (fv P761 301 26).toInt = (fv P712 301 26).toInt := by rw [KW.at k766 26 rl_301 rfl]
                      have e811 : (fv P761 301 25).toInt = (fv P9 301 25).toInt := by rw [KW.at k766 25 rl_301 rfl, f715 301 25 (by omega), KW.at k705 25 rl_301 rfl, f693 301 25 (by omega)]
                      have u797 : 0 ≤ (1 : Int) ∧ (1 : Int) ≤ 1 ∧ (((fv Po 301 24).toInt ≤ (fv P761 301 24).toInt ∧ (fv P761 301 24).toInt ≤ (fv Po 301 23).toInt) ∧ (((1 : Int) = 1 ∧ CMD (chM Po) (fv Po 301 24).toInt (fv P761 301 24).toInt (fv P761 301 25).toInt (fv P761 301 26).toInt (fv P761 301 27).toInt (fv P761 301 28).toInt (fv P761 301 29).toInt) ∨ ((1 : Int) = 0 ∧ ¬ CMO (chM Po) (fv Po 301 24).toInt))) := ⟨by omega, by omega, ⟨by omega, by omega⟩, Or.inl ⟨rfl, by omega, Or.inr (Or.inl ⟨by omega, ⟨by omega, by omega⟩, by omega, ⟨by omega, by omega⟩, by omega, by have q : ((chM Po ((fv Po 301 24).toInt + 5)).toInt = 111 ∨ (chM Po ((fv Po 301 24).toInt + 5)).toInt = 109 ∨ (chM Po ((fv Po 301 24).toInt + 5)).toInt = 118) := (by omega); exact q, by omega, by omega, by omega, by omega⟩)⟩⟩
                      exact mp_iret ⟨⟨_, rfl, u797⟩, hT765, k768, trivial⟩ dX7_readsCommand_158 (Or.inr ⟨rfl, by decide⟩)
              · have c682 : (fv P9 301 25).toInt ≠ 120 := ti_eq_n c682
                refine mp_a (a_iconst (v := 0) dX7_readsCommand_110 rfl) (mpp 111 rfl ?_)
                have e812 : (fv P9 301 24).toInt = (fv Po 301 24).toInt := congrArg Int32.toInt (f12 301 24 (ne_k rfl))
                have g813 := ti_full (fv P9 301 26)
                have g814 := ti_full (fv P9 301 27)
                have g815 := ti_full (fv P9 301 28)
                have g816 := ti_full (fv P9 301 29)
                have e819 : (fv P9 301 24).toInt = (fv Po 301 24).toInt := congrArg Int32.toInt (f12 301 24 (by omega))
                have e820 : (fv P9 301 23).toInt = (fv Po 301 23).toInt := congrArg Int32.toInt (f12 301 23 (by omega))
                have y821_ := g7
                have u817 : 0 ≤ (0 : Int) ∧ (0 : Int) ≤ 1 ∧ (((fv Po 301 24).toInt ≤ (fv P9 301 24).toInt ∧ (fv P9 301 24).toInt ≤ (fv Po 301 23).toInt) ∧ (((0 : Int) = 1 ∧ CMD (chM Po) (fv Po 301 24).toInt (fv P9 301 24).toInt (fv P9 301 25).toInt (fv P9 301 26).toInt (fv P9 301 27).toInt (fv P9 301 28).toInt (fv P9 301 29).toInt) ∨ ((0 : Int) = 0 ∧ ¬ CMO (chM Po) (fv Po 301 24).toInt))) := ⟨by omega, by omega, ⟨by omega, by omega⟩, Or.inr ⟨rfl, fun ⟨i1, l1, a1, b1, n1, s1, q1, q2⟩ => by
                    rcases q2 with ⟨q2, k2, m2, q3, q4, q5, q6, q7, q8⟩ | ⟨q2, q3, q4, q5, q6, q7, q8⟩ | ⟨q2, q3, q8⟩ <;> omega⟩⟩
                exact mp_iret ⟨⟨_, rfl, u817⟩, hT10, k14, trivial⟩ dX7_readsCommand_111 (Or.inr ⟨rfl, by decide⟩)
    · have c151 : (fv P9 301 25).toInt = 99 := ti_ne_n c151
      have e822 : (fv P9 301 24).toInt = (fv Po 301 24).toInt := congrArg Int32.toInt (f12 301 24 (by omega))
      refine mp_a (a_aload_n dX7_readsCommand_26 rfl) (mpp 27 rfl ?_)
      refine mp_t (s_dup dX7_readsCommand_27 rfl) (mpp 28 rfl ?_)
      have e823 : (fv P9 301 24).toInt = (fv Po 301 24).toInt := congrArg Int32.toInt (f12 301 24 (ne_k rfl))
      refine mt_getI (i := 294) (k := 24) hT10 dX7_readsCommand_28 rfl rl_301 (by decide) rfl (by decide) rfl (fun g824 g825 => mpp 31 rfl ?_)
      refine mp_a (a_iconst (v := 1) dX7_readsCommand_31 rfl) (mpp 32 rfl ?_)
      obtain ⟨z826, h827⟩ := ti_ex ((fv P9 301 24) + 1 : Int32)
      have wz826 := ti_full z826
      refine mp_t (s_iadd (v := z826) dX7_readsCommand_32 h827) (mpp 33 rfl ?_)
      try have e828 : z826.toInt = (fv P9 301 24).toInt + 1 := ti_addz h827 rfl rfl (by omega) (by omega)
      refine mt_putI (i := 294) (k := 24) (x := z826) hT10 dX7_readsCommand_33 rfl rl_301 (by decide) rfl (by decide) rfl ⟨by omega, by omega⟩ rfl rfl (fun P829 hT830 f831 f832 f833 => mpp 36 rfl ?_)
      have k834 : KW [1112, 1113, 1114, 1115, 1116, 1117] Po P829 := KW.step k14 rl_301 rfl f832 f833
      have e835 : (fv P829 301 24).toInt = z826.toInt := congrArg Int32.toInt f831
      refine mp_a (a_aload_n dX7_readsCommand_36 rfl) (mpp 37 rfl ?_)
      have e836 : (fv P829 301 23).toInt = (fv Po 301 23).toInt := congrArg Int32.toInt ((f832 301 23 (ne_k rfl)).trans (f12 301 23 (ne_k rfl)))
      have p837 : (fv P829 301 24).toInt ≤ (fv P829 301 23).toInt := by omega
      refine mt_callv (i := 324) (q' := q_219) (As := []) (rest := []) hT830 dX7_readsCommand_37 rfl qm_219 (by decide) rfl rl_301 (by decide) rfl (Nat.le_of_ble_eq_true rfl) rfl ⟨rfl, rfl⟩ ⟨Nat.le_of_ble_eq_true rfl, Nat.le_of_ble_eq_true rfl⟩ (EvP.mono (by decide) (c_M_readsSizes hT830 p837 )) (fun r838 P839 g840 => mpp 40 rfl ?_)
      obtain ⟨⟨x841, rfl, g842⟩, hT843, k844, R845⟩ := g840
      have k846 : KW [1112, 1113, 1114, 1115, 1116, 1117] Po P839 := KW.trans k834 k844 rfl
      have wx841 := ti_full x841
      replace g842 : 0 ≤ x841.toInt ∧ x841.toInt ≤ 1 ∧ (((fv P829 301 24).toInt ≤ (fv P839 301 24).toInt ∧ (fv P839 301 24).toInt ≤ (fv P829 301 23).toInt) ∧ ∃ k : Nat, RUN D1 (chM P829) (fv P829 301 24).toInt k ∧ (fv P839 301 24).toInt = (fv P829 301 24).toInt + (k : Int) ∧ fv P839 301 26 = szI (chM P829) (fv P829 301 24).toInt k ∧ ((x841.toInt = 1 ∧ 1 ≤ k) ∨ (x841.toInt = 0 ∧ k = 0))) := g842
      have g848 : (0 : Int) ≤ (fv P839 301 24).toInt ∧ (fv P839 301 24).toInt ≤ 81 := Typ.rng hT843 rl_301 (by decide) (by decide) rfl
      have g849 : (0 : Int) ≤ (fv P839 301 24).toInt ∧ (fv P839 301 24).toInt ≤ 81 := Typ.rng hT843 rl_301 (by decide) (by decide) rfl
      have g850 : (0 : Int) ≤ (fv P839 301 24).toInt ∧ (fv P839 301 24).toInt ≤ 81 := Typ.rng hT843 rl_301 (by decide) (by decide) rfl
      show MEvP _ none q_217 40 [(0, .ref 301)] [.int x841] _ _ _ _
      refine mp_Tb (t := 63) (j_if_eq dX7_readsCommand_40) (by decide) (fun c851 => ?_) (fun c851 => mpp 43 rfl ?_)
      · have c851 : x841.toInt = 0 := ti_eq c851
        refine mp_a (a_iconst (v := 0) dX7_readsCommand_63 rfl) (mpp 64 rfl ?_)
        have e852 : (fv P839 301 25).toInt = (fv P9 301 25).toInt := congrArg Int32.toInt ((KW.at k844 25 rl_301 rfl).trans (f832 301 25 (ne_k rfl)))
        have g853 := ti_full (fv P839 301 26)
        have g854 := ti_full (fv P839 301 27)
        have g855 := ti_full (fv P839 301 28)
        have g856 := ti_full (fv P839 301 29)
        have e859 : (fv P9 301 24).toInt = (fv Po 301 24).toInt := congrArg Int32.toInt (f12 301 24 (by omega))
        have e860 : (fv P9 301 23).toInt = (fv Po 301 23).toInt := congrArg Int32.toInt (f12 301 23 (by omega))
        have e861 : (fv P839 301 23).toInt = (fv P829 301 23).toInt := congrArg Int32.toInt (KW.at k844 23 rl_301 rfl)
        have y862_ := g7
        have t864_ : chM P829 = chM Po := chM_eq (fun j => by rw [f832 314 j (by omega), f12 314 j (by omega)]) (by rw [f832 301 23 (by omega), f12 301 23 (by omega)])
        have y863_ := g842
        rw [t864_, show (fv P829 301 24).toInt = (fv Po 301 24).toInt + 1 from by omega] at y863_
        obtain ⟨kw858_, rw858_, pw858_, vw858_, ow858_⟩ := y863_.2.2.2
        have u857 : 0 ≤ (0 : Int) ∧ (0 : Int) ≤ 1 ∧ (((fv Po 301 24).toInt ≤ (fv P839 301 24).toInt ∧ (fv P839 301 24).toInt ≤ (fv Po 301 23).toInt) ∧ (((0 : Int) = 1 ∧ CMD (chM Po) (fv Po 301 24).toInt (fv P839 301 24).toInt (fv P839 301 25).toInt (fv P839 301 26).toInt (fv P839 301 27).toInt (fv P839 301 28).toInt (fv P839 301 29).toInt) ∨ ((0 : Int) = 0 ∧ ¬ CMO (chM Po) (fv Po 301 24).toInt))) := ⟨by omega, by omega, ⟨by omega, by omega⟩, Or.inr ⟨rfl, fun ⟨i1, l1, a1, b1, n1, s1, q1, q2⟩ => by
            rcases q2 with ⟨q2, k2, m2, q3, q4, q5, q6, q7, q8⟩ | ⟨q2, q3, q4, q5, q6, q7, q8⟩ | ⟨q2, q3, q8⟩
            · have e := rw858_.uniq q5; omega
            · omega
            · omega⟩⟩
        exact mp_iret ⟨⟨_, rfl, u857⟩, hT843, k846, trivial⟩ dX7_readsCommand_64 (Or.inr ⟨rfl, by decide⟩)
      · have c851 : x841.toInt ≠ 0 := ti_eq_n c851
        refine mp_a (a_aload_n dX7_readsCommand_43 rfl) (mpp 44 rfl ?_)
        refine mp_a (a_bipush (v := 58) dX7_readsCommand_44 rfl) (mpp 46 rfl ?_)
        have p865 : 0 ≤ (58 : Int) := by omega
        refine mt_callv (i := 312) (q' := q_220) (As := [.int 58]) (rest := []) hT843 dX7_readsCommand_46 rfl qm_220 (by decide) rfl rl_301 (by decide) rfl (Nat.le_of_ble_eq_true rfl) rfl ⟨rfl, rfl⟩ ⟨Nat.le_of_ble_eq_true rfl, Nat.le_of_ble_eq_true rfl⟩ (EvP.mono (by decide) (c_M_takes hT843 p865 )) (fun r866 P867 g868 => mpp 49 rfl ?_)
        obtain ⟨⟨x869, rfl, g870⟩, hT871, k872, R873⟩ := g868
        have k874 : KW [1112, 1113, 1114, 1115, 1116, 1117] Po P867 := KW.trans k846 k872 rfl
        have wx869 := ti_full x869
        replace g870 : 0 ≤ x869.toInt ∧ x869.toInt ≤ 1 ∧ ((x869.toInt = 1 ∧ (chM P839 (fv P839 301 24).toInt).toInt = (58 : Int) ∧ (fv P867 301 24).toInt = (fv P839 301 24).toInt + 1 ∧ (fv P867 301 24).toInt ≤ (fv P839 301 23).toInt) ∨ (x869.toInt = 0 ∧ ¬ (chM P839 (fv P839 301 24).toInt).toInt = (58 : Int) ∧ (fv P867 301 24).toInt = (fv P839 301 24).toInt)) := g870
        have g876 : (0 : Int) ≤ (fv P867 301 24).toInt ∧ (fv P867 301 24).toInt ≤ 81 := Typ.rng hT871 rl_301 (by decide) (by decide) rfl
        have g877 : (0 : Int) ≤ (fv P867 301 24).toInt ∧ (fv P867 301 24).toInt ≤ 81 := Typ.rng hT871 rl_301 (by decide) (by decide) rfl
        have e878 : (fv P839 301 23).toInt = (fv P829 301 23).toInt := congrArg Int32.toInt (KW.at k844 23 rl_301 rfl)
        have g879 : (0 : Int) ≤ (fv P867 301 24).toInt ∧ (fv P867 301 24).toInt ≤ 81 := Typ.rng hT871 rl_301 (by decide) (by decide) rfl
        show MEvP _ none q_217 49 [(0, .ref 301)] [.int x869] _ _ _ _
        refine mp_Tb (t := 63) (j_if_eq dX7_readsCommand_49) (by decide) (fun c880 => ?_) (fun c880 => mpp 52 rfl ?_)
        · have c880 : x869.toInt = 0 := ti_eq c880
          refine mp_a (a_iconst (v := 0) dX7_readsCommand_63 rfl) (mpp 64 rfl ?_)
          have e881 : (fv P867 301 25).toInt = (fv P9 301 25).toInt := congrArg Int32.toInt ((KW.at k872 25 rl_301 rfl).trans ((KW.at k844 25 rl_301 rfl).trans (f832 301 25 (ne_k rfl))))
          have g882 := ti_full (fv P867 301 26)
          have g883 := ti_full (fv P867 301 27)
          have g884 := ti_full (fv P867 301 28)
          have g885 := ti_full (fv P867 301 29)
          have e888 : (fv P9 301 24).toInt = (fv Po 301 24).toInt := congrArg Int32.toInt (f12 301 24 (by omega))
          have e889 : (fv P9 301 23).toInt = (fv Po 301 23).toInt := congrArg Int32.toInt (f12 301 23 (by omega))
          have e890 : (fv P839 301 23).toInt = (fv P829 301 23).toInt := congrArg Int32.toInt (KW.at k844 23 rl_301 rfl)
          have e891 : (fv P867 301 23).toInt = (fv P839 301 23).toInt := congrArg Int32.toInt (KW.at k872 23 rl_301 rfl)
          have y892_ := g7
          have t894_ : chM P829 = chM Po := chM_eq (fun j => by rw [f832 314 j (by omega), f12 314 j (by omega)]) (by rw [f832 301 23 (by omega), f12 301 23 (by omega)])
          have y893_ := g842
          rw [t894_, show (fv P829 301 24).toInt = (fv Po 301 24).toInt + 1 from by omega] at y893_
          obtain ⟨kw887_, rw887_, pw887_, vw887_, ow887_⟩ := y893_.2.2.2
          have t896_ : chM P839 = chM Po := chM_eq (fun j => by rw [KW.at k844 j rl_314 rfl, f832 314 j (by omega), f12 314 j (by omega)]) (by rw [KW.at k844 23 rl_301 rfl, f832 301 23 (by omega), f12 301 23 (by omega)])
          have y895_ := g870
          rw [t896_, show (fv P839 301 24).toInt = (fv Po 301 24).toInt + 1 + (kw887_ : Int) from by omega] at y895_
          have u886 : 0 ≤ (0 : Int) ∧ (0 : Int) ≤ 1 ∧ (((fv Po 301 24).toInt ≤ (fv P867 301 24).toInt ∧ (fv P867 301 24).toInt ≤ (fv Po 301 23).toInt) ∧ (((0 : Int) = 1 ∧ CMD (chM Po) (fv Po 301 24).toInt (fv P867 301 24).toInt (fv P867 301 25).toInt (fv P867 301 26).toInt (fv P867 301 27).toInt (fv P867 301 28).toInt (fv P867 301 29).toInt) ∨ ((0 : Int) = 0 ∧ ¬ CMO (chM Po) (fv Po 301 24).toInt))) := ⟨by omega, by omega, ⟨by omega, by omega⟩, Or.inr ⟨rfl, fun ⟨i1, l1, a1, b1, n1, s1, q1, q2⟩ => by
              rcases q2 with ⟨q2, k2, m2, q3, q4, q5, q6, q7, q8⟩ | ⟨q2, q3, q4, q5, q6, q7, q8⟩ | ⟨q2, q3, q8⟩
              · have e := rw887_.uniq q5; subst e; omega
              · omega
              · omega⟩⟩
          exact mp_iret ⟨⟨_, rfl, u886⟩, hT871, k874, trivial⟩ dX7_readsCommand_64 (Or.inr ⟨rfl, by decide⟩)
        · have c880 : x869.toInt ≠ 0 := ti_eq_n c880
          refine mp_a (a_aload_n dX7_readsCommand_52 rfl) (mpp 53 rfl ?_)
          have e897 : (fv P867 301 23).toInt = (fv P839 301 23).toInt := congrArg Int32.toInt (KW.at k872 23 rl_301 rfl)
          have p898 : (fv P867 301 24).toInt ≤ (fv P867 301 23).toInt := by omega
          refine mt_callv (i := 327) (q' := q_221) (As := []) (rest := []) hT871 dX7_readsCommand_53 rfl qm_221 (by decide) rfl rl_301 (by decide) rfl (Nat.le_of_ble_eq_true rfl) rfl ⟨rfl, rfl⟩ ⟨Nat.le_of_ble_eq_true rfl, Nat.le_of_ble_eq_true rfl⟩ (EvP.mono (by decide) (c_M_readsSigns hT871 p898 )) (fun r899 P900 g901 => mpp 56 rfl ?_)
          obtain ⟨⟨x902, rfl, g903⟩, hT904, k905, R906⟩ := g901
          have k907 : KW [1112, 1113, 1114, 1115, 1116, 1117] Po P900 := KW.trans k874 k905 rfl
          have wx902 := ti_full x902
          replace g903 : 0 ≤ x902.toInt ∧ x902.toInt ≤ 1 ∧ (((fv P867 301 24).toInt ≤ (fv P900 301 24).toInt ∧ (fv P900 301 24).toInt ≤ (fv P867 301 23).toInt) ∧ ∃ k : Nat, RUN KK (chM P867) (fv P867 301 24).toInt k ∧ (fv P900 301 24).toInt = (fv P867 301 24).toInt + (k : Int) ∧ fv P900 301 27 = knV (chM P867) (fv P867 301 24).toInt k ∧ (fv P900 301 28).toInt = (k : Int) ∧ ((x902.toInt = 1 ∧ 1 ≤ k) ∨ (x902.toInt = 0 ∧ k = 0))) := g903
          have g909 : (0 : Int) ≤ (fv P900 301 24).toInt ∧ (fv P900 301 24).toInt ≤ 81 := Typ.rng hT904 rl_301 (by decide) (by decide) rfl
          have g910 : (0 : Int) ≤ (fv P900 301 24).toInt ∧ (fv P900 301 24).toInt ≤ 81 := Typ.rng hT904 rl_301 (by decide) (by decide) rfl
          have g911 : (0 : Int) ≤ (fv P900 301 24).toInt ∧ (fv P900 301 24).toInt ≤ 81 := Typ.rng hT904 rl_301 (by decide) (by decide) rfl
          have g912 := ti_full (fv P900 301 28)
          show MEvP _ none q_217 56 [(0, .ref 301)] [.int x902] _ _ _ _
          refine mp_Tb (t := 63) (j_if_eq dX7_readsCommand_56) (by decide) (fun c913 => ?_) (fun c913 => mpp 59 rfl ?_)
          · have c913 : x902.toInt = 0 := ti_eq c913
            refine mp_a (a_iconst (v := 0) dX7_readsCommand_63 rfl) (mpp 64 rfl ?_)
            have e914 : (fv P900 301 25).toInt = (fv P9 301 25).toInt := congrArg Int32.toInt ((KW.at k905 25 rl_301 rfl).trans ((KW.at k872 25 rl_301 rfl).trans ((KW.at k844 25 rl_301 rfl).trans (f832 301 25 (ne_k rfl)))))
            have g915 := ti_full (fv P900 301 26)
            have g916 := ti_full (fv P900 301 27)
            have g917 := ti_full (fv P900 301 29)
            have e920 : (fv P9 301 24).toInt = (fv Po 301 24).toInt := congrArg Int32.toInt (f12 301 24 (by omega))
            have e921 : (fv P9 301 23).toInt = (fv Po 301 23).toInt := congrArg Int32.toInt (f12 301 23 (by omega))
            have e922 : (fv P839 301 23).toInt = (fv P829 301 23).toInt := congrArg Int32.toInt (KW.at k844 23 rl_301 rfl)
            have e923 : (fv P867 301 23).toInt = (fv P839 301 23).toInt := congrArg Int32.toInt (KW.at k872 23 rl_301 rfl)
            have e924 : (fv P900 301 23).toInt = (fv P867 301 23).toInt := congrArg Int32.toInt (KW.at k905 23 rl_301 rfl)
            have y925_ := g7
            have t927_ : chM P829 = chM Po := chM_eq (fun j => by rw [f832 314 j (by omega), f12 314 j (by omega)]) (by rw [f832 301 23 (by omega), f12 301 23 (by omega)])
            have y926_ := g842
            rw [t927_, show (fv P829 301 24).toInt = (fv Po 301 24).toInt + 1 from by omega] at y926_
            obtain ⟨kw919_, rw919_, pw919_, vw919_, ow919_⟩ := y926_.2.2.2
            have t929_ : chM P839 = chM Po := chM_eq (fun j => by rw [KW.at k844 j rl_314 rfl, f832 314 j (by omega), f12 314 j (by omega)]) (by rw [KW.at k844 23 rl_301 rfl, f832 301 23 (by omega), f12 301 23 (by omega)])
            have y928_ := g870
            rw [t929_, show (fv P839 301 24).toInt = (fv Po 301 24).toInt + 1 + (kw919_ : Int) from by omega] at y928_
            have t931_ : chM P867 = chM Po := chM_eq (fun j => by rw [KW.at k872 j rl_314 rfl, KW.at k844 j rl_314 rfl, f832 314 j (by omega), f12 314 j (by omega)]) (by rw [KW.at k872 23 rl_301 rfl, KW.at k844 23 rl_301 rfl, f832 301 23 (by omega), f12 301 23 (by omega)])
            have y930_ := g903
            rw [t931_, show (fv P867 301 24).toInt = (fv Po 301 24).toInt + 2 + (kw919_ : Int) from by omega] at y930_
            obtain ⟨mw919_, uw919_, tw919_, ww919_, zw919_, yw919_⟩ := y930_.2.2.2
            have u918 : 0 ≤ (0 : Int) ∧ (0 : Int) ≤ 1 ∧ (((fv Po 301 24).toInt ≤ (fv P900 301 24).toInt ∧ (fv P900 301 24).toInt ≤ (fv Po 301 23).toInt) ∧ (((0 : Int) = 1 ∧ CMD (chM Po) (fv Po 301 24).toInt (fv P900 301 24).toInt (fv P900 301 25).toInt (fv P900 301 26).toInt (fv P900 301 27).toInt (fv P900 301 28).toInt (fv P900 301 29).toInt) ∨ ((0 : Int) = 0 ∧ ¬ CMO (chM Po) (fv Po 301 24).toInt))) := ⟨by omega, by omega, ⟨by omega, by omega⟩, Or.inr ⟨rfl, fun ⟨i1, l1, a1, b1, n1, s1, q1, q2⟩ => by
                rcases q2 with ⟨q2, k2, m2, q3, q4, q5, q6, q7, q8⟩ | ⟨q2, q3, q4, q5, q6, q7, q8⟩ | ⟨q2, q3, q8⟩
                · have e := rw919_.uniq q5; subst e; have e2 := uw919_.uniq q7; omega
                · omega
                · omega⟩⟩
            exact mp_iret ⟨⟨_, rfl, u918⟩, hT904, k907, trivial⟩ dX7_readsCommand_64 (Or.inr ⟨rfl, by decide⟩)
          · have c913 : x902.toInt ≠ 0 := ti_eq_n c913
            refine mp_a (a_iconst (v := 1) dX7_readsCommand_59 rfl) (mpp 60 rfl ?_)
            refine mp_a (a_goto (t := 64) dX7_readsCommand_60 (by decide)) ?_
            have e932 : (fv P900 301 25).toInt = (fv P9 301 25).toInt := congrArg Int32.toInt ((KW.at k905 25 rl_301 rfl).trans ((KW.at k872 25 rl_301 rfl).trans ((KW.at k844 25 rl_301 rfl).trans (f832 301 25 (ne_k rfl)))))
            have g933 := ti_full (fv P900 301 26)
            have g934 := ti_full (fv P900 301 27)
            have g935 := ti_full (fv P900 301 29)
            have e938 : (fv P9 301 24).toInt = (fv Po 301 24).toInt := congrArg Int32.toInt (f12 301 24 (by omega))
            have e939 : (fv P9 301 23).toInt = (fv Po 301 23).toInt := congrArg Int32.toInt (f12 301 23 (by omega))
            have e940 : (fv P839 301 23).toInt = (fv P829 301 23).toInt := congrArg Int32.toInt (KW.at k844 23 rl_301 rfl)
            have e941 : (fv P867 301 23).toInt = (fv P839 301 23).toInt := congrArg Int32.toInt (KW.at k872 23 rl_301 rfl)
            have e942 : (fv P900 301 23).toInt = (fv P867 301 23).toInt := congrArg Int32.toInt (KW.at k905 23 rl_301 rfl)
            have y943_ := g7
            have t945_ : chM P829 = chM Po := chM_eq (fun j => by rw [f832 314 j (by omega), f12 314 j (by omega)]) (by rw [f832 301 23 (by omega), f12 301 23 (by omega)])
            have y944_ := g842
            rw [t945_, show (fv P829 301 24).toInt = (fv Po 301 24).toInt + 1 from by omega] at y944_
            obtain ⟨kw937_, rw937_, pw937_, vw937_, ow937_⟩ := y944_.2.2.2
            have t947_ : chM P839 = chM Po := chM_eq (fun j => by rw [KW.at k844 j rl_314 rfl, f832 314 j (by omega), f12 314 j (by omega)]) (by rw [KW.at k844 23 rl_301 rfl, f832 301 23 (by omega), f12 301 23 (by omega)])
            have y946_ := g870
            rw [t947_, show (fv P839 301 24).toInt = (fv Po 301 24).toInt + 1 + (kw937_ : Int) from by omega] at y946_
            have t949_ : chM P867 = chM Po := chM_eq (fun j => by rw [KW.at k872 j rl_314 rfl, KW.at k844 j rl_314 rfl, f832 314 j (by omega), f12 314 j (by omega)]) (by rw [KW.at k872 23 rl_301 rfl, KW.at k844 23 rl_301 rfl, f832 301 23 (by omega), f12 301 23 (by omega)])
            have y948_ := g903
            rw [t949_, show (fv P867 301 24).toInt = (fv Po 301 24).toInt + 2 + (kw937_ : Int) from by omega] at y948_
            obtain ⟨mw937_, uw937_, tw937_, ww937_, zw937_, yw937_⟩ := y948_.2.2.2
            have e950 : (fv P900 301 26).toInt = (fv P839 301 26).toInt := by rw [KW.at k905 26 rl_301 rfl, KW.at k872 26 rl_301 rfl]
            have e951 : (fv P900 301 25).toInt = (fv P9 301 25).toInt := by rw [KW.at k905 25 rl_301 rfl, KW.at k872 25 rl_301 rfl, KW.at k844 25 rl_301 rfl, f832 301 25 (by omega)]
            have u936 : 0 ≤ (1 : Int) ∧ (1 : Int) ≤ 1 ∧ (((fv Po 301 24).toInt ≤ (fv P900 301 24).toInt ∧ (fv P900 301 24).toInt ≤ (fv Po 301 23).toInt) ∧ (((1 : Int) = 1 ∧ CMD (chM Po) (fv Po 301 24).toInt (fv P900 301 24).toInt (fv P900 301 25).toInt (fv P900 301 26).toInt (fv P900 301 27).toInt (fv P900 301 28).toInt (fv P900 301 29).toInt) ∨ ((1 : Int) = 0 ∧ ¬ CMO (chM Po) (fv Po 301 24).toInt))) := ⟨by omega, by omega, ⟨by omega, by omega⟩, Or.inl ⟨rfl, by omega, Or.inl ⟨by omega, kw937_, mw937_, by omega, by omega, rw937_, by omega, uw937_, by omega, e950.trans (congrArg Int32.toInt vw937_), congrArg Int32.toInt ww937_, by omega⟩⟩⟩
            exact mp_iret ⟨⟨_, rfl, u936⟩, hT904, k907, trivial⟩ dX7_readsCommand_64 (Or.inr ⟨rfl, by decide⟩)

