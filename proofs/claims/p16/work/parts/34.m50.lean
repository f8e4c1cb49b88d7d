/-! methods on typed pools, 50 (written by a program) -/
set_option maxHeartbeats 4000000 in
theorem c_M_isText_l10 {Po : mP}   : ∀ (n : Nat) (v1 : Int32), ∀ (P : mP), Typ P → KW [1112, 1113, 1114, 1115, 1116, 1117] Po P → ((fv P 301 24).toInt ≤ (fv P 301 23).toInt) → ((∀ j : Nat, fv P 314 j = fv Po 314 j) ∧ fv P 301 23 = fv Po 301 23) → ((v1.toInt = 0 ∧ ¬ TKT (chM Po) (fv Po 301 23).toInt 0) ∨ (v1.toInt = 1 ∧ (TKT (chM Po) (fv Po 301 23).toInt 0 ↔ ((fv P 301 24).toInt = (fv Po 301 23).toInt ∨ ((chM Po (fv P 301 24).toInt).toInt = 59 ∧ TKT (chM Po) (fv Po 301 23).toInt ((fv P 301 24).toInt + 1)))))) → (81 - (fv P 301 24).toInt).toNat = n → MEvP 4 none q_216 10 [(0, .ref 301), (1, .int v1)] [] P 0 0 (fun r P' => (∃ x : Int32, r = some (.int x) ∧ (0 ≤ x.toInt ∧ x.toInt ≤ 1 ∧ ((fv P' 301 24).toInt ≤ (fv Po 301 23).toInt ∧ ((x.toInt = 1 ∧ TKT (chM Po) (fv Po 301 23).toInt 0) ∨ (x.toInt = 0 ∧ ¬ TKT (chM Po) (fv Po 301 23).toInt 0))))) ∧ Typ P' ∧ KW [1112, 1113, 1114, 1115, 1116, 1117] Po P' ∧ True) := by
  intro n
  induction n using Nat.strongRecOn with | _ n ih => ?_
  intro v1 P hT hK i_0 i_1 i_2 hm
  have w_v1 := ti_full v1
  have g1 : (0 : Int) ≤ (fv P 301 24).toInt ∧ (fv P 301 24).toInt ≤ 81 := Typ.rng hT rl_301 (by decide) (by decide) rfl
  have g2 : (0 : Int) ≤ (fv P 301 24).toInt ∧ (fv P 301 24).toInt ≤ 81 := Typ.rng hT rl_301 (by decide) (by decide) rfl
  have e3 : (fv P 301 23).toInt = (fv Po 301 23).toInt := congrArg Int32.toInt (KW.at hK 23 rl_301 rfl)
  have g4 : (0 : Int) ≤ (fv P 301 23).toInt ∧ (fv P 301 23).toInt ≤ 80 := Typ.rng hT rl_301 (by decide) (by decide) rfl
  have g5 : (0 : Int) ≤ (fv P 301 24).toInt ∧ (fv P 301 24).toInt ≤ 81 := Typ.rng hT rl_301 (by decide) (by decide) rfl
  refine mp_a (a_iload_n dX7_isText_10 rfl) (mpp 11 rfl ?_)
  refine mp_Tb (t := 31) (j_if_eq dX7_isText_11) (by decide) (fun c6 => ?_) (fun c6 => mpp 14 rfl ?_)
  · have c6 : v1.toInt = 0 := ti_eq c6
    refine mp_a (a_iload_n dX7_isText_31 rfl) (mpp 32 rfl ?_)
    refine mp_Tb (t := 50) (j_if_eq dX7_isText_32) (by decide) (fun c7 => ?_) (fun c7 => mpp 35 rfl ?_)
    · have c7 : v1.toInt = 0 := ti_eq c7
      refine mp_a (a_iconst (v := 0) dX7_isText_50 rfl) (mpp 51 rfl ?_)
      have w9_l : (fv P 301 23).toInt = (fv Po 301 23).toInt := congrArg Int32.toInt i_1.2
      have w9_c : chM P = chM Po := chM_eq i_1.1 i_1.2
      have u8 : 0 ≤ (0 : Int) ∧ (0 : Int) ≤ 1 ∧ ((fv P 301 24).toInt ≤ (fv Po 301 23).toInt ∧ (((0 : Int) = 1 ∧ TKT (chM Po) (fv Po 301 23).toInt 0) ∨ ((0 : Int) = 0 ∧ ¬ TKT (chM Po) (fv Po 301 23).toInt 0))) := ⟨by omega, by omega, by omega, Or.inr ⟨rfl, (i_2.resolve_right (by omega)).2⟩⟩
      exact mp_iret ⟨⟨_, rfl, u8⟩, hT, hK, trivial⟩ dX7_isText_51 (Or.inr ⟨rfl, by decide⟩)
    · have c7 : v1.toInt ≠ 0 := ti_eq_n c7
      refine mp_a (a_aload_n dX7_isText_35 rfl) (mpp 36 rfl ?_)
      refine mt_getI (i := 294) (k := 24) hT dX7_isText_36 rfl rl_301 (by decide) rfl (by decide) rfl (fun g10 g11 => mpp 39 rfl ?_)
      refine mp_a (a_aload_n dX7_isText_39 rfl) (mpp 40 rfl ?_)
      refine mt_getI (i := 291) (k := 23) hT dX7_isText_40 rfl rl_301 (by decide) rfl (by decide) rfl (fun g12 g13 => mpp 43 rfl ?_)
      refine mp_Tb (t := 50) (j_icmp_ne dX7_isText_43) (by decide) (fun c14 => ?_) (fun c14 => mpp 46 rfl ?_)
      · have c14 : (fv P 301 24).toInt ≠ (fv P 301 23).toInt := ti_ne c14
        refine mp_a (a_iconst (v := 0) dX7_isText_50 rfl) (mpp 51 rfl ?_)
        have w16_l : (fv P 301 23).toInt = (fv Po 301 23).toInt := congrArg Int32.toInt i_1.2
        have w16_c : chM P = chM Po := chM_eq i_1.1 i_1.2
        have u15 : 0 ≤ (0 : Int) ∧ (0 : Int) ≤ 1 ∧ ((fv P 301 24).toInt ≤ (fv Po 301 23).toInt ∧ (((0 : Int) = 1 ∧ TKT (chM Po) (fv Po 301 23).toInt 0) ∨ ((0 : Int) = 0 ∧ ¬ TKT (chM Po) (fv Po 301 23).toInt 0))) := ⟨by omega, by omega, by omega, Or.inr ⟨rfl, (i_2.resolve_right (by omega)).2⟩⟩
        exact mp_iret ⟨⟨_, rfl, u15⟩, hT, hK, trivial⟩ dX7_isText_51 (Or.inr ⟨rfl, by decide⟩)
      · have c14 : (fv P 301 24).toInt = (fv P 301 23).toInt := ti_ne_n c14
        refine mp_a (a_iconst (v := 1) dX7_isText_46 rfl) (mpp 47 rfl ?_)
        refine mp_a (a_goto (t := 51) dX7_isText_47 (by decide)) ?_
        have w18_l : (fv P 301 23).toInt = (fv Po 301 23).toInt := congrArg Int32.toInt i_1.2
        have w18_c : chM P = chM Po := chM_eq i_1.1 i_1.2
        have u17 : 0 ≤ (1 : Int) ∧ (1 : Int) ≤ 1 ∧ ((fv P 301 24).toInt ≤ (fv Po 301 23).toInt ∧ (((1 : Int) = 1 ∧ TKT (chM Po) (fv Po 301 23).toInt 0) ∨ ((1 : Int) = 0 ∧ ¬ TKT (chM Po) (fv Po 301 23).toInt 0))) := ⟨by omega, by omega, by omega, Or.inl ⟨rfl, (i_2.resolve_left (by omega)).2.mpr (Or.inl (by omega))⟩⟩
        exact mp_iret ⟨⟨_, rfl, u17⟩, hT, hK, trivial⟩ dX7_isText_51 (Or.inr ⟨rfl, by decide⟩)
  · have c6 : v1.toInt ≠ 0 := ti_eq_n c6
    refine mp_a (a_aload_n dX7_isText_14 rfl) (mpp 15 rfl ?_)
    refine mp_a (a_bipush (v := 59) dX7_isText_15 rfl) (mpp 17 rfl ?_)
    have p19 : 0 ≤ (59 : Int) := by omega
    refine mt_callv (i := 312) (q' := q_220) (As := [.int 59]) (rest := []) hT dX7_isText_17 rfl qm_220 (by decide) rfl rl_301 (by decide) rfl (Nat.le_of_ble_eq_true rfl) rfl ⟨rfl, rfl⟩ ⟨Nat.le_of_ble_eq_true rfl, Nat.le_of_ble_eq_true rfl⟩ (EvP.mono (by decide) (c_M_takes hT p19 )) (fun r20 P21 g22 => mpp 20 rfl ?_)
    obtain ⟨⟨x23, rfl, g24⟩, hT25, k26, R27⟩ := g22
    have k28 : KW [1112, 1113, 1114, 1115, 1116, 1117] Po P21 := KW.trans hK k26 rfl
    have wx23 := ti_full x23
    replace g24 : 0 ≤ x23.toInt ∧ x23.toInt ≤ 1 ∧ ((x23.toInt = 1 ∧ (chM P (fv P 301 24).toInt).toInt = (59 : Int) ∧ (fv P21 301 24).toInt = (fv P 301 24).toInt + 1 ∧ (fv P21 301 24).toInt ≤ (fv P 301 23).toInt) ∨ (x23.toInt = 0 ∧ ¬ (chM P (fv P 301 24).toInt).toInt = (59 : Int) ∧ (fv P21 301 24).toInt = (fv P 301 24).toInt)) := g24
    have g30 : (0 : Int) ≤ (fv P21 301 24).toInt ∧ (fv P21 301 24).toInt ≤ 81 := Typ.rng hT25 rl_301 (by decide) (by decide) rfl
    have g31 : (0 : Int) ≤ (fv P21 301 24).toInt ∧ (fv P21 301 24).toInt ≤ 81 := Typ.rng hT25 rl_301 (by decide) (by decide) rfl
    have g32 : (0 : Int) ≤ (fv P21 301 24).toInt ∧ (fv P21 301 24).toInt ≤ 81 := Typ.rng hT25 rl_301 (by decide) (by decide) rfl
    show MEvP _ none q_216 20 [(0, .ref 301), (1, .int v1)] [.int x23] _ _ _ _
    refine mp_Tb (t := 31) (j_if_eq dX7_isText_20) (by decide) (fun c33 => ?_) (fun c33 => mpp 23 rfl ?_)
    · have c33 : x23.toInt = 0 := ti_eq c33
      refine mp_a (a_iload_n dX7_isText_31 rfl) (mpp 32 rfl ?_)
      refine mp_Tb (t := 50) (j_if_eq dX7_isText_32) (by decide) (fun c34 => ?_) (fun c34 => mpp 35 rfl ?_)
      · have c34 : v1.toInt = 0 := ti_eq c34
        refine mp_a (a_iconst (v := 0) dX7_isText_50 rfl) (mpp 51 rfl ?_)
        have w36_l : (fv P 301 23).toInt = (fv Po 301 23).toInt := congrArg Int32.toInt i_1.2
        have w36_c : chM P = chM Po := chM_eq i_1.1 i_1.2
        have w36_t := g24
        rw [w36_c] at w36_t
        have e37 : (fv P21 301 23).toInt = (fv P 301 23).toInt := congrArg Int32.toInt (KW.at k26 23 rl_301 rfl)
        have u35 : 0 ≤ (0 : Int) ∧ (0 : Int) ≤ 1 ∧ ((fv P21 301 24).toInt ≤ (fv Po 301 23).toInt ∧ (((0 : Int) = 1 ∧ TKT (chM Po) (fv Po 301 23).toInt 0) ∨ ((0 : Int) = 0 ∧ ¬ TKT (chM Po) (fv Po 301 23).toInt 0))) := ⟨by omega, by omega, by omega, Or.inr ⟨rfl, fun q => by rcases (i_2.resolve_left (by omega)).2.mp q with q | q <;> omega⟩⟩
        exact mp_iret ⟨⟨_, rfl, u35⟩, hT25, k28, trivial⟩ dX7_isText_51 (Or.inr ⟨rfl, by decide⟩)
      · have c34 : v1.toInt ≠ 0 := ti_eq_n c34
        refine mp_a (a_aload_n dX7_isText_35 rfl) (mpp 36 rfl ?_)
        refine mt_getI (i := 294) (k := 24) hT25 dX7_isText_36 rfl rl_301 (by decide) rfl (by decide) rfl (fun g38 g39 => mpp 39 rfl ?_)
        refine mp_a (a_aload_n dX7_isText_39 rfl) (mpp 40 rfl ?_)
        have e40 : (fv P21 301 23).toInt = (fv P 301 23).toInt := congrArg Int32.toInt (KW.at k26 23 rl_301 rfl)
        refine mt_getI (i := 291) (k := 23) hT25 dX7_isText_40 rfl rl_301 (by decide) rfl (by decide) rfl (fun g41 g42 => mpp 43 rfl ?_)
        refine mp_Tb (t := 50) (j_icmp_ne dX7_isText_43) (by decide) (fun c43 => ?_) (fun c43 => mpp 46 rfl ?_)
        · have c43 : (fv P21 301 24).toInt ≠ (fv P21 301 23).toInt := ti_ne c43
          refine mp_a (a_iconst (v := 0) dX7_isText_50 rfl) (mpp 51 rfl ?_)
          have w45_l : (fv P 301 23).toInt = (fv Po 301 23).toInt := congrArg Int32.toInt i_1.2
          have w45_c : chM P = chM Po := chM_eq i_1.1 i_1.2
          have w45_t := g24
          rw [w45_c] at w45_t
          have e46 : (fv P21 301 23).toInt = (fv P 301 23).toInt := congrArg Int32.toInt (KW.at k26 23 rl_301 rfl)
          have u44 : 0 ≤ (0 : Int) ∧ (0 : Int) ≤ 1 ∧ ((fv P21 301 24).toInt ≤ (fv Po 301 23).toInt ∧ (((0 : Int) = 1 ∧ TKT (chM Po) (fv Po 301 23).toInt 0) ∨ ((0 : Int) = 0 ∧ ¬ TKT (chM Po) (fv Po 301 23).toInt 0))) := ⟨by omega, by omega, by omega, Or.inr ⟨rfl, fun q => by rcases (i_2.resolve_left (by omega)).2.mp q with q | q <;> omega⟩⟩
          exact mp_iret ⟨⟨_, rfl, u44⟩, hT25, k28, trivial⟩ dX7_isText_51 (Or.inr ⟨rfl, by decide⟩)
        · have c43 : (fv P21 301 24).toInt = (fv P21 301 23).toInt := ti_ne_n c43
          refine mp_a (a_iconst (v := 1) dX7_isText_46 rfl) (mpp 47 rfl ?_)
          refine mp_a (a_goto (t := 51) dX7_isText_47 (by decide)) ?_
          have w48_l : (fv P 301 23).toInt = (fv Po 301 23).toInt := congrArg Int32.toInt i_1.2
          have w48_c : chM P = chM Po := chM_eq i_1.1 i_1.2
          have w48_t := g24
          rw [w48_c] at w48_t
          have e49 : (fv P21 301 23).toInt = (fv P 301 23).toInt := congrArg Int32.toInt (KW.at k26 23 rl_301 rfl)
          have u47 : 0 ≤ (1 : Int) ∧ (1 : Int) ≤ 1 ∧ ((fv P21 301 24).toInt ≤ (fv Po 301 23).toInt ∧ (((1 : Int) = 1 ∧ TKT (chM Po) (fv Po 301 23).toInt 0) ∨ ((1 : Int) = 0 ∧ ¬ TKT (chM Po) (fv Po 301 23).toInt 0))) := ⟨by omega, by omega, by omega, Or.inl ⟨rfl, (i_2.resolve_left (by omega)).2.mpr (Or.inl (by omega))⟩⟩
          exact mp_iret ⟨⟨_, rfl, u47⟩, hT25, k28, trivial⟩ dX7_isText_51 (Or.inr ⟨rfl, by decide⟩)
    · have c33 : x23.toInt ≠ 0 := ti_eq_n c33
      refine mp_a (a_aload_n dX7_isText_23 rfl) (mpp 24 rfl ?_)
      have e50 : (fv P21 301 23).toInt = (fv P 301 23).toInt := congrArg Int32.toInt (KW.at k26 23 rl_301 rfl)
      have p51 : (fv P21 301 24).toInt ≤ (fv P21 301 23).toInt := by omega
      refine mt_callv (i := 333) (q' := q_217) (As := []) (rest := []) hT25 dX7_isText_24 rfl qm_217 (by decide) rfl rl_301 (by decide) rfl (Nat.le_of_ble_eq_true rfl) rfl ⟨rfl, rfl⟩ ⟨Nat.le_of_ble_eq_true rfl, Nat.le_of_ble_eq_true rfl⟩ (EvP.mono (by decide) (c_M_readsCommand hT25 p51 )) (fun r52 P53 g54 => mpp 27 rfl ?_)
      obtain ⟨⟨x55, rfl, g56⟩, hT57, k58, R59⟩ := g54
      have k60 : KW [1112, 1113, 1114, 1115, 1116, 1117] Po P53 := KW.trans k28 k58 rfl
      have wx55 := ti_full x55
      replace g56 : 0 ≤ x55.toInt ∧ x55.toInt ≤ 1 ∧ (((fv P21 301 24).toInt ≤ (fv P53 301 24).toInt ∧ (fv P53 301 24).toInt ≤ (fv P21 301 23).toInt) ∧ ((x55.toInt = 1 ∧ CMD (chM P21) (fv P21 301 24).toInt (fv P53 301 24).toInt (fv P53 301 25).toInt (fv P53 301 26).toInt (fv P53 301 27).toInt (fv P53 301 28).toInt (fv P53 301 29).toInt) ∨ (x55.toInt = 0 ∧ ¬ CMO (chM P21) (fv P21 301 24).toInt))) := g56
      have g62 : (0 : Int) ≤ (fv P53 301 24).toInt ∧ (fv P53 301 24).toInt ≤ 81 := Typ.rng hT57 rl_301 (by decide) (by decide) rfl
      have g63 : (0 : Int) ≤ (fv P53 301 24).toInt ∧ (fv P53 301 24).toInt ≤ 81 := Typ.rng hT57 rl_301 (by decide) (by decide) rfl
      have g64 : (0 : Int) ≤ (fv P53 301 24).toInt ∧ (fv P53 301 24).toInt ≤ 81 := Typ.rng hT57 rl_301 (by decide) (by decide) rfl
      have g65 := ti_full (fv P53 301 25)
      have g66 := ti_full (fv P53 301 26)
      have g67 := ti_full (fv P53 301 27)
      have g68 := ti_full (fv P53 301 28)
      have g69 := ti_full (fv P53 301 29)
      show MEvP _ none q_216 27 [(0, .ref 301), (1, .int v1)] [.int x55] _ _ _ _
      refine mp_a (a_istore_n (L' := [(1, .int x55), (0, .ref 301)]) dX7_isText_27 (by decide) rfl) (mpp 28 rfl ?_)
      refine mp_a (a_goto (t := 10) dX7_isText_28 (by decide)) ?_
      refine MEvP.less (L := [(0, .ref 301), (1, .int x55)]) rfl rfl ⟨rfl, rfl, trivial⟩ ?_
      have e70 : (fv P53 301 23).toInt = (fv P21 301 23).toInt := congrArg Int32.toInt (KW.at k58 23 rl_301 rfl)
      have i71 : (fv P53 301 24).toInt ≤ (fv P53 301 23).toInt := by omega
      have i72 : (∀ j : Nat, fv P53 314 j = fv Po 314 j) ∧ fv P53 301 23 = fv Po 301 23 := ⟨fun j => by rw [KW.at k58 j rl_314 rfl, KW.at k26 j rl_314 rfl]; exact i_1.1 j, by rw [KW.at k58 23 rl_301 rfl, KW.at k26 23 rl_301 rfl]; exact i_1.2⟩
      have w74_c : chM P = chM Po := chM_eq i_1.1 i_1.2
      have t75_ : chM P21 = chM P := chM_eq (fun j => by rw [KW.at k26 j rl_314 rfl]) (by rw [KW.at k26 23 rl_301 rfl])
      have w74_g := g56.2.2.2
      rw [t75_, w74_c, show (fv P21 301 24).toInt = (fv P 301 24).toInt + 1 from by omega] at w74_g
      have w74_t := g24
      rw [w74_c] at w74_t
      have w74_e : (chM Po (fv P 301 24).toInt).toInt = 59 := by omega
      have w74_l : (fv P 301 23).toInt = (fv Po 301 23).toInt := congrArg Int32.toInt i_1.2
      have w74_m := ch_lt (t := fun j => fv Po 314 j) (L := (fv Po 301 23).toInt) (i := (fv P 301 24).toInt) (show ¬ (chM Po (fv P 301 24).toInt).toInt = -1 from by omega)
      have w74_i : TKT (chM Po) (fv Po 301 23).toInt 0 ↔ TKT (chM Po) (fv Po 301 23).toInt ((fv P 301 24).toInt + 1) := (i_2.resolve_left (by omega)).2.trans ⟨fun q => q.elim (fun q => absurd q (by omega)) (fun q => q.2), fun q => Or.inr ⟨w74_e, q⟩⟩
      have w74_ : (x55.toInt = 0 ∧ ¬ TKT (chM Po) (fv Po 301 23).toInt 0) ∨ (x55.toInt = 1 ∧ (TKT (chM Po) (fv Po 301 23).toInt 0 ↔ ((fv P53 301 24).toInt = (fv Po 301 23).toInt ∨ ((chM Po (fv P53 301 24).toInt).toInt = 59 ∧ TKT (chM Po) (fv Po 301 23).toInt ((fv P53 301 24).toInt + 1))))) := by
        rcases w74_g with ⟨g1, g2⟩ | ⟨g1, g2⟩
        · exact Or.inr ⟨g1, w74_i.trans (TKT.at g2)⟩
        · exact Or.inl ⟨g1, fun q => TKT.no g2 (w74_i.mp q)⟩
      have i73 : (x55.toInt = 0 ∧ ¬ TKT (chM Po) (fv Po 301 23).toInt 0) ∨ (x55.toInt = 1 ∧ (TKT (chM Po) (fv Po 301 23).toInt 0 ↔ ((fv P53 301 24).toInt = (fv Po 301 23).toInt ∨ ((chM Po (fv P53 301 24).toInt).toInt = 59 ∧ TKT (chM Po) (fv Po 301 23).toInt ((fv P53 301 24).toInt + 1))))) := w74_
      exact ih _ (by omega) _ P53 hT57 k60 i71 i72 i73 rfl

set_option maxHeartbeats 4000000 in
theorem c_M_isText {Po : mP}  (hT : Typ Po)   : EvP 5 216 [.ref 301] Po (fun r P' => (∃ x : Int32, r = some (.int x) ∧ (0 ≤ x.toInt ∧ x.toInt ≤ 1 ∧ ((fv P' 301 24).toInt ≤ (fv Po 301 23).toInt ∧ ((x.toInt = 1 ∧ TKT (chM Po) (fv Po 301 23).toInt 0) ∨ (x.toInt = 0 ∧ ¬ TKT (chM Po) (fv Po 301 23).toInt 0))))) ∧ Typ P' ∧ KW [1112, 1113, 1114, 1115, 1116, 1117] Po P' ∧ True) := by
  refine EvP.of qm_216 (Nat.le_of_ble_eq_true rfl) rfl ?_
  show MEvP _ none q_216 0 [(0, .ref 301)] [] _ 0 0 _
  have g1 : (0 : Int) ≤ (fv Po 301 23).toInt ∧ (fv Po 301 23).toInt ≤ 80 := Typ.rng hT rl_301 (by decide) (by decide) rfl
  refine mp_a (a_aload_n dX7_isText_0 rfl) (mpp 1 rfl ?_)
  refine mp_a (a_iconst (v := 0) dX7_isText_1 rfl) (mpp 2 rfl ?_)
  refine mt_putI (i := 294) (k := 24) (x := 0) hT dX7_isText_2 rfl rl_301 (by decide) rfl (by decide) rfl (by decide) rfl rfl (fun P2 hT3 f4 f5 f6 => mpp 5 rfl ?_)
  have k7 : KW [1112, 1113, 1114, 1115, 1116, 1117] Po P2 := KW.step KW.refl rl_301 rfl f5 f6
  have e8 : (fv P2 301 24).toInt = 0 := congrArg Int32.toInt f4
  refine mp_a (a_aload_n dX7_isText_5 rfl) (mpp 6 rfl ?_)
  have e9 : (fv P2 301 23).toInt = (fv Po 301 23).toInt := congrArg Int32.toInt (f5 301 23 (ne_k rfl))
  have p10 : (fv P2 301 24).toInt ≤ (fv P2 301 23).toInt := by omega
  refine mt_callv (i := 333) (q' := q_217) (As := []) (rest := []) hT3 dX7_isText_6 rfl qm_217 (by decide) rfl rl_301 (by decide) rfl (Nat.le_of_ble_eq_true rfl) rfl ⟨rfl, rfl⟩ ⟨Nat.le_of_ble_eq_true rfl, Nat.le_of_ble_eq_true rfl⟩ (EvP.mono (by decide) (c_M_readsCommand hT3 p10 )) (fun r11 P12 g13 => mpp 9 rfl ?_)
  obtain ⟨⟨x14, rfl, g15⟩, hT16, k17, R18⟩ := g13
  have k19 : KW [1112, 1113, 1114, 1115, 1116, 1117] Po P12 := KW.trans k7 k17 rfl
  have wx14 := ti_full x14
  replace g15 : 0 ≤ x14.toInt ∧ x14.toInt ≤ 1 ∧ (((fv P2 301 24).toInt ≤ (fv P12 301 24).toInt ∧ (fv P12 301 24).toInt ≤ (fv P2 301 23).toInt) ∧ ((x14.toInt = 1 ∧ CMD (chM P2) (fv P2 301 24).toInt (fv P12 301 24).toInt (fv P12 301 25).toInt (fv P12 301 26).toInt (fv P12 301 27).toInt (fv P12 301 28).toInt (fv P12 301 29).toInt) ∨ (x14.toInt = 0 ∧ ¬ CMO (chM P2) (fv P2 301 24).toInt))) := g15
  have g21 : (0 : Int) ≤ (fv P12 301 24).toInt ∧ (fv P12 301 24).toInt ≤ 81 := Typ.rng hT16 rl_301 (by decide) (by decide) rfl
  have g22 : (0 : Int) ≤ (fv P12 301 24).toInt ∧ (fv P12 301 24).toInt ≤ 81 := Typ.rng hT16 rl_301 (by decide) (by decide) rfl
  have g23 : (0 : Int) ≤ (fv P12 301 24).toInt ∧ (fv P12 301 24).toInt ≤ 81 := Typ.rng hT16 rl_301 (by decide) (by decide) rfl
  have g24 := ti_full (fv P12 301 25)
  have g25 := ti_full (fv P12 301 26)
  have g26 := ti_full (fv P12 301 27)
  have g27 := ti_full (fv P12 301 28)
  have g28 := ti_full (fv P12 301 29)
  show MEvP _ none q_216 9 [(0, .ref 301)] [.int x14] _ _ _ _
  refine mp_a (a_istore_n (L' := [(1, .int x14), (0, .ref 301)]) dX7_isText_9 (by decide) rfl) (mpp 10 rfl ?_)
  refine MEvP.less (L := [(0, .ref 301), (1, .int x14)]) rfl rfl ⟨rfl, rfl, trivial⟩ ?_
  have e29 : (fv P12 301 23).toInt = (fv P2 301 23).toInt := congrArg Int32.toInt (KW.at k17 23 rl_301 rfl)
  have i30 : (fv P12 301 24).toInt ≤ (fv P12 301 23).toInt := by omega
  have i31 : (∀ j : Nat, fv P12 314 j = fv Po 314 j) ∧ fv P12 301 23 = fv Po 301 23 := ⟨fun j => by rw [KW.at k17 j rl_314 rfl, f5 314 j (by omega)], by rw [KW.at k17 23 rl_301 rfl, f5 301 23 (by omega)]⟩
  have t34_ : chM P2 = chM Po := chM_eq (fun j => by rw [f5 314 j (by omega)]) (by rw [f5 301 23 (by omega)])
  have w33_g := g15.2.2.2
  rw [t34_, show (fv P2 301 24).toInt = 0 from by omega] at w33_g
  have w33_ : (x14.toInt = 0 ∧ ¬ TKT (chM Po) (fv Po 301 23).toInt 0) ∨ (x14.toInt = 1 ∧ (TKT (chM Po) (fv Po 301 23).toInt 0 ↔ ((fv P12 301 24).toInt = (fv Po 301 23).toInt ∨ ((chM Po (fv P12 301 24).toInt).toInt = 59 ∧ TKT (chM Po) (fv Po 301 23).toInt ((fv P12 301 24).toInt + 1))))) := by
    rcases w33_g with ⟨g1, g2⟩ | ⟨g1, g2⟩
    · exact Or.inr ⟨g1, TKT.at g2⟩
    · exact Or.inl ⟨g1, TKT.no g2⟩
  have i32 : (x14.toInt = 0 ∧ ¬ TKT (chM Po) (fv Po 301 23).toInt 0) ∨ (x14.toInt = 1 ∧ (TKT (chM Po) (fv Po 301 23).toInt 0 ↔ ((fv P12 301 24).toInt = (fv Po 301 23).toInt ∨ ((chM Po (fv P12 301 24).toInt).toInt = 59 ∧ TKT (chM Po) (fv Po 301 23).toInt ((fv P12 301 24).toInt + 1))))) := w33_
  exact c_M_isText_l10    _ _ P12 hT16 k19 i30 i31 i32 rfl

set_option maxHeartbeats 4000000 in
theorem c_M_addsSigned {Po : mP}  (hT : Typ Po) (hR : Rel Po)  : EvP 7 227 [.ref 301] Po (fun r P' => (∃ x : Int32, r = some (.int x) ∧ (ASM (sr Po) (sr P') x.toInt (if (fv Po 301 25).toInt = 115 then 0 else 1) (fv Po 301 26).toInt (fv Po 301 27).toInt (fv Po 301 28).toInt)) ∧ Typ P' ∧ KW [1093, 1094, 1152, 1408, 1472] Po P' ∧ Rel P') := by
  refine EvP.of qm_227 (Nat.le_of_ble_eq_true rfl) rfl ?_
  show MEvP _ none q_227 0 [(0, .ref 301)] [] _ 0 0 _
  have g1 := ti_full (fv Po 301 25)
  have g2 := ti_full (fv Po 301 26)
  have g3 := ti_full (fv Po 301 27)
  have g4 := ti_full (fv Po 301 28)
  refine mp_a (a_aload_n dX7_addsSigned_0 rfl) (mpp 1 rfl ?_)
  refine mt_getI (i := 321) (k := 25) hT dX7_addsSigned_1 rfl rl_301 (by decide) rfl (by decide) rfl (fun g5 g6 => mpp 4 rfl ?_)
  refine mp_a (a_bipush (v := 115) dX7_addsSigned_4 rfl) (mpp 6 rfl ?_)
  refine mp_Tb (t := 13) (j_icmp_ne dX7_addsSigned_6) (by decide) (fun c7 => ?_) (fun c7 => mpp 9 rfl ?_)
  · have c7 : (fv Po 301 25).toInt ≠ 115 := ti_ne c7
    refine mp_a (a_iconst (v := 1) dX7_addsSigned_13 rfl) (mpp 14 rfl ?_)
    refine mp_a (a_istore_n (L' := [(1, .int 1), (0, .ref 301)]) dX7_addsSigned_14 (by decide) rfl) (mpp 15 rfl ?_)
    refine mp_a (a_aload_n dX7_addsSigned_15 rfl) (mpp 16 rfl ?_)
    refine mp_a (a_aload_n dX7_addsSigned_16 rfl) (mpp 17 rfl ?_)
    refine mt_getI (i := 300) (k := 26) hT dX7_addsSigned_17 rfl rl_301 (by decide) rfl (by decide) rfl (fun g8 g9 => mpp 20 rfl ?_)
    refine mt_callv (i := 104) (q' := q_128) (As := [.int (fv Po 301 26)]) (rest := []) hT dX7_addsSigned_20 rfl qm_128 (by decide) rfl rl_301 (by decide) rfl (Nat.le_of_ble_eq_true rfl) rfl ⟨rfl, rfl⟩ ⟨Nat.le_of_ble_eq_true rfl, Nat.le_of_ble_eq_true rfl⟩ (EvP.mono (by decide) (c_M_laysSizes hT )) (fun r10 P11 g12 => mpp 23 rfl ?_)
    obtain ⟨⟨x13, rfl, g14⟩, hT15, k16, R17⟩ := g12
    have k18 : KW [1093, 1094, 1152, 1408, 1472] Po P11 := KW.trans KW.refl k16 rfl
    have R20 := Rel.kw hR k16 rfl
    have wx13 := ti_full x13
    replace g14 : (x13.toInt = 0 ∧ ∀ c : Nat, ¬ okD (fv Po 301 26).toInt c) ∨ (okD (fv Po 301 26).toInt x13.toInt.toNat ∧ 1 ≤ x13.toInt ∧ x13.toInt ≤ 8 ∧ ∀ j : Nat, j < x13.toInt.toNat → fv P11 306 j = dgI (fv Po 301 26).toInt x13.toInt.toNat j) := g14
    show MEvP _ none q_227 23 [(1, .int 1), (0, .ref 301)] [.int x13] _ _ _ _
    refine mp_a (a_istore_n (L' := [(2, .int x13), (1, .int 1), (0, .ref 301)]) dX7_addsSigned_23 (by decide) rfl) (mpp 24 rfl ?_)
    refine mp_a (a_aload_n dX7_addsSigned_24 rfl) (mpp 25 rfl ?_)
    refine mp_a (a_iload_n dX7_addsSigned_25 rfl) (mpp 26 rfl ?_)
    refine mp_a (a_iload_n dX7_addsSigned_26 rfl) (mpp 27 rfl ?_)
    have p21 : x13.toInt ≤ 8 := by omega
    refine mt_callv (i := 107) (q' := q_130) (As := [.int 1, .int x13]) (rest := []) hT15 dX7_addsSigned_27 rfl qm_130 (by decide) rfl rl_301 (by decide) rfl (Nat.le_of_ble_eq_true rfl) rfl ⟨rfl, rfl⟩ ⟨Nat.le_of_ble_eq_true rfl, Nat.le_of_ble_eq_true rfl⟩ (EvP.mono (by decide) (c_M_areSizes hT15 p21 )) (fun r22 P23 g24 => mpp 30 rfl ?_)
    obtain ⟨⟨x25, rfl, g26⟩, e27⟩ := g24
    have e27 := e27.symm
    subst e27
    have wx25 := ti_full x25
    replace g26 : 0 ≤ x25.toInt ∧ x25.toInt ≤ 1 ∧ ((x25.toInt = 1 ∧ (((1 : Int) = 0 ∧ 2 ≤ x13.toInt ∧ x13.toInt ≤ 7) ∨ (¬ (1 : Int) = 0 ∧ (x13.toInt = 4 ∨ x13.toInt = 6 ∨ x13.toInt = 8) ∧ (smF (fun j : Nat => fv P11 306 j) x13.toInt.toNat).toInt = 24))) ∨ (x25.toInt = 0 ∧ ¬ (((1 : Int) = 0 ∧ 2 ≤ x13.toInt ∧ x13.toInt ≤ 7) ∨ (¬ (1 : Int) = 0 ∧ (x13.toInt = 4 ∨ x13.toInt = 6 ∨ x13.toInt = 8) ∧ (smF (fun j : Nat => fv P11 306 j) x13.toInt.toNat).toInt = 24)))) := g26
    show MEvP _ none q_227 30 [(2, .int x13), (1, .int 1), (0, .ref 301)] [.int x25] _ _ _ _
    refine mp_Tb (t := 45) (j_if_eq dX7_addsSigned_30) (by decide) (fun c28 => ?_) (fun c28 => mpp 33 rfl ?_)
    · have c28 : x25.toInt = 0 := ti_eq c28
      refine mp_a (a_sipush (v := -1002) dX7_addsSigned_45 rfl) (mpp 48 rfl ?_)
      have w30_k : (if (fv Po 301 25).toInt = 115 then (0 : Int) else 1) = 1 := by rw [if_neg (by omega)]
      have w30_q : (okD (fv Po 301 26).toInt x13.toInt.toNat ∧ 1 ≤ x13.toInt ∧ x13.toInt ≤ 8 ∧ ∀ j : Nat, j < x13.toInt.toNat → fv P11 306 j = dgI (fv Po 301 26).toInt x13.toInt.toNat j) → smF (fun j : Nat => fv P11 306 j) x13.toInt.toNat = smF (dgI (fv Po 301 26).toInt x13.toInt.toNat) x13.toInt.toNat := fun q => smF_congr q.2.2.2
      have e31 : (fv P11 301 26).toInt = (fv Po 301 26).toInt := congrArg Int32.toInt (KW.at k16 26 rl_301 rfl)
      have e32 : (fv P11 301 27).toInt = (fv Po 301 27).toInt := congrArg Int32.toInt (KW.at k16 27 rl_301 rfl)
      have e33 : (fv P11 301 28).toInt = (fv Po 301 28).toInt := congrArg Int32.toInt (KW.at k16 28 rl_301 rfl)
      have w30_ : ∀ c : Nat, okSz 1 (fv Po 301 26).toInt c → ¬ (fv Po 301 28).toInt = (c : Int) - 1 + 1 := by
        intro c hc hn
        rcases g14 with g | g
        · exact g.2 c hc.1
        · have e := hc.1.1.uniq g.1.1
          subst e
          have q2 := congrArg Int32.toInt (w30_q g)
          have o5 := hc.2
          omega
      have u29 : ASM (sr Po) (sr P11) (-1002 : Int) (if (fv Po 301 25).toInt = 115 then 0 else 1) (fv Po 301 26).toInt (fv Po 301 27).toInt (fv Po 301 28).toInt := by rw [w30_k]; exact Or.inl ⟨rfl, w30_, fun j => (show fv P11 302 j = fv Po 302 j from by rw [KW.at k16 j rl_302 rfl])⟩
      exact mp_iret ⟨⟨_, rfl, u29⟩, hT15, k18, R20⟩ dX7_addsSigned_48 (Or.inl rfl)
    · have c28 : x25.toInt ≠ 0 := ti_eq_n c28
      refine mp_a (a_aload_n dX7_addsSigned_33 rfl) (mpp 34 rfl ?_)
      have e34 : (fv P11 301 28).toInt = (fv Po 301 28).toInt := congrArg Int32.toInt (KW.at k16 28 rl_301 rfl)
      refine mt_getI (i := 306) (k := 28) hT15 dX7_addsSigned_34 rfl rl_301 (by decide) rfl (by decide) rfl (fun g35 g36 => mpp 37 rfl ?_)
      refine mp_a (a_iload_n dX7_addsSigned_37 rfl) (mpp 38 rfl ?_)
      refine mp_a (a_iconst (v := 1) dX7_addsSigned_38 rfl) (mpp 39 rfl ?_)
      obtain ⟨z37, h38⟩ := ti_ex (x13 - 1 : Int32)
      have wz37 := ti_full z37
      refine mp_t (s_isub (v := z37) dX7_addsSigned_39 h38) (mpp 40 rfl ?_)
      try have e39 : z37.toInt = x13.toInt - 1 := ti_subz h38 rfl rfl (by omega) (by omega)
      refine mp_a (a_iload_n dX7_addsSigned_40 rfl) (mpp 41 rfl ?_)
      obtain ⟨z40, h41⟩ := ti_ex (z37 + 1 : Int32)
      have wz40 := ti_full z40
      refine mp_t (s_iadd (v := z40) dX7_addsSigned_41 h41) (mpp 42 rfl ?_)
      try have e42 : z40.toInt = z37.toInt + 1 := ti_addz h41 rfl rfl (by omega) (by omega)
      refine mp_Tb (t := 49) (j_icmp_eq dX7_addsSigned_42) (by decide) (fun c43 => ?_) (fun c43 => mpp 45 rfl ?_)
      · have c43 : (fv P11 301 28).toInt = z40.toInt := ti_eq c43
        refine mp_a (a_aload_n dX7_addsSigned_49 rfl) (mpp 50 rfl ?_)
        refine mp_a (a_iload_n dX7_addsSigned_50 rfl) (mpp 51 rfl ?_)
        refine mp_a (a_aload_n dX7_addsSigned_51 rfl) (mpp 52 rfl ?_)
        have e44 : (fv P11 301 26).toInt = (fv Po 301 26).toInt := congrArg Int32.toInt (KW.at k16 26 rl_301 rfl)
        refine mt_getI (i := 300) (k := 26) hT15 dX7_addsSigned_52 rfl rl_301 (by decide) rfl (by decide) rfl (fun g45 g46 => mpp 55 rfl ?_)
        refine mp_a (a_aload_n dX7_addsSigned_55 rfl) (mpp 56 rfl ?_)
        have e47 : (fv P11 301 27).toInt = (fv Po 301 27).toInt := congrArg Int32.toInt (KW.at k16 27 rl_301 rfl)
        refine mt_getI (i := 303) (k := 27) hT15 dX7_addsSigned_56 rfl rl_301 (by decide) rfl (by decide) rfl (fun g48 g49 => mpp 59 rfl ?_)
        refine mt_callv (i := 120) (q' := q_126) (As := [.int 1, .int (fv P11 301 26), .int (fv P11 301 27)]) (rest := []) hT15 dX7_addsSigned_59 rfl qm_126 (by decide) rfl rl_301 (by decide) rfl (Nat.le_of_ble_eq_true rfl) rfl ⟨rfl, rfl⟩ ⟨Nat.le_of_ble_eq_true rfl, Nat.le_of_ble_eq_true rfl⟩ (EvP.mono (by decide) (c_M_addsTold hT15 R20 )) (fun r50 P51 g52 => mpp 62 rfl ?_)
        obtain ⟨⟨x53, rfl, g54⟩, hT55, k56, R57⟩ := g52
        have k58 : KW [1093, 1094, 1152, 1408, 1472] Po P51 := KW.trans k18 k56 rfl
        have wx53 := ti_full x53
        replace g54 : addsToldM (sr P11) (sr P51) x53.toInt (1 : Int) (fv P11 301 26).toInt (fv P11 301 27).toInt := g54
        show MEvP _ none q_227 62 [(2, .int x13), (1, .int 1), (0, .ref 301)] [.int x53] _ _ _ _
        have w61_k : (if (fv Po 301 25).toInt = 115 then (0 : Int) else 1) = 1 := by rw [if_neg (by omega)]
        have w61_q : (okD (fv Po 301 26).toInt x13.toInt.toNat ∧ 1 ≤ x13.toInt ∧ x13.toInt ≤ 8 ∧ ∀ j : Nat, j < x13.toInt.toNat → fv P11 306 j = dgI (fv Po 301 26).toInt x13.toInt.toNat j) → smF (fun j : Nat => fv P11 306 j) x13.toInt.toNat = smF (dgI (fv Po 301 26).toInt x13.toInt.toNat) x13.toInt.toNat := fun q => smF_congr q.2.2.2
        have e62 : (fv P11 301 26).toInt = (fv Po 301 26).toInt := congrArg Int32.toInt (KW.at k16 26 rl_301 rfl)
        have e63 : (fv P11 301 27).toInt = (fv Po 301 27).toInt := congrArg Int32.toInt (KW.at k16 27 rl_301 rfl)
        have e64 : (fv P11 301 28).toInt = (fv Po 301 28).toInt := congrArg Int32.toInt (KW.at k16 28 rl_301 rfl)
        have w61_g := g14.resolve_left (fun q => by have := q.1; omega)
        have w61_r := congrArg Int32.toInt (w61_q w61_g)
        have w61_e : sr P11 = sr Po := funext (fun j => by show fv P11 302 j = fv Po 302 j; rw [KW.at k16 j rl_302 rfl])
        have w61_ := g54
        rw [w61_e, show (fv P11 301 26).toInt = (fv Po 301 26).toInt from by omega, show (fv P11 301 27).toInt = (fv Po 301 27).toInt from by omega] at w61_
        have u60 : ASM (sr Po) (sr P51) x53.toInt (if (fv Po 301 25).toInt = 115 then 0 else 1) (fv Po 301 26).toInt (fv Po 301 27).toInt (fv Po 301 28).toInt := by rw [w61_k]; exact Or.inr ⟨_, ⟨w61_g.1, by omega⟩, by omega, w61_⟩
        exact mp_iret ⟨⟨_, rfl, u60⟩, hT55, k58, R57⟩ dX7_addsSigned_62 (Or.inl rfl)
      · have c43 : (fv P11 301 28).toInt ≠ z40.toInt := ti_eq_n c43
        refine mp_a (a_sipush (v := -1002) dX7_addsSigned_45 rfl) (mpp 48 rfl ?_)
        have w66_k : (if (fv Po 301 25).toInt = 115 then (0 : Int) else 1) = 1 := by rw [if_neg (by omega)]
        have w66_q : (okD (fv Po 301 26).toInt x13.toInt.toNat ∧ 1 ≤ x13.toInt ∧ x13.toInt ≤ 8 ∧ ∀ j : Nat, j < x13.toInt.toNat → fv P11 306 j = dgI (fv Po 301 26).toInt x13.toInt.toNat j) → smF (fun j : Nat => fv P11 306 j) x13.toInt.toNat = smF (dgI (fv Po 301 26).toInt x13.toInt.toNat) x13.toInt.toNat := fun q => smF_congr q.2.2.2
        have e67 : (fv P11 301 26).toInt = (fv Po 301 26).toInt := congrArg Int32.toInt (KW.at k16 26 rl_301 rfl)
        have e68 : (fv P11 301 27).toInt = (fv Po 301 27).toInt := congrArg Int32.toInt (KW.at k16 27 rl_301 rfl)
        have e69 : (fv P11 301 28).toInt = (fv Po 301 28).toInt := congrArg Int32.toInt (KW.at k16 28 rl_301 rfl)
        have w66_ : ∀ c : Nat, okSz 1 (fv Po 301 26).toInt c → ¬ (fv Po 301 28).toInt = (c : Int) - 1 + 1 := by
          intro c hc hn
          rcases g14 with g | g
          · exact g.2 c hc.1
          · have e := hc.1.1.uniq g.1.1
            subst e
            have q2 := congrArg Int32.toInt (w66_q g)
            have o5 := hc.2
            omega
        have u65 : ASM (sr Po) (sr P11) (-1002 : Int) (if (fv Po 301 25).toInt = 115 then 0 else 1) (fv Po 301 26).toInt (fv Po 301 27).toInt (fv Po 301 28).toInt := by rw [w66_k]; exact Or.inl ⟨rfl, w66_, fun j => (show fv P11 302 j = fv Po 302 j from by rw [KW.at k16 j rl_302 rfl])⟩
        exact mp_iret ⟨⟨_, rfl, u65⟩, hT15, k18, R20⟩ dX7_addsSigned_48 (Or.inl rfl)
  · have c7 : (fv Po 301 25).toInt = 115 := ti_ne_n c7
    refine mp_a (a_iconst (v := 0) dX7_addsSigned_9 rfl) (mpp 10 rfl ?_)
    refine mp_a (a_goto (t := 14) dX7_addsSigned_10 (by decide)) ?_
    refine mp_a (a_istore_n (L' := [(1, .int 0), (0, .ref 301)]) dX7_addsSigned_14 (by decide) rfl) (mpp 15 rfl ?_)
    refine mp_a (a_aload_n dX7_addsSigned_15 rfl) (mpp 16 rfl ?_)
    refine mp_a (a_aload_n dX7_addsSigned_16 rfl) (mpp 17 rfl ?_)
    refine mt_getI (i := 300) (k := 26) hT dX7_addsSigned_17 rfl rl_301 (by decide) rfl (by decide) rfl (fun g70 g71 => mpp 20 rfl ?_)
    refine mt_callv (i := 104) (q' := q_128) (As := [.int (fv Po 301 26)]) (rest := []) hT dX7_addsSigned_20 rfl qm_128 (by decide) rfl rl_301 (by decide) rfl (Nat.le_of_ble_eq_true rfl) rfl ⟨rfl, rfl⟩ ⟨Nat.le_of_ble_eq_true rfl, Nat.le_of_ble_eq_true rfl⟩ (EvP.mono (by decide) (c_M_laysSizes hT )) (fun r72 P73 g74 => mpp 23 rfl ?_)
    obtain ⟨⟨x75, rfl, g76⟩, hT77, k78, R79⟩ := g74
    have k80 : KW [1093, 1094, 1152, 1408, 1472] Po P73 := KW.trans KW.refl k78 rfl
    have R82 := Rel.kw hR k78 rfl
    have wx75 := ti_full x75
    replace g76 : (x75.toInt = 0 ∧ ∀ c : Nat, ¬ okD (fv Po 301 26).toInt c) ∨ (okD (fv Po 301 26).toInt x75.toInt.toNat ∧ 1 ≤ x75.toInt ∧ x75.toInt ≤ 8 ∧ ∀ j : Nat, j < x75.toInt.toNat → fv P73 306 j = dgI (fv Po 301 26).toInt x75.toInt.toNat j) := g76
    show MEvP _ none q_227 23 [(1, .int 0), (0, .ref 301)] [.int x75] _ _ _ _
    refine mp_a (a_istore_n (L' := [(2, .int x75), (1, .int 0), (0, .ref 301)]) dX7_addsSigned_23 (by decide) rfl) (mpp 24 rfl ?_)
    refine mp_a (a_aload_n dX7_addsSigned_24 rfl) (mpp 25 rfl ?_)
    refine mp_a (a_iload_n dX7_addsSigned_25 rfl) (mpp 26 rfl ?_)
    refine mp_a (a_iload_n dX7_addsSigned_26 rfl) (mpp 27 rfl ?_)
    have p83 : x75.toInt ≤ 8 := by omega
    refine mt_callv (i := 107) (q' := q_130) (As := [.int 0, .int x75]) (rest := []) hT77 dX7_addsSigned_27 rfl qm_130 (by decide) rfl rl_301 (by decide) rfl (Nat.le_of_ble_eq_true rfl) rfl ⟨rfl, rfl⟩ ⟨Nat.le_of_ble_eq_true rfl, Nat.le_of_ble_eq_true rfl⟩ (EvP.mono (by decide) (c_M_areSizes hT77 p83 )) (fun r84 P85 g86 => mpp 30 rfl ?_)
    obtain ⟨⟨x87, rfl, g88⟩, e89⟩ := g86
    have e89 := e89.symm
    subst e89
    have wx87 := ti_full x87
    replace g88 : 0 ≤ x87.toInt ∧ x87.toInt ≤ 1 ∧ ((x87.toInt = 1 ∧ (((0 : Int) = 0 ∧ 2 ≤ x75.toInt ∧ x75.toInt ≤ 7) ∨ (¬ (0 : Int) = 0 ∧ (x75.toInt = 4 ∨ x75.toInt = 6 ∨ x75.toInt = 8) ∧ (smF (fun j : Nat => fv P73 306 j) x75.toInt.toNat).toInt = 24))) ∨ (x87.toInt = 0 ∧ ¬ (((0 : Int) = 0 ∧ 2 ≤ x75.toInt ∧ x75.toInt ≤ 7) ∨ (¬ (0 : Int) = 0 ∧ (x75.toInt = 4 ∨ x75.toInt = 6 ∨ x75.toInt = 8) ∧ (smF (fun j : Nat => fv P73 306 j) x75.toInt.toNat).toInt = 24)))) := g88
    show MEvP _ none q_227 30 [(2, .int x75), (1, .int 0), (0, .ref 301)] [.int x87] _ _ _ _
    refine mp_Tb (t := 45) (j_if_eq dX7_addsSigned_30) (by decide) (fun c90 => ?_) (fun c90 => mpp 33 rfl ?_)
    · have c90 : x87.toInt = 0 := ti_eq c90
      refine mp_a (a_sipush (v := -1002) dX7_addsSigned_45 rfl) (mpp 48 rfl ?_)
      have w92_k : (if (fv Po 301 25).toInt = 115 then (0 : Int) else 1) = 0 := by rw [if_pos (by omega)]
      have w92_q : (okD (fv Po 301 26).toInt x75.toInt.toNat ∧ 1 ≤ x75.toInt ∧ x75.toInt ≤ 8 ∧ ∀ j : Nat, j < x75.toInt.toNat → fv P73 306 j = dgI (fv Po 301 26).toInt x75.toInt.toNat j) → smF (fun j : Nat => fv P73 306 j) x75.toInt.toNat = smF (dgI (fv Po 301 26).toInt x75.toInt.toNat) x75.toInt.toNat := fun q => smF_congr q.2.2.2
      have e93 : (fv P73 301 26).toInt = (fv Po 301 26).toInt := congrArg Int32.toInt (KW.at k78 26 rl_301 rfl)
      have e94 : (fv P73 301 27).toInt = (fv Po 301 27).toInt := congrArg Int32.toInt (KW.at k78 27 rl_301 rfl)
      have e95 : (fv P73 301 28).toInt = (fv Po 301 28).toInt := congrArg Int32.toInt (KW.at k78 28 rl_301 rfl)
      have w92_ : ∀ c : Nat, okSz 0 (fv Po 301 26).toInt c → ¬ (fv Po 301 28).toInt = (c : Int) - 1 + 0 := by
        intro c hc hn
        rcases g76 with g | g
        · exact g.2 c hc.1
        · have e := hc.1.1.uniq g.1.1
          subst e
          have q2 := congrArg Int32.toInt (w92_q g)
          have o5 := hc.2
          omega
      have u91 : ASM (sr Po) (sr P73) (-1002 : Int) (if (fv Po 301 25).toInt = 115 then 0 else 1) (fv Po 301 26).toInt (fv Po 301 27).toInt (fv Po 301 28).toInt := by rw [w92_k]; exact Or.inl ⟨rfl, w92_, fun j => (show fv P73 302 j = fv Po 302 j from by rw [KW.at k78 j rl_302 rfl])⟩
      exact mp_iret ⟨⟨_, rfl, u91⟩, hT77, k80, R82⟩ dX7_addsSigned_48 (Or.inl rfl)
    · have c90 : x87.toInt ≠ 0 := ti_eq_n c90
      refine mp_a (a_aload_n dX7_addsSigned_33 rfl) (mpp 34 rfl ?_)
      have e96 : (fv P73 301 28).toInt = (fv Po 301 28).toInt := congrArg Int32.toInt (KW.at k78 28 rl_301 rfl)
      refine mt_getI (i := 306) (k := 28) hT77 dX7_addsSigned_34 rfl rl_301 (by decide) rfl (by decide) rfl (fun g97 g98 => mpp 37 rfl ?_)
      refine mp_a (a_iload_n dX7_addsSigned_37 rfl) (mpp 38 rfl ?_)
      refine mp_a (a_iconst (v := 1) dX7_addsSigned_38 rfl) (mpp 39 rfl ?_)
      obtain ⟨z99, h100⟩ := ti_ex (x75 - 1 : Int32)
      have wz99 := ti_full z99
      refine mp_t (s_isub (v := z99) dX7_addsSigned_39 h100) (mpp 40 rfl ?_)
      try have e101 : z99.toInt = x75.toInt - 1 := ti_subz h100 rfl rfl (by omega) (by omega)
      refine mp_a (a_iload_n dX7_addsSigned_40 rfl) (mpp 41 rfl ?_)
      obtain ⟨z102, h103⟩ := ti_ex (z99 + 0 : Int32)
      have wz102 := ti_full z102
      refine mp_t (s_iadd (v := z102) dX7_addsSigned_41 h103) (mpp 42 rfl ?_)
      try have e104 : z102.toInt = z99.toInt + 0 := ti_addz h103 rfl rfl (by omega) (by omega)
      refine mp_Tb (t := 49) (j_icmp_eq dX7_addsSigned_42) (by decide) (fun c105 => ?_) (fun c105 => mpp 45 rfl ?_)
      · have c105 : (fv P73 301 28).toInt = z102.toInt := ti_eq c105
        refine mp_a (a_aload_n dX7_addsSigned_49 rfl) (mpp 50 rfl ?_)
        refine mp_a (a_iload_n dX7_addsSigned_50 rfl) (mpp 51 rfl ?_)
        refine mp_a (a_aload_n dX7_addsSigned_51 rfl) (mpp 52 rfl ?_)
        have e106 : (fv P73 301 26).toInt = (fv Po 301 26).toInt := congrArg Int32.toInt (KW.at k78 26 rl_301 rfl)
        refine mt_getI (i := 300) (k := 26) hT77 dX7_addsSigned_52 rfl rl_301 (by decide) rfl (by decide) rfl (fun g107 g108 => mpp 55 rfl ?_)
        refine mp_a (a_aload_n dX7_addsSigned_55 rfl) (mpp 56 rfl ?_)
        have e109 : (fv P73 301 27).toInt = (fv Po 301 27).toInt := congrArg Int32.toInt (KW.at k78 27 rl_301 rfl)
        refine mt_getI (i := 303) (k := 27) hT77 dX7_addsSigned_56 rfl rl_301 (by decide) rfl (by decide) rfl (fun g110 g111 => mpp 59 rfl ?_)
        refine mt_callv (i := 120) (q' := q_126) (As := [.int 0, .int (fv P73 301 26), .int (fv P73 301 27)]) (rest := []) hT77 dX7_addsSigned_59 rfl qm_126 (by decide) rfl rl_301 (by decide) rfl (Nat.le_of_ble_eq_true rfl) rfl ⟨rfl, rfl⟩ ⟨Nat.le_of_ble_eq_true rfl, Nat.le_of_ble_eq_true rfl⟩ (EvP.mono (by decide) (c_M_addsTold hT77 R82 )) (fun r112 P113 g114 => mpp 62 rfl ?_)
        obtain ⟨⟨x115, rfl, g116⟩, hT117, k118, R119⟩ := g114
        have k120 : KW [1093, 1094, 1152, 1408, 1472] Po P113 := KW.trans k80 k118 rfl
        have wx115 := ti_full x115
        replace g116 : addsToldM (sr P73) (sr P113) x115.toInt (0 : Int) (fv P73 301 26).toInt (fv P73 301 27).toInt := g116
        show MEvP _ none q_227 62 [(2, .int x75), (1, .int 0), (0, .ref 301)] [.int x115] _ _ _ _
        have w123_k : (if (fv Po 301 25).toInt = 115 then (0 : Int) else 1) = 0 := by rw [if_pos (by omega)]
        have w123_q : (okD (fv Po 301 26).toInt x75.toInt.toNat ∧ 1 ≤ x75.toInt ∧ x75.toInt ≤ 8 ∧ ∀ j : Nat, j < x75.toInt.toNat → fv P73 306 j = dgI (fv Po 301 26).toInt x75.toInt.toNat j) → smF (fun j : Nat => fv P73 306 j) x75.toInt.toNat = smF (dgI (fv Po 301 26).toInt x75.toInt.toNat) x75.toInt.toNat := fun q => smF_congr q.2.2.2
        have e124 : (fv P73 301 26).toInt = (fv Po 301 26).toInt := congrArg Int32.toInt (KW.at k78 26 rl_301 rfl)
        have e125 : (fv P73 301 27).toInt = (fv Po 301 27).toInt := congrArg Int32.toInt (KW.at k78 27 rl_301 rfl)
        have e126 : (fv P73 301 28).toInt = (fv Po 301 28).toInt := congrArg Int32.toInt (KW.at k78 28 rl_301 rfl)
        have w123_g := g76.resolve_left (fun q => by have := q.1; omega)
        have w123_r := congrArg Int32.toInt (w123_q w123_g)
        have w123_e : sr P73 = sr Po := funext (fun j => by show fv P73 302 j = fv Po 302 j; rw [KW.at k78 j rl_302 rfl])
        have w123_ := g116
        rw [w123_e, show (fv P73 301 26).toInt = (fv Po 301 26).toInt from by omega, show (fv P73 301 27).toInt = (fv Po 301 27).toInt from by omega] at w123_
        have u122 : ASM (sr Po) (sr P113) x115.toInt (if (fv Po 301 25).toInt = 115 then 0 else 1) (fv Po 301 26).toInt (fv Po 301 27).toInt (fv Po 301 28).toInt := by rw [w123_k]; exact Or.inr ⟨_, ⟨w123_g.1, by omega⟩, by omega, w123_⟩
        exact mp_iret ⟨⟨_, rfl, u122⟩, hT117, k120, R119⟩ dX7_addsSigned_62 (Or.inl rfl)
      · have c105 : (fv P73 301 28).toInt ≠ z102.toInt := ti_eq_n c105
        refine mp_a (a_sipush (v := -1002) dX7_addsSigned_45 rfl) (mpp 48 rfl ?_)
        have w128_k : (if (fv Po 301 25).toInt = 115 then (0 : Int) else 1) = 0 := by rw [if_pos (by omega)]
        have w128_q : (okD (fv Po 301 26).toInt x75.toInt.toNat ∧ 1 ≤ x75.toInt ∧ x75.toInt ≤ 8 ∧ ∀ j : Nat, j < x75.toInt.toNat → fv P73 306 j = dgI (fv Po 301 26).toInt x75.toInt.toNat j) → smF (fun j : Nat => fv P73 306 j) x75.toInt.toNat = smF (dgI (fv Po 301 26).toInt x75.toInt.toNat) x75.toInt.toNat := fun q => smF_congr q.2.2.2
        have e129 : (fv P73 301 26).toInt = (fv Po 301 26).toInt := congrArg Int32.toInt (KW.at k78 26 rl_301 rfl)
        have e130 : (fv P73 301 27).toInt = (fv Po 301 27).toInt := congrArg Int32.toInt (KW.at k78 27 rl_301 rfl)
        have e131 : (fv P73 301 28).toInt = (fv Po 301 28).toInt := congrArg Int32.toInt (KW.at k78 28 rl_301 rfl)
        have w128_ : ∀ c : Nat, okSz 0 (fv Po 301 26).toInt c → ¬ (fv Po 301 28).toInt = (c : Int) - 1 + 0 := by
          intro c hc hn
          rcases g76 with g | g
          · exact g.2 c hc.1
          · have e := hc.1.1.uniq g.1.1
            subst e
            have q2 := congrArg Int32.toInt (w128_q g)
            have o5 := hc.2
            omega
        have u127 : ASM (sr Po) (sr P73) (-1002 : Int) (if (fv Po 301 25).toInt = 115 then 0 else 1) (fv Po 301 26).toInt (fv Po 301 27).toInt (fv Po 301 28).toInt := by rw [w128_k]; exact Or.inl ⟨rfl, w128_, fun j => (show fv P73 302 j = fv Po 302 j from by rw [KW.at k78 j rl_302 rfl])⟩
        exact mp_iret ⟨⟨_, rfl, u127⟩, hT77, k80, R82⟩ dX7_addsSigned_48 (Or.inl rfl)

set_option maxHeartbeats 4000000 in
theorem c_M_does {Po : mP}  (hT : Typ Po) (hR : Rel Po)  : EvP 9 226 [.ref 301] Po (fun r P' => (∃ x : Int32, r = some (.int x) ∧ (DSM (sr Po) (sr P') x.toInt (fv Po 301 25).toInt (fv Po 301 26).toInt (fv Po 301 27).toInt (fv Po 301 28).toInt (fv Po 301 29).toInt)) ∧ Typ P' ∧ KW [1093, 1094, 1101, 1102, 1152, 1408, 1472, 1536, 1600] Po P' ∧ Rel P') := by
  refine EvP.of qm_226 (Nat.le_of_ble_eq_true rfl) rfl ?_
  show MEvP _ none q_226 0 [(0, .ref 301)] [] _ 0 0 _
  have g1 := ti_full (fv Po 301 25)
  have g2 := ti_full (fv Po 301 26)
  have g3 := ti_full (fv Po 301 27)
  have g4 := ti_full (fv Po 301 28)
  have g5 := ti_full (fv Po 301 29)
  refine mp_a (a_aload_n dX7_does_0 rfl) (mpp 1 rfl ?_)
  refine mt_getI (i := 321) (k := 25) hT dX7_does_1 rfl rl_301 (by decide) rfl (by decide) rfl (fun g6 g7 => mpp 4 rfl ?_)
  have c8 : ((fv Po 301 25).toInt ≠ 102 ∧ (fv Po 301 25).toInt ≠ 109 ∧ (fv Po 301 25).toInt ≠ 116 ∧ (fv Po 301 25).toInt ≠ 117 ∧ (fv Po 301 25).toInt ≠ 120) ∨ (fv Po 301 25).toInt = 102 ∨ (fv Po 301 25).toInt = 109 ∨ (fv Po 301 25).toInt = 116 ∨ (fv Po 301 25).toInt = 117 ∨ (fv Po 301 25).toInt = 120 := by omega
  rcases c8 with c8 | c8 | c8 | c8 | c8 | c8
  · refine mp_t (s_lok (t := 109) (off := 105) dX7_does_4 rfl (by obtain ⟨n0, n1, n2, n3, n4⟩ := c8; simp [Op.lookupswitch.offset, Ne.symm n0, Ne.symm n1, Ne.symm n2, Ne.symm n3, Ne.symm n4]) (by decide)) ?_
    refine mp_a (a_aload_n dX7_does_109 rfl) (mpp 110 rfl ?_)
    refine mt_callv (i := 336) (q' := q_227) (As := []) (rest := []) hT dX7_does_110 rfl qm_227 (by decide) rfl rl_301 (by decide) rfl (Nat.le_of_ble_eq_true rfl) rfl ⟨rfl, rfl⟩ ⟨Nat.le_of_ble_eq_true rfl, Nat.le_of_ble_eq_true rfl⟩ (EvP.mono (by decide) (c_M_addsSigned hT hR )) (fun r9 P10 g11 => mpp 113 rfl ?_)
    obtain ⟨⟨x12, rfl, g13⟩, hT14, k15, R16⟩ := g11
    have k17 : KW [1093, 1094, 1101, 1102, 1152, 1408, 1472, 1536, 1600] Po P10 := KW.trans KW.refl k15 rfl
    have wx12 := ti_full x12
    replace g13 : ASM (sr Po) (sr P10) x12.toInt (if (fv Po 301 25).toInt = 115 then 0 else 1) (fv Po 301 26).toInt (fv Po 301 27).toInt (fv Po 301 28).toInt := g13
    show MEvP _ none q_226 113 [(0, .ref 301)] [.int x12] _ _ _ _
    have u19 : DSM (sr Po) (sr P10) x12.toInt (fv Po 301 25).toInt (fv Po 301 26).toInt (fv Po 301 27).toInt (fv Po 301 28).toInt (fv Po 301 29).toInt := Or.inr (Or.inr (Or.inr (Or.inr (Or.inr (⟨by omega, g13⟩)))))
    exact mp_iret ⟨⟨_, rfl, u19⟩, hT14, k17, R16⟩ dX7_does_113 (Or.inl rfl)
  · refine mp_t (s_lok (t := 82) (off := 78) dX7_does_4 rfl (by rw [c8]; rfl) (by decide)) ?_
    refine mp_a (a_aload_n dX7_does_82 rfl) (mpp 83 rfl ?_)
    refine mp_a (a_aload_n dX7_does_83 rfl) (mpp 84 rfl ?_)
    refine mt_getI (i := 300) (k := 26) hT dX7_does_84 rfl rl_301 (by decide) rfl (by decide) rfl (fun g20 g21 => mpp 87 rfl ?_)
    refine mt_callv (i := 240) (q' := q_188) (As := [.int (fv Po 301 26)]) (rest := []) hT dX7_does_87 rfl qm_188 (by decide) rfl rl_301 (by decide) rfl (Nat.le_of_ble_eq_true rfl) rfl ⟨rfl, rfl⟩ ⟨Nat.le_of_ble_eq_true rfl, Nat.le_of_ble_eq_true rfl⟩ (EvP.mono (by decide) (c_M_foldsOnStage hT hR )) (fun r22 P23 g24 => mpp 90 rfl ?_)
    obtain ⟨⟨x25, rfl, g26⟩, hT27, k28, R29⟩ := g24
    have k30 : KW [1093, 1094, 1101, 1102, 1152, 1408, 1472, 1536, 1600] Po P23 := KW.trans KW.refl k28 rfl
    have wx25 := ti_full x25
    replace g26 : foldsM (sr Po) (sr P23) x25.toInt (fv Po 301 26).toInt := g26
    show MEvP _ none q_226 90 [(0, .ref 301)] [.int x25] _ _ _ _
    have u32 : DSM (sr Po) (sr P23) x25.toInt (fv Po 301 25).toInt (fv Po 301 26).toInt (fv Po 301 27).toInt (fv Po 301 28).toInt (fv Po 301 29).toInt := Or.inr (Or.inr (Or.inl (⟨by omega, g26⟩)))
    exact mp_iret ⟨⟨_, rfl, u32⟩, hT27, k30, R29⟩ dX7_does_90 (Or.inl rfl)
  · refine mp_t (s_lok (t := 56) (off := 52) dX7_does_4 rfl (by rw [c8]; rfl) (by decide)) ?_
    refine mp_a (a_aload_n dX7_does_56 rfl) (mpp 57 rfl ?_)
    refine mp_a (a_aload_n dX7_does_57 rfl) (mpp 58 rfl ?_)
    refine mt_getI (i := 300) (k := 26) hT dX7_does_58 rfl rl_301 (by decide) rfl (by decide) rfl (fun g33 g34 => mpp 61 rfl ?_)
    refine mp_a (a_aload_n dX7_does_61 rfl) (mpp 62 rfl ?_)
    refine mt_getI (i := 303) (k := 27) hT dX7_does_62 rfl rl_301 (by decide) rfl (by decide) rfl (fun g35 g36 => mpp 65 rfl ?_)
    refine mp_a (a_aload_n dX7_does_65 rfl) (mpp 66 rfl ?_)
    refine mt_getI (i := 318) (k := 29) hT dX7_does_66 rfl rl_301 (by decide) rfl (by decide) rfl (fun g37 g38 => mpp 69 rfl ?_)
    refine mt_callv (i := 133) (q' := q_142) (As := [.int (fv Po 301 26), .int (fv Po 301 27), .int (fv Po 301 29)]) (rest := []) hT dX7_does_69 rfl qm_142 (by decide) rfl rl_301 (by decide) rfl (Nat.le_of_ble_eq_true rfl) rfl ⟨rfl, rfl⟩ ⟨Nat.le_of_ble_eq_true rfl, Nat.le_of_ble_eq_true rfl⟩ (EvP.mono (by decide) (c_M_marks hT hR )) (fun r39 P40 g41 => mpp 72 rfl ?_)
    obtain ⟨⟨x42, rfl, g43⟩, hT44, k45, R46⟩ := g41
    have k47 : KW [1093, 1094, 1101, 1102, 1152, 1408, 1472, 1536, 1600] Po P40 := KW.trans KW.refl k45 rfl
    have wx42 := ti_full x42
    replace g43 : marksM (sr Po) (sr P40) x42.toInt (fv Po 301 26).toInt (fv Po 301 27).toInt (fv Po 301 29).toInt := g43
    show MEvP _ none q_226 72 [(0, .ref 301)] [.int x42] _ _ _ _
    have u49 : DSM (sr Po) (sr P40) x42.toInt (fv Po 301 25).toInt (fv Po 301 26).toInt (fv Po 301 27).toInt (fv Po 301 28).toInt (fv Po 301 29).toInt := Or.inl (⟨by omega, g43⟩)
    exact mp_iret ⟨⟨_, rfl, u49⟩, hT44, k47, R46⟩ dX7_does_72 (Or.inl rfl)
  · refine mp_t (s_lok (t := 73) (off := 69) dX7_does_4 rfl (by rw [c8]; rfl) (by decide)) ?_
    refine mp_a (a_aload_n dX7_does_73 rfl) (mpp 74 rfl ?_)
    refine mp_a (a_aload_n dX7_does_74 rfl) (mpp 75 rfl ?_)
    refine mt_getI (i := 300) (k := 26) hT dX7_does_75 rfl rl_301 (by decide) rfl (by decide) rfl (fun g50 g51 => mpp 78 rfl ?_)
    refine mt_callv (i := 139) (q' := q_148) (As := [.int (fv Po 301 26)]) (rest := []) hT dX7_does_78 rfl qm_148 (by decide) rfl rl_301 (by decide) rfl (Nat.le_of_ble_eq_true rfl) rfl ⟨rfl, rfl⟩ ⟨Nat.le_of_ble_eq_true rfl, Nat.le_of_ble_eq_true rfl⟩ (EvP.mono (by decide) (c_M_turns hT hR )) (fun r52 P53 g54 => mpp 81 rfl ?_)
    obtain ⟨⟨x55, rfl, g56⟩, hT57, k58, R59⟩ := g54
    have k60 : KW [1093, 1094, 1101, 1102, 1152, 1408, 1472, 1536, 1600] Po P53 := KW.trans KW.refl k58 rfl
    have wx55 := ti_full x55
    replace g56 : turnsM (sr Po) (sr P53) x55.toInt (fv Po 301 26).toInt := g56
    show MEvP _ none q_226 81 [(0, .ref 301)] [.int x55] _ _ _ _
    have u62 : DSM (sr Po) (sr P53) x55.toInt (fv Po 301 25).toInt (fv Po 301 26).toInt (fv Po 301 27).toInt (fv Po 301 28).toInt (fv Po 301 29).toInt := Or.inr (Or.inl (⟨by omega, g56⟩))
    exact mp_iret ⟨⟨_, rfl, u62⟩, hT57, k60, R59⟩ dX7_does_81 (Or.inl rfl)
  · refine mp_t (s_lok (t := 91) (off := 87) dX7_does_4 rfl (by rw [c8]; rfl) (by decide)) ?_
    refine mp_a (a_aload_n dX7_does_91 rfl) (mpp 92 rfl ?_)
    refine mp_a (a_aload_n dX7_does_92 rfl) (mpp 93 rfl ?_)
    refine mt_getI (i := 300) (k := 26) hT dX7_does_93 rfl rl_301 (by decide) rfl (by decide) rfl (fun g63 g64 => mpp 96 rfl ?_)
    refine mt_callv (i := 243) (q' := q_191) (As := [.int (fv Po 301 26)]) (rest := []) hT dX7_does_96 rfl qm_191 (by decide) rfl rl_301 (by decide) rfl (Nat.le_of_ble_eq_true rfl) rfl ⟨rfl, rfl⟩ ⟨Nat.le_of_ble_eq_true rfl, Nat.le_of_ble_eq_true rfl⟩ (EvP.mono (by decide) (c_M_unfolds hT hR )) (fun r65 P66 g67 => mpp 99 rfl ?_)
    obtain ⟨⟨x68, rfl, g69⟩, hT70, k71, R72⟩ := g67
    have k73 : KW [1093, 1094, 1101, 1102, 1152, 1408, 1472, 1536, 1600] Po P66 := KW.trans KW.refl k71 rfl
    have wx68 := ti_full x68
    replace g69 : unfoldsM (sr Po) (sr P66) x68.toInt (fv Po 301 26).toInt := g69
    show MEvP _ none q_226 99 [(0, .ref 301)] [.int x68] _ _ _ _
    have u75 : DSM (sr Po) (sr P66) x68.toInt (fv Po 301 25).toInt (fv Po 301 26).toInt (fv Po 301 27).toInt (fv Po 301 28).toInt (fv Po 301 29).toInt := Or.inr (Or.inr (Or.inr (Or.inl (⟨by omega, g69⟩))))
    exact mp_iret ⟨⟨_, rfl, u75⟩, hT70, k73, R72⟩ dX7_does_99 (Or.inl rfl)
  · refine mp_t (s_lok (t := 100) (off := 96) dX7_does_4 rfl (by rw [c8]; rfl) (by decide)) ?_
    refine mp_a (a_aload_n dX7_does_100 rfl) (mpp 101 rfl ?_)
    refine mp_a (a_aload_n dX7_does_101 rfl) (mpp 102 rfl ?_)
    refine mt_getI (i := 300) (k := 26) hT dX7_does_102 rfl rl_301 (by decide) rfl (by decide) rfl (fun g76 g77 => mpp 105 rfl ?_)
    refine mt_callv (i := 246) (q' := q_193) (As := [.int (fv Po 301 26)]) (rest := []) hT dX7_does_105 rfl qm_193 (by decide) rfl rl_301 (by decide) rfl (Nat.le_of_ble_eq_true rfl) rfl ⟨rfl, rfl⟩ ⟨Nat.le_of_ble_eq_true rfl, Nat.le_of_ble_eq_true rfl⟩ (EvP.mono (by decide) (c_M_drops hT hR )) (fun r78 P79 g80 => mpp 108 rfl ?_)
    obtain ⟨⟨x81, rfl, g82⟩, hT83, k84, R85⟩ := g80
    have k86 : KW [1093, 1094, 1101, 1102, 1152, 1408, 1472, 1536, 1600] Po P79 := KW.trans KW.refl k84 rfl
    have wx81 := ti_full x81
    replace g82 : dropsM (sr Po) (sr P79) x81.toInt (fv Po 301 26).toInt := g82
    show MEvP _ none q_226 108 [(0, .ref 301)] [.int x81] _ _ _ _
    have u88 : DSM (sr Po) (sr P79) x81.toInt (fv Po 301 25).toInt (fv Po 301 26).toInt (fv Po 301 27).toInt (fv Po 301 28).toInt (fv Po 301 29).toInt := Or.inr (Or.inr (Or.inr (Or.inr (Or.inl (⟨by omega, g82⟩)))))
    exact mp_iret ⟨⟨_, rfl, u88⟩, hT83, k86, R85⟩ dX7_does_108 (Or.inl rfl)

set_option maxHeartbeats 4000000 in
theorem c_M_doesAll_l7 {Po : mP}  (hp0 : TKT (chM Po) (fv Po 301 23).toInt 0)  : ∀ (n : Nat) (v1 : Int32), ∀ (P : mP), Typ P → KW [1093, 1094, 1095, 1101, 1102, 1112, 1113, 1114, 1115, 1116, 1117, 1152, 1408, 1472, 1536, 1600] Po P → Rel P → (∀ (s2 : Nat → Int32) (y : Int), TRX (chM Po) (fv Po 301 23).toInt (fv P 301 24).toInt (sr P) s2 y → TRX (chM Po) (fv Po 301 23).toInt 0 (sr Po) s2 y) → ((∀ j : Nat, fv P 314 j = fv Po 314 j) ∧ fv P 301 23 = fv Po 301 23) → ((fv Po 301 23).toInt ≤ (fv P 301 24).toInt ∨ TKT (chM Po) (fv Po 301 23).toInt (fv P 301 24).toInt) → (0 ≤ v1.toInt ∧ v1.toInt ≤ (fv P 301 24).toInt ∧ (fv P 301 24).toInt ≤ (fv Po 301 23).toInt + 1 ∧ (fv Po 301 23).toInt ≤ 80) → (82 - (fv P 301 24).toInt).toNat = n → MEvP 9 none q_225 7 [(0, .ref 301), (1, .int v1)] [] P 0 0 (fun r P' => (∃ x : Int32, r = some (.int x) ∧ (TRX (chM Po) (fv Po 301 23).toInt 0 (sr Po) (sr P') x.toInt)) ∧ Typ P' ∧ KW [1093, 1094, 1095, 1101, 1102, 1112, 1113, 1114, 1115, 1116, 1117, 1152, 1408, 1472, 1536, 1600] Po P' ∧ Rel P') := by
  intro n
  induction n using Nat.strongRecOn with | _ n ih => ?_
  intro v1 P hT hK hR i_0 i_1 i_2 i_3 hm
  have w_v1 := ti_full v1
  have g1 : (0 : Int) ≤ (fv P 301 24).toInt ∧ (fv P 301 24).toInt ≤ 81 := Typ.rng hT rl_301 (by decide) (by decide) rfl
  have g2 : (0 : Int) ≤ (fv P 301 24).toInt ∧ (fv P 301 24).toInt ≤ 81 := Typ.rng hT rl_301 (by decide) (by decide) rfl
  have g3 : (0 : Int) ≤ (fv P 301 24).toInt ∧ (fv P 301 24).toInt ≤ 81 := Typ.rng hT rl_301 (by decide) (by decide) rfl
  refine mp_a (a_aload_n dX7_doesAll_7 rfl) (mpp 8 rfl ?_)
  refine mt_getI (i := 294) (k := 24) hT dX7_doesAll_8 rfl rl_301 (by decide) rfl (by decide) rfl (fun g4 g5 => mpp 11 rfl ?_)
  refine mp_a (a_aload_n dX7_doesAll_11 rfl) (mpp 12 rfl ?_)
  have e6 : (fv P 301 23).toInt = (fv Po 301 23).toInt := congrArg Int32.toInt (KW.at hK 23 rl_301 rfl)
  refine mt_getI (i := 291) (k := 23) hT dX7_doesAll_12 rfl rl_301 (by decide) rfl (by decide) rfl (fun g7 g8 => mpp 15 rfl ?_)
  refine mp_Tb (t := 93) (j_icmp_ge dX7_doesAll_15) (by decide) (fun c9 => ?_) (fun c9 => mpp 18 rfl ?_)
  · have c9 : (fv P 301 24).toInt ≥ (fv P 301 23).toInt := ti_ge c9
    refine mp_a (a_iload_n dX7_doesAll_93 rfl) (mpp 94 rfl ?_)
    have u10 : TRX (chM Po) (fv Po 301 23).toInt 0 (sr Po) (sr P) v1.toInt := i_0 _ _ ⟨0, by have q : (fv P 301 23).toInt = (fv Po 301 23).toInt := congrArg Int32.toInt i_1.2; omega, fun _ => rfl, by omega⟩
    exact mp_iret ⟨⟨_, rfl, u10⟩, hT, hK, hR⟩ dX7_doesAll_94 (Or.inl rfl)
  · have c9 : (fv P 301 24).toInt < (fv P 301 23).toInt := ti_ge_n c9
    refine mp_a (a_aload_n dX7_doesAll_18 rfl) (mpp 19 rfl ?_)
    have p11 : (fv P 301 24).toInt ≤ (fv P 301 23).toInt := by omega
    refine mt_callv (i := 333) (q' := q_217) (As := []) (rest := []) hT dX7_doesAll_19 rfl qm_217 (by decide) rfl rl_301 (by decide) rfl (Nat.le_of_ble_eq_true rfl) rfl ⟨rfl, rfl⟩ ⟨Nat.le_of_ble_eq_true rfl, Nat.le_of_ble_eq_true rfl⟩ (EvP.mono (by decide) (c_M_readsCommand hT p11 )) (fun r12 P13 g14 => mpp 22 rfl ?_)
    obtain ⟨⟨x15, rfl, g16⟩, hT17, k18, R19⟩ := g14
    have k20 : KW [1093, 1094, 1095, 1101, 1102, 1112, 1113, 1114, 1115, 1116, 1117, 1152, 1408, 1472, 1536, 1600] Po P13 := KW.trans hK k18 rfl
    have R22 := Rel.kw hR k18 rfl
    have wx15 := ti_full x15
    replace g16 : 0 ≤ x15.toInt ∧ x15.toInt ≤ 1 ∧ (((fv P 301 24).toInt ≤ (fv P13 301 24).toInt ∧ (fv P13 301 24).toInt ≤ (fv P 301 23).toInt) ∧ ((x15.toInt = 1 ∧ CMD (chM P) (fv P 301 24).toInt (fv P13 301 24).toInt (fv P13 301 25).toInt (fv P13 301 26).toInt (fv P13 301 27).toInt (fv P13 301 28).toInt (fv P13 301 29).toInt) ∨ (x15.toInt = 0 ∧ ¬ CMO (chM P) (fv P 301 24).toInt))) := g16
    have g23 : (0 : Int) ≤ (fv P13 301 24).toInt ∧ (fv P13 301 24).toInt ≤ 81 := Typ.rng hT17 rl_301 (by decide) (by decide) rfl
    have g24 : (0 : Int) ≤ (fv P13 301 24).toInt ∧ (fv P13 301 24).toInt ≤ 81 := Typ.rng hT17 rl_301 (by decide) (by decide) rfl
    have g25 : (0 : Int) ≤ (fv P13 301 24).toInt ∧ (fv P13 301 24).toInt ≤ 81 := Typ.rng hT17 rl_301 (by decide) (by decide) rfl
    have g26 := ti_full (fv P13 301 25)
    have g27 := ti_full (fv P13 301 26)
    have g28 := ti_full (fv P13 301 27)
    have g29 := ti_full (fv P13 301 28)
    have g30 := ti_full (fv P13 301 29)
    show MEvP _ none q_225 22 [(0, .ref 301), (1, .int v1)] [.int x15] _ _ _ _
    refine mp_a (a_istore_n (L' := [(2, .int x15), (0, .ref 301), (1, .int v1)]) dX7_doesAll_22 (by decide) rfl) (mpp 23 rfl ?_)
    refine mp_a (a_aload_n dX7_doesAll_23 rfl) (mpp 24 rfl ?_)
    refine mt_callv (i := 339) (q' := q_226) (As := []) (rest := []) hT17 dX7_doesAll_24 rfl qm_226 (by decide) rfl rl_301 (by decide) rfl (Nat.le_of_ble_eq_true rfl) rfl ⟨rfl, rfl⟩ ⟨Nat.le_of_ble_eq_true rfl, Nat.le_of_ble_eq_true rfl⟩ (EvP.mono (by decide) (c_M_does hT17 R22 )) (fun r31 P32 g33 => mpp 27 rfl ?_)
    obtain ⟨⟨x34, rfl, g35⟩, hT36, k37, R38⟩ := g33
    have k39 : KW [1093, 1094, 1095, 1101, 1102, 1112, 1113, 1114, 1115, 1116, 1117, 1152, 1408, 1472, 1536, 1600] Po P32 := KW.trans k20 k37 rfl
    have wx34 := ti_full x34
    replace g35 : DSM (sr P13) (sr P32) x34.toInt (fv P13 301 25).toInt (fv P13 301 26).toInt (fv P13 301 27).toInt (fv P13 301 28).toInt (fv P13 301 29).toInt := g35
    show MEvP _ none q_225 27 [(2, .int x15), (0, .ref 301), (1, .int v1)] [.int x34] _ _ _ _
    refine mp_a (a_istore_n (L' := [(3, .int x34), (2, .int x15), (0, .ref 301), (1, .int v1)]) dX7_doesAll_27 (by decide) rfl) (mpp 28 rfl ?_)
    refine mp_a (a_iload_n dX7_doesAll_28 rfl) (mpp 29 rfl ?_)
    refine mp_a (a_sipush (v := -1004) dX7_doesAll_29 rfl) (mpp 32 rfl ?_)
    refine mp_a (a_sipush (v := -1001) dX7_doesAll_32 rfl) (mpp 35 rfl ?_)
    refine mp_calls (i := 61) (q' := q_127) (As := [.int x34, .int (-1004), .int (-1001)]) (rest := []) dX7_doesAll_35 rfl qm_127 (by decide) rfl (Nat.le_of_ble_eq_true rfl) rfl ⟨rfl, rfl⟩ ⟨Nat.le_of_ble_eq_true rfl, Nat.le_of_ble_eq_true rfl⟩ (EvP.mono (by decide) (c_M_isIn hT36 )) (fun r41 P42 g43 => mpp 38 rfl ?_)
    obtain ⟨⟨x44, rfl, g45⟩, e46⟩ := g43
    have e46 := e46.symm
    subst e46
    have wx44 := ti_full x44
    replace g45 : 0 ≤ x44.toInt ∧ x44.toInt ≤ 1 ∧ ((x44.toInt = 1 ∧ (-1004 : Int) ≤ x34.toInt ∧ x34.toInt ≤ (-1001 : Int)) ∨ (x44.toInt = 0 ∧ (x34.toInt < (-1004 : Int) ∨ (-1001 : Int) < x34.toInt))) := g45
    show MEvP _ none q_225 38 [(3, .int x34), (2, .int x15), (0, .ref 301), (1, .int v1)] [.int x44] _ _ _ _
    refine mp_Tb (t := 77) (j_if_eq dX7_doesAll_38) (by decide) (fun c47 => ?_) (fun c47 => mpp 41 rfl ?_)
    · have c47 : x44.toInt = 0 := ti_eq c47
      refine mp_a (a_aload_n dX7_doesAll_77 rfl) (mpp 78 rfl ?_)
      refine mp_t (s_dup dX7_doesAll_78 rfl) (mpp 79 rfl ?_)
      have e48 : (fv P32 301 24).toInt = (fv P13 301 24).toInt := congrArg Int32.toInt (KW.at k37 24 rl_301 rfl)
      refine mt_getI (i := 294) (k := 24) hT36 dX7_doesAll_79 rfl rl_301 (by decide) rfl (by decide) rfl (fun g49 g50 => mpp 82 rfl ?_)
      refine mp_a (a_iconst (v := 1) dX7_doesAll_82 rfl) (mpp 83 rfl ?_)
      obtain ⟨z51, h52⟩ := ti_ex ((fv P32 301 24) + 1 : Int32)
      have wz51 := ti_full z51
      refine mp_t (s_iadd (v := z51) dX7_doesAll_83 h52) (mpp 84 rfl ?_)
      try have e53 : z51.toInt = (fv P32 301 24).toInt + 1 := ti_addz h52 rfl rfl (by omega) (by omega)
      refine mt_putI (i := 294) (k := 24) (x := z51) hT36 dX7_doesAll_84 rfl rl_301 (by decide) rfl (by decide) rfl ⟨by omega, by omega⟩ rfl rfl (fun P54 hT55 f56 f57 f58 => mpp 87 rfl ?_)
      have k59 : KW [1093, 1094, 1095, 1101, 1102, 1112, 1113, 1114, 1115, 1116, 1117, 1152, 1408, 1472, 1536, 1600] Po P54 := KW.step k39 rl_301 rfl f57 f58
      have R60 := Rel.ne R38 rl_301 rfl f57
      have e61 : (fv P54 301 24).toInt = z51.toInt := congrArg Int32.toInt f56
      obtain ⟨z62, h63⟩ := ti_ex (v1 + 1 : Int32)
      have wz62 := ti_full z62
      refine mp_a (a_iinc (v := z62) (L' := [(1, .int z62), (3, .int x34), (2, .int x15), (0, .ref 301)]) dX7_doesAll_87 (by decide) rfl h63 rfl) (mpp 90 rfl ?_)
      try have e64 : z62.toInt = v1.toInt + 1 := ti_addz h63 rfl rfl (by omega) (by omega)
      refine mp_a (a_goto (t := 7) dX7_doesAll_90 (by decide)) ?_
      refine MEvP.less (L := [(0, .ref 301), (1, .int z62)]) rfl rfl ⟨rfl, rfl, trivial⟩ ?_
      have w66_c : chM P = chM Po := chM_eq i_1.1 i_1.2
      have w66_l : (fv P 301 23).toInt = (fv Po 301 23).toInt := congrArg Int32.toInt i_1.2
      have w66_k := i_2.resolve_left (by omega)
      have w66_g := g16.2.2.2
      rw [w66_c] at w66_g
      have w66_m := (w66_g.resolve_right (fun q => TKT.no q.2 w66_k)).2
      have w66_e : sr P13 = sr P := funext (fun j => KW.at k18 j rl_302 rfl)
      have w66_d := g35
      rw [w66_e] at w66_d
      have w66_n := CMD.len (t := fun j => fv Po 314 j) (L := (fv Po 301 23).toInt) w66_m
      have w66_a := CMD.adv w66_m
      have w66_h : (fv P32 301 24).toInt = (fv P13 301 24).toInt := congrArg Int32.toInt (KW.at k37 24 rl_301 rfl)
      have w66_s : sr P54 = sr P32 := funext (fun j => f57 302 j (by omega))
      have i65 : ∀ (s2 : Nat → Int32) (y : Int), TRX (chM Po) (fv Po 301 23).toInt (fv P54 301 24).toInt (sr P54) s2 y → TRX (chM Po) (fv Po 301 23).toInt 0 (sr Po) s2 y := fun s2 y q => i_0 s2 y (by obtain ⟨n, q⟩ := q; rw [w66_s, show (fv P54 301 24).toInt = (fv P13 301 24).toInt + 1 from by omega] at q; exact ⟨n + 1, by omega, _, _, _, _, _, _, _, _, w66_m, w66_d, Or.inr ⟨by omega, q⟩⟩)
      have i67 : (∀ j : Nat, fv P54 314 j = fv Po 314 j) ∧ fv P54 301 23 = fv Po 301 23 := ⟨fun j => by rw [f57 314 j (by omega), KW.at k37 j rl_314 rfl, KW.at k18 j rl_314 rfl]; exact i_1.1 j, by rw [f57 301 23 (by omega), KW.at k37 23 rl_301 rfl, KW.at k18 23 rl_301 rfl]; exact i_1.2⟩
      have i68 : (fv Po 301 23).toInt ≤ (fv P54 301 24).toInt ∨ TKT (chM Po) (fv Po 301 23).toInt (fv P54 301 24).toInt := (show (fv P13 301 24).toInt = (fv Po 301 23).toInt ∨ ((chM Po (fv P13 301 24).toInt).toInt = 59 ∧ TKT (chM Po) (fv Po 301 23).toInt ((fv P13 301 24).toInt + 1)) from (TKT.at w66_m).mp w66_k).elim (fun q => Or.inl (by omega)) (fun q => Or.inr ((show (fv P54 301 24).toInt = (fv P13 301 24).toInt + 1 from by omega) ▸ q.2))
      have i69 : 0 ≤ z62.toInt ∧ z62.toInt ≤ (fv P54 301 24).toInt ∧ (fv P54 301 24).toInt ≤ (fv Po 301 23).toInt + 1 ∧ (fv Po 301 23).toInt ≤ 80 := by omega
      exact ih _ (by omega) _ P54 hT55 k59 R60 i65 i67 i68 i69 rfl
    · have c47 : x44.toInt ≠ 0 := ti_eq_n c47
      refine mp_a (a_aload_n dX7_doesAll_41 rfl) (mpp 42 rfl ?_)
      refine mp_a (a_iload_n dX7_doesAll_42 rfl) (mpp 43 rfl ?_)
      refine mp_a (a_sipush (v := -1003) dX7_doesAll_43 rfl) (mpp 46 rfl ?_)
      refine mp_Tb (t := 53) (j_icmp_ne dX7_doesAll_46) (by decide) (fun c70 => ?_) (fun c70 => mpp 49 rfl ?_)
      · have c70 : x34.toInt ≠ (-1003) := ti_ne c70
        refine mp_a (a_aload_n dX7_doesAll_53 rfl) (mpp 54 rfl ?_)
        have g71 := ti_full (fv P32 301 7)
        refine mt_getI (i := 50) (k := 7) hT36 dX7_doesAll_54 rfl rl_301 (by decide) rfl (by decide) rfl (fun g72 g73 => mpp 57 rfl ?_)
        refine mt_putI (i := 50) (k := 7) (x := (fv P32 301 7)) hT36 dX7_doesAll_57 rfl rl_301 (by decide) rfl (by decide) rfl (ti_full (fv P32 301 7)) rfl rfl (fun P74 hT75 f76 f77 f78 => mpp 60 rfl ?_)
        have k79 : KW [1093, 1094, 1095, 1101, 1102, 1112, 1113, 1114, 1115, 1116, 1117, 1152, 1408, 1472, 1536, 1600] Po P74 := KW.step k39 rl_301 rfl f77 f78
        have R80 := Rel.ne R38 rl_301 rfl f77
        have e81 : (fv P74 301 7).toInt = (fv P32 301 7).toInt := congrArg Int32.toInt f76
        refine mp_a (a_iload_n dX7_doesAll_60 rfl) (mpp 61 rfl ?_)
        refine mp_a (a_sipush (v := -1003) dX7_doesAll_61 rfl) (mpp 64 rfl ?_)
        refine mp_Tb (t := 73) (j_icmp_ne dX7_doesAll_64) (by decide) (fun c82 => ?_) (fun c82 => mpp 67 rfl ?_)
        · have c82 : x34.toInt ≠ (-1003) := ti_ne c82
          refine mp_a (a_sipush (v := -1002) dX7_doesAll_73 rfl) (mpp 76 rfl ?_)
          have w84_c : chM P = chM Po := chM_eq i_1.1 i_1.2
          have w84_l : (fv P 301 23).toInt = (fv Po 301 23).toInt := congrArg Int32.toInt i_1.2
          have w84_k := i_2.resolve_left (by omega)
          have w84_g := g16.2.2.2
          rw [w84_c] at w84_g
          have w84_m := (w84_g.resolve_right (fun q => TKT.no q.2 w84_k)).2
          have w84_e : sr P13 = sr P := funext (fun j => KW.at k18 j rl_302 rfl)
          have w84_d := g35
          rw [w84_e] at w84_d
          have w84_n := CMD.len (t := fun j => fv Po 314 j) (L := (fv Po 301 23).toInt) w84_m
          have w84_a := CMD.adv w84_m
          have w84_h : (fv P32 301 24).toInt = (fv P13 301 24).toInt := congrArg Int32.toInt (KW.at k37 24 rl_301 rfl)
          have u83 : TRX (chM Po) (fv Po 301 23).toInt 0 (sr Po) (sr P74) (-1002 : Int) := i_0 _ _ ⟨1, by omega, _, _, _, _, _, _, _, _, w84_m, w84_d, Or.inl ⟨by omega, by omega⟩⟩
          exact mp_iret ⟨⟨_, rfl, u83⟩, hT75, k79, R80⟩ dX7_doesAll_76 (Or.inl rfl)
        · have c82 : x34.toInt = (-1003) := ti_ne_n c82
          refine mp_a (a_sipush (v := -1003) dX7_doesAll_67 rfl) (mpp 70 rfl ?_)
          refine mp_a (a_goto (t := 76) dX7_doesAll_70 (by decide)) ?_
          have w86_c : chM P = chM Po := chM_eq i_1.1 i_1.2
          have w86_l : (fv P 301 23).toInt = (fv Po 301 23).toInt := congrArg Int32.toInt i_1.2
          have w86_k := i_2.resolve_left (by omega)
          have w86_g := g16.2.2.2
          rw [w86_c] at w86_g
          have w86_m := (w86_g.resolve_right (fun q => TKT.no q.2 w86_k)).2
          have w86_e : sr P13 = sr P := funext (fun j => KW.at k18 j rl_302 rfl)
          have w86_d := g35
          rw [w86_e] at w86_d
          have w86_n := CMD.len (t := fun j => fv Po 314 j) (L := (fv Po 301 23).toInt) w86_m
          have w86_a := CMD.adv w86_m
          have w86_h : (fv P32 301 24).toInt = (fv P13 301 24).toInt := congrArg Int32.toInt (KW.at k37 24 rl_301 rfl)
          have u85 : TRX (chM Po) (fv Po 301 23).toInt 0 (sr Po) (sr P74) (-1003 : Int) := i_0 _ _ ⟨1, by omega, _, _, _, _, _, _, _, _, w86_m, w86_d, Or.inl ⟨by omega, by omega⟩⟩
          exact mp_iret ⟨⟨_, rfl, u85⟩, hT75, k79, R80⟩ dX7_doesAll_76 (Or.inl rfl)
      · have c70 : x34.toInt = (-1003) := ti_ne_n c70
        refine mp_a (a_iload_n dX7_doesAll_49 rfl) (mpp 50 rfl ?_)
        refine mp_a (a_goto (t := 57) dX7_doesAll_50 (by decide)) ?_
        refine mt_putI (i := 50) (k := 7) (x := v1) hT36 dX7_doesAll_57 rfl rl_301 (by decide) rfl (by decide) rfl (ti_full v1) rfl rfl (fun P87 hT88 f89 f90 f91 => mpp 60 rfl ?_)
        have k92 : KW [1093, 1094, 1095, 1101, 1102, 1112, 1113, 1114, 1115, 1116, 1117, 1152, 1408, 1472, 1536, 1600] Po P87 := KW.step k39 rl_301 rfl f90 f91
        have R93 := Rel.ne R38 rl_301 rfl f90
        have e94 : (fv P87 301 7).toInt = v1.toInt := congrArg Int32.toInt f89
        refine mp_a (a_iload_n dX7_doesAll_60 rfl) (mpp 61 rfl ?_)
        refine mp_a (a_sipush (v := -1003) dX7_doesAll_61 rfl) (mpp 64 rfl ?_)
        refine mp_Tb (t := 73) (j_icmp_ne dX7_doesAll_64) (by decide) (fun c95 => ?_) (fun c95 => mpp 67 rfl ?_)
        · have c95 : x34.toInt ≠ (-1003) := ti_ne c95
          refine mp_a (a_sipush (v := -1002) dX7_doesAll_73 rfl) (mpp 76 rfl ?_)
          have w97_c : chM P = chM Po := chM_eq i_1.1 i_1.2
          have w97_l : (fv P 301 23).toInt = (fv Po 301 23).toInt := congrArg Int32.toInt i_1.2
          have w97_k := i_2.resolve_left (by omega)
          have w97_g := g16.2.2.2
          rw [w97_c] at w97_g
          have w97_m := (w97_g.resolve_right (fun q => TKT.no q.2 w97_k)).2
          have w97_e : sr P13 = sr P := funext (fun j => KW.at k18 j rl_302 rfl)
          have w97_d := g35
          rw [w97_e] at w97_d
          have w97_n := CMD.len (t := fun j => fv Po 314 j) (L := (fv Po 301 23).toInt) w97_m
          have w97_a := CMD.adv w97_m
          have w97_h : (fv P32 301 24).toInt = (fv P13 301 24).toInt := congrArg Int32.toInt (KW.at k37 24 rl_301 rfl)
          have u96 : TRX (chM Po) (fv Po 301 23).toInt 0 (sr Po) (sr P87) (-1002 : Int) := i_0 _ _ ⟨1, by omega, _, _, _, _, _, _, _, _, w97_m, w97_d, Or.inl ⟨by omega, by omega⟩⟩
          exact mp_iret ⟨⟨_, rfl, u96⟩, hT88, k92, R93⟩ dX7_doesAll_76 (Or.inl rfl)
        · have c95 : x34.toInt = (-1003) := ti_ne_n c95
          refine mp_a (a_sipush (v := -1003) dX7_doesAll_67 rfl) (mpp 70 rfl ?_)
          refine mp_a (a_goto (t := 76) dX7_doesAll_70 (by decide)) ?_
          have w99_c : chM P = chM Po := chM_eq i_1.1 i_1.2
          have w99_l : (fv P 301 23).toInt = (fv Po 301 23).toInt := congrArg Int32.toInt i_1.2
          have w99_k := i_2.resolve_left (by omega)
          have w99_g := g16.2.2.2
          rw [w99_c] at w99_g
          have w99_m := (w99_g.resolve_right (fun q => TKT.no q.2 w99_k)).2
          have w99_e : sr P13 = sr P := funext (fun j => KW.at k18 j rl_302 rfl)
          have w99_d := g35
          rw [w99_e] at w99_d
          have w99_n := CMD.len (t := fun j => fv Po 314 j) (L := (fv Po 301 23).toInt) w99_m
          have w99_a := CMD.adv w99_m
          have w99_h : (fv P32 301 24).toInt = (fv P13 301 24).toInt := congrArg Int32.toInt (KW.at k37 24 rl_301 rfl)
          have u98 : TRX (chM Po) (fv Po 301 23).toInt 0 (sr Po) (sr P87) (-1003 : Int) := i_0 _ _ ⟨1, by omega, _, _, _, _, _, _, _, _, w99_m, w99_d, Or.inl ⟨by omega, by omega⟩⟩
          exact mp_iret ⟨⟨_, rfl, u98⟩, hT88, k92, R93⟩ dX7_doesAll_76 (Or.inl rfl)

set_option maxHeartbeats 4000000 in
theorem c_M_doesAll {Po : mP}  (hT : Typ Po) (hR : Rel Po) (hp0 : TKT (chM Po) (fv Po 301 23).toInt 0)  : EvP 10 225 [.ref 301] Po (fun r P' => (∃ x : Int32, r = some (.int x) ∧ (TRX (chM Po) (fv Po 301 23).toInt 0 (sr Po) (sr P') x.toInt)) ∧ Typ P' ∧ KW [1093, 1094, 1095, 1101, 1102, 1112, 1113, 1114, 1115, 1116, 1117, 1152, 1408, 1472, 1536, 1600] Po P' ∧ Rel P') := by
  refine EvP.of qm_225 (Nat.le_of_ble_eq_true rfl) rfl ?_
  show MEvP _ none q_225 0 [(0, .ref 301)] [] _ 0 0 _
  have g1 : (0 : Int) ≤ (fv Po 301 23).toInt ∧ (fv Po 301 23).toInt ≤ 80 := Typ.rng hT rl_301 (by decide) (by decide) rfl
  refine mp_a (a_iconst (v := 0) dX7_doesAll_0 rfl) (mpp 1 rfl ?_)
  refine mp_a (a_istore_n (L' := [(1, .int 0), (0, .ref 301)]) dX7_doesAll_1 (by decide) rfl) (mpp 2 rfl ?_)
  refine mp_a (a_aload_n dX7_doesAll_2 rfl) (mpp 3 rfl ?_)
  refine mp_a (a_iconst (v := 0) dX7_doesAll_3 rfl) (mpp 4 rfl ?_)
  refine mt_putI (i := 294) (k := 24) (x := 0) hT dX7_doesAll_4 rfl rl_301 (by decide) rfl (by decide) rfl (by decide) rfl rfl (fun P2 hT3 f4 f5 f6 => mpp 7 rfl ?_)
  have k7 : KW [1093, 1094, 1095, 1101, 1102, 1112, 1113, 1114, 1115, 1116, 1117, 1152, 1408, 1472, 1536, 1600] Po P2 := KW.step KW.refl rl_301 rfl f5 f6
  have R8 := Rel.ne hR rl_301 rfl f5
  have e9 : (fv P2 301 24).toInt = 0 := congrArg Int32.toInt f4
  refine MEvP.less (L := [(0, .ref 301), (1, .int 0)]) rfl rfl ⟨rfl, rfl, trivial⟩ ?_
  have i10 : ∀ (s2 : Nat → Int32) (y : Int), TRX (chM Po) (fv Po 301 23).toInt (fv P2 301 24).toInt (sr P2) s2 y → TRX (chM Po) (fv Po 301 23).toInt 0 (sr Po) s2 y := fun s2 y q => by rw [show (fv P2 301 24).toInt = 0 from by omega, show sr P2 = sr Po from funext (fun j => f5 302 j (by omega))] at q; exact q
  have i11 : (∀ j : Nat, fv P2 314 j = fv Po 314 j) ∧ fv P2 301 23 = fv Po 301 23 := ⟨fun j => f5 314 j (by omega), f5 301 23 (by omega)⟩
  have i12 : (fv Po 301 23).toInt ≤ (fv P2 301 24).toInt ∨ TKT (chM Po) (fv Po 301 23).toInt (fv P2 301 24).toInt := Or.inr (by rw [show (fv P2 301 24).toInt = 0 from by omega]; exact hp0)
  have q14 : (0 : Int) ≤ (fv Po 301 23).toInt ∧ (fv Po 301 23).toInt ≤ 80 := Typ.rng hT rl_301 (by decide) (by decide) rfl
  have i13 : 0 ≤ (0 : Int) ∧ (0 : Int) ≤ (fv P2 301 24).toInt ∧ (fv P2 301 24).toInt ≤ (fv Po 301 23).toInt + 1 ∧ (fv Po 301 23).toInt ≤ 80 := by omega
  exact c_M_doesAll_l7   hp0 _ _ P2 hT3 k7 R8 i10 i11 i12 i13 rfl

