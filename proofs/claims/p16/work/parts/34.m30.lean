/-! methods on typed pools, 30 (written by a program) -/
set_option maxHeartbeats 4000000 in
theorem c_M_joins {Po : mP} {t1 : Int32} {t2 : Int32} {t3 : Int32} (hT : Typ Po) (hR : Rel Po)  : EvP 4 154 [.ref 301, .int t1, .int t2, .int t3] Po (fun r P' => (∃ x : Int32, r = some (.int x) ∧ (joinsM (sr Po) (sr P') x.toInt t1.toInt t2.toInt t3.toInt)) ∧ Typ P' ∧ KW [1093, 1094, 1152] Po P' ∧ Rel P') := by
  refine EvP.of qm_154 (Nat.le_of_ble_eq_true rfl) rfl ?_
  show MEvP _ none q_154 0 [(0, .ref 301), (1, .int t1), (2, .int t2), (3, .int t3)] [] _ 0 0 _
  have w_t1 := ti_full t1
  have w_t2 := ti_full t2
  have w_t3 := ti_full t3
  refine mp_a (a_aload_n dX7_joins_0 rfl) (mpp 1 rfl ?_)
  refine mp_a (a_iload_n dX7_joins_1 rfl) (mpp 2 rfl ?_)
  refine mt_callv (i := 85) (q' := q_144) (As := [.int t1]) (rest := []) hT dX7_joins_2 rfl qm_144 (by decide) rfl rl_301 (by decide) rfl (Nat.le_of_ble_eq_true rfl) rfl ⟨rfl, rfl⟩ ⟨Nat.le_of_ble_eq_true rfl, Nat.le_of_ble_eq_true rfl⟩ (EvP.mono (by decide) (c_M_isPiece hT )) (fun r1 P2 g3 => mpp 5 rfl ?_)
  obtain ⟨⟨x4, rfl, g5⟩, e6⟩ := g3
  have e6 := e6.symm
  subst e6
  have wx4 := ti_full x4
  replace g5 : 0 ≤ x4.toInt ∧ x4.toInt ≤ 1 ∧ ((x4.toInt = 1 ∧ 0 ≤ t1.toInt ∧ t1.toInt + 1 ≤ (fv Po 302 0).toInt ∧ t1.toInt ≤ 7) ∨ (x4.toInt = 0 ∧ (t1.toInt < 0 ∨ (fv Po 302 0).toInt ≤ t1.toInt))) := g5
  have g7 : (0 : Int) ≤ (fv Po 302 0).toInt ∧ (fv Po 302 0).toInt ≤ 8 := Typ.rng hT rl_302 (by decide) (by decide) rfl
  show MEvP _ none q_154 5 [(0, .ref 301), (1, .int t1), (2, .int t2), (3, .int t3)] [.int x4] _ _ _ _
  refine mp_Tb (t := 21) (j_if_eq dX7_joins_5) (by decide) (fun c8 => ?_) (fun c8 => mpp 8 rfl ?_)
  · have c8 : x4.toInt = 0 := ti_eq c8
    refine mp_a (a_sipush (v := -1001) dX7_joins_21 rfl) (mpp 24 rfl ?_)
    have u9 : joinsM (sr Po) (sr Po) (-1001 : Int) t1.toInt t2.toInt t3.toInt := (show ((-1001 : Int) = -1001 ∧ ((t1.toInt < 0 ∨ (fv Po 302 (0)).toInt ≤ t1.toInt) ∨ (t2.toInt < 0 ∨ (fv Po 302 (0)).toInt ≤ t2.toInt) ∨ t1.toInt = t2.toInt) ∧ (∀ j : Nat, fv Po 302 j = fv Po 302 j)) ∨ ((-1001 : Int) = -1002 ∧ (0 ≤ t1.toInt ∧ t1.toInt + 1 ≤ (fv Po 302 (0)).toInt ∧ t1.toInt ≤ 7) ∧ (0 ≤ t2.toInt ∧ t2.toInt + 1 ≤ (fv Po 302 (0)).toInt ∧ t2.toInt ≤ 7) ∧ ¬ t1.toInt = t2.toInt ∧ (t3.toInt < 0 ∨ 2 < t3.toInt) ∧ (∀ j : Nat, fv Po 302 j = fv Po 302 j)) ∨ ((-1001 : Int) = -1003 ∧ (0 ≤ t1.toInt ∧ t1.toInt + 1 ≤ (fv Po 302 (0)).toInt ∧ t1.toInt ≤ 7) ∧ (0 ≤ t2.toInt ∧ t2.toInt + 1 ≤ (fv Po 302 (0)).toInt ∧ t2.toInt ≤ 7) ∧ ¬ t1.toInt = t2.toInt ∧ (0 ≤ t3.toInt ∧ t3.toInt ≤ 2) ∧ ((fv Po 302 (5 + 19 * t1.toInt.toNat)).toInt = 1 ∨ (fv Po 302 (5 + 19 * t2.toInt.toNat)).toInt = 1 ∨ (fv Po 302 (3 + 19 * t1.toInt.toNat)).toInt = 1 ∨ (fv Po 302 (3 + 19 * t2.toInt.toNat)).toInt = 1 ∨ 7 < (fv Po 302 (4 + 19 * t1.toInt.toNat)).toInt + (fv Po 302 (4 + 19 * t2.toInt.toNat)).toInt) ∧ (∀ j : Nat, fv Po 302 j = fv Po 302 j)) ∨ ((0 ≤ t1.toInt ∧ t1.toInt + 1 ≤ (fv Po 302 (0)).toInt ∧ t1.toInt ≤ 7) ∧ (0 ≤ t2.toInt ∧ t2.toInt + 1 ≤ (fv Po 302 (0)).toInt ∧ t2.toInt ≤ 7) ∧ ¬ t1.toInt = t2.toInt ∧ (0 ≤ t3.toInt ∧ t3.toInt ≤ 2) ∧ (¬ (fv Po 302 (5 + 19 * t1.toInt.toNat)).toInt = 1 ∧ ¬ (fv Po 302 (5 + 19 * t2.toInt.toNat)).toInt = 1 ∧ (fv Po 302 (3 + 19 * t1.toInt.toNat)).toInt = 0 ∧ (fv Po 302 (3 + 19 * t2.toInt.toNat)).toInt = 0 ∧ (fv Po 302 (4 + 19 * t1.toInt.toNat)).toInt + (fv Po 302 (4 + 19 * t2.toInt.toNat)).toInt ≤ 7) ∧ (-1001 : Int) = (fv Po 302 (4 + 19 * t1.toInt.toNat)).toInt + (fv Po 302 (4 + 19 * t2.toInt.toNat)).toInt ∧ (fv Po 302 (0)).toInt = (fv Po 302 (0)).toInt - 1 ∧ (∃ m : Nat → Int32, (∀ j : Nat, j < ((fv Po 302 (4 + 19 * t2.toInt.toNat)).toInt).toNat → m (6 + 19 * t1.toInt.toNat + ((fv Po 302 (4 + 19 * t1.toInt.toNat)).toInt).toNat + j) = fv Po 302 (6 + 19 * t2.toInt.toNat + j)) ∧ (m (13 + 19 * t1.toInt.toNat + ((fv Po 302 (4 + 19 * t1.toInt.toNat)).toInt).toNat)).toInt = t3.toInt ∧ (∀ j : Nat, 1 ≤ j → j < ((fv Po 302 (4 + 19 * t2.toInt.toNat)).toInt).toNat → m (13 + 19 * t1.toInt.toNat + ((fv Po 302 (4 + 19 * t1.toInt.toNat)).toInt).toNat + j) = fv Po 302 (13 + 19 * t2.toInt.toNat + j)) ∧ (m (4 + 19 * t1.toInt.toNat)).toInt = (fv Po 302 (4 + 19 * t1.toInt.toNat)).toInt + (fv Po 302 (4 + 19 * t2.toInt.toNat)).toInt ∧ (∀ j : Nat, ¬ j = 4 + 19 * t1.toInt.toNat → ¬ (6 + 19 * t1.toInt.toNat + ((fv Po 302 (4 + 19 * t1.toInt.toNat)).toInt).toNat ≤ j ∧ j < 6 + 19 * t1.toInt.toNat + ((fv Po 302 (4 + 19 * t1.toInt.toNat)).toInt).toNat + ((fv Po 302 (4 + 19 * t2.toInt.toNat)).toInt).toNat) → ¬ (13 + 19 * t1.toInt.toNat + ((fv Po 302 (4 + 19 * t1.toInt.toNat)).toInt).toNat ≤ j ∧ j < 13 + 19 * t1.toInt.toNat + ((fv Po 302 (4 + 19 * t1.toInt.toNat)).toInt).toNat + ((fv Po 302 (4 + 19 * t2.toInt.toNat)).toInt).toNat) → m j = fv Po 302 j) ∧ ∀ j : Nat, 1 ≤ j → fv Po 302 j = if 3 + 19 * t2.toInt.toNat ≤ j ∧ j < 3 + 19 * ((fv Po 302 (0)).toInt - 1).toNat then m (j + 19) else m j)) from Or.inl (⟨by omega, by omega, fun j => rfl⟩))
    exact mp_iret ⟨⟨_, rfl, u9⟩, hT, KW.refl, hR⟩ dX7_joins_24 (Or.inl rfl)
  · have c8 : x4.toInt ≠ 0 := ti_eq_n c8
    refine mp_a (a_aload_n dX7_joins_8 rfl) (mpp 9 rfl ?_)
    refine mp_a (a_iload_n dX7_joins_9 rfl) (mpp 10 rfl ?_)
    refine mt_callv (i := 85) (q' := q_144) (As := [.int t2]) (rest := []) hT dX7_joins_10 rfl qm_144 (by decide) rfl rl_301 (by decide) rfl (Nat.le_of_ble_eq_true rfl) rfl ⟨rfl, rfl⟩ ⟨Nat.le_of_ble_eq_true rfl, Nat.le_of_ble_eq_true rfl⟩ (EvP.mono (by decide) (c_M_isPiece hT )) (fun r10 P11 g12 => mpp 13 rfl ?_)
    obtain ⟨⟨x13, rfl, g14⟩, e15⟩ := g12
    have e15 := e15.symm
    subst e15
    have wx13 := ti_full x13
    replace g14 : 0 ≤ x13.toInt ∧ x13.toInt ≤ 1 ∧ ((x13.toInt = 1 ∧ 0 ≤ t2.toInt ∧ t2.toInt + 1 ≤ (fv Po 302 0).toInt ∧ t2.toInt ≤ 7) ∨ (x13.toInt = 0 ∧ (t2.toInt < 0 ∨ (fv Po 302 0).toInt ≤ t2.toInt))) := g14
    show MEvP _ none q_154 13 [(0, .ref 301), (1, .int t1), (2, .int t2), (3, .int t3)] [.int x13] _ _ _ _
    refine mp_Tb (t := 21) (j_if_eq dX7_joins_13) (by decide) (fun c16 => ?_) (fun c16 => mpp 16 rfl ?_)
    · have c16 : x13.toInt = 0 := ti_eq c16
      refine mp_a (a_sipush (v := -1001) dX7_joins_21 rfl) (mpp 24 rfl ?_)
      have u17 : joinsM (sr Po) (sr Po) (-1001 : Int) t1.toInt t2.toInt t3.toInt := (show ((-1001 : Int) = -1001 ∧ ((t1.toInt < 0 ∨ (fv Po 302 (0)).toInt ≤ t1.toInt) ∨ (t2.toInt < 0 ∨ (fv Po 302 (0)).toInt ≤ t2.toInt) ∨ t1.toInt = t2.toInt) ∧ (∀ j : Nat, fv Po 302 j = fv Po 302 j)) ∨ ((-1001 : Int) = -1002 ∧ (0 ≤ t1.toInt ∧ t1.toInt + 1 ≤ (fv Po 302 (0)).toInt ∧ t1.toInt ≤ 7) ∧ (0 ≤ t2.toInt ∧ t2.toInt + 1 ≤ (fv Po 302 (0)).toInt ∧ t2.toInt ≤ 7) ∧ ¬ t1.toInt = t2.toInt ∧ (t3.toInt < 0 ∨ 2 < t3.toInt) ∧ (∀ j : Nat, fv Po 302 j = fv Po 302 j)) ∨ ((-1001 : Int) = -1003 ∧ (0 ≤ t1.toInt ∧ t1.toInt + 1 ≤ (fv Po 302 (0)).toInt ∧ t1.toInt ≤ 7) ∧ (0 ≤ t2.toInt ∧ t2.toInt + 1 ≤ (fv Po 302 (0)).toInt ∧ t2.toInt ≤ 7) ∧ ¬ t1.toInt = t2.toInt ∧ (0 ≤ t3.toInt ∧ t3.toInt ≤ 2) ∧ ((fv Po 302 (5 + 19 * t1.toInt.toNat)).toInt = 1 ∨ (fv Po 302 (5 + 19 * t2.toInt.toNat)).toInt = 1 ∨ (fv Po 302 (3 + 19 * t1.toInt.toNat)).toInt = 1 ∨ (fv Po 302 (3 + 19 * t2.toInt.toNat)).toInt = 1 ∨ 7 < (fv Po 302 (4 + 19 * t1.toInt.toNat)).toInt + (fv Po 302 (4 + 19 * t2.toInt.toNat)).toInt) ∧ (∀ j : Nat, fv Po 302 j = fv Po 302 j)) ∨ ((0 ≤ t1.toInt ∧ t1.toInt + 1 ≤ (fv Po 302 (0)).toInt ∧ t1.toInt ≤ 7) ∧ (0 ≤ t2.toInt ∧ t2.toInt + 1 ≤ (fv Po 302 (0)).toInt ∧ t2.toInt ≤ 7) ∧ ¬ t1.toInt = t2.toInt ∧ (0 ≤ t3.toInt ∧ t3.toInt ≤ 2) ∧ (¬ (fv Po 302 (5 + 19 * t1.toInt.toNat)).toInt = 1 ∧ ¬ (fv Po 302 (5 + 19 * t2.toInt.toNat)).toInt = 1 ∧ (fv Po 302 (3 + 19 * t1.toInt.toNat)).toInt = 0 ∧ (fv Po 302 (3 + 19 * t2.toInt.toNat)).toInt = 0 ∧ (fv Po 302 (4 + 19 * t1.toInt.toNat)).toInt + (fv Po 302 (4 + 19 * t2.toInt.toNat)).toInt ≤ 7) ∧ (-1001 : Int) = (fv Po 302 (4 + 19 * t1.toInt.toNat)).toInt + (fv Po 302 (4 + 19 * t2.toInt.toNat)).toInt ∧ (fv Po 302 (0)).toInt = (fv Po 302 (0)).toInt - 1 ∧ (∃ m : Nat → Int32, (∀ j : Nat, j < ((fv Po 302 (4 + 19 * t2.toInt.toNat)).toInt).toNat → m (6 + 19 * t1.toInt.toNat + ((fv Po 302 (4 + 19 * t1.toInt.toNat)).toInt).toNat + j) = fv Po 302 (6 + 19 * t2.toInt.toNat + j)) ∧ (m (13 + 19 * t1.toInt.toNat + ((fv Po 302 (4 + 19 * t1.toInt.toNat)).toInt).toNat)).toInt = t3.toInt ∧ (∀ j : Nat, 1 ≤ j → j < ((fv Po 302 (4 + 19 * t2.toInt.toNat)).toInt).toNat → m (13 + 19 * t1.toInt.toNat + ((fv Po 302 (4 + 19 * t1.toInt.toNat)).toInt).toNat + j) = fv Po 302 (13 + 19 * t2.toInt.toNat + j)) ∧ (m (4 + 19 * t1.toInt.toNat)).toInt = (fv Po 302 (4 + 19 * t1.toInt.toNat)).toInt + (fv Po 302 (4 + 19 * t2.toInt.toNat)).toInt ∧ (∀ j : Nat, ¬ j = 4 + 19 * t1.toInt.toNat → ¬ (6 + 19 * t1.toInt.toNat + ((fv Po 302 (4 + 19 * t1.toInt.toNat)).toInt).toNat ≤ j ∧ j < 6 + 19 * t1.toInt.toNat + ((fv Po 302 (4 + 19 * t1.toInt.toNat)).toInt).toNat + ((fv Po 302 (4 + 19 * t2.toInt.toNat)).toInt).toNat) → ¬ (13 + 19 * t1.toInt.toNat + ((fv Po 302 (4 + 19 * t1.toInt.toNat)).toInt).toNat ≤ j ∧ j < 13 + 19 * t1.toInt.toNat + ((fv Po 302 (4 + 19 * t1.toInt.toNat)).toInt).toNat + ((fv Po 302 (4 + 19 * t2.toInt.toNat)).toInt).toNat) → m j = fv Po 302 j) ∧ ∀ j : Nat, 1 ≤ j → fv Po 302 j = if 3 + 19 * t2.toInt.toNat ≤ j ∧ j < 3 + 19 * ((fv Po 302 (0)).toInt - 1).toNat then m (j + 19) else m j)) from Or.inl (⟨by omega, by omega, fun j => rfl⟩))
      exact mp_iret ⟨⟨_, rfl, u17⟩, hT, KW.refl, hR⟩ dX7_joins_24 (Or.inl rfl)
    · have c16 : x13.toInt ≠ 0 := ti_eq_n c16
      refine mp_a (a_iload_n dX7_joins_16 rfl) (mpp 17 rfl ?_)
      refine mp_a (a_iload_n dX7_joins_17 rfl) (mpp 18 rfl ?_)
      refine mp_Tb (t := 25) (j_icmp_ne dX7_joins_18) (by decide) (fun c18 => ?_) (fun c18 => mpp 21 rfl ?_)
      · have c18 : t1.toInt ≠ t2.toInt := ti_ne c18
        refine mp_a (a_iload_n dX7_joins_25 rfl) (mpp 26 rfl ?_)
        refine mp_a (a_iconst (v := 0) dX7_joins_26 rfl) (mpp 27 rfl ?_)
        refine mp_a (a_iconst (v := 2) dX7_joins_27 rfl) (mpp 28 rfl ?_)
        refine mp_calls (i := 61) (q' := q_127) (As := [.int t3, .int 0, .int 2]) (rest := []) dX7_joins_28 rfl qm_127 (by decide) rfl (Nat.le_of_ble_eq_true rfl) rfl ⟨rfl, rfl⟩ ⟨Nat.le_of_ble_eq_true rfl, Nat.le_of_ble_eq_true rfl⟩ (EvP.mono (by decide) (c_M_isIn hT )) (fun r19 P20 g21 => mpp 31 rfl ?_)
        obtain ⟨⟨x22, rfl, g23⟩, e24⟩ := g21
        have e24 := e24.symm
        subst e24
        have wx22 := ti_full x22
        replace g23 : 0 ≤ x22.toInt ∧ x22.toInt ≤ 1 ∧ ((x22.toInt = 1 ∧ (0 : Int) ≤ t3.toInt ∧ t3.toInt ≤ (2 : Int)) ∨ (x22.toInt = 0 ∧ (t3.toInt < (0 : Int) ∨ (2 : Int) < t3.toInt))) := g23
        show MEvP _ none q_154 31 [(0, .ref 301), (1, .int t1), (2, .int t2), (3, .int t3)] [.int x22] _ _ _ _
        refine mp_Tb (t := 38) (j_if_ne dX7_joins_31) (by decide) (fun c25 => ?_) (fun c25 => mpp 34 rfl ?_)
        · have c25 : x22.toInt ≠ 0 := ti_ne c25
          refine mp_a (a_aload_n dX7_joins_38 rfl) (mpp 39 rfl ?_)
          refine mp_a (a_iload_n dX7_joins_39 rfl) (mpp 40 rfl ?_)
          have p26 : 0 ≤ t1.toInt := by omega
          have p27 : t1.toInt ≤ 7 := by omega
          refine mt_callv (i := 130) (q' := q_145) (As := [.int t1]) (rest := []) hT dX7_joins_40 rfl qm_145 (by decide) rfl rl_301 (by decide) rfl (Nat.le_of_ble_eq_true rfl) rfl ⟨rfl, rfl⟩ ⟨Nat.le_of_ble_eq_true rfl, Nat.le_of_ble_eq_true rfl⟩ (EvP.mono (by decide) (c_M_isFolded hT p26 p27 )) (fun r28 P29 g30 => mpp 43 rfl ?_)
          obtain ⟨⟨x31, rfl, g32⟩, e33⟩ := g30
          have e33 := e33.symm
          subst e33
          have wx31 := ti_full x31
          replace g32 : 0 ≤ x31.toInt ∧ x31.toInt ≤ 1 ∧ ((x31.toInt = 1 ∧ (fv Po 302 (5 + 19 * t1.toInt.toNat)).toInt = 1) ∨ (x31.toInt = 0 ∧ (fv Po 302 (5 + 19 * t1.toInt.toNat)).toInt ≠ 1)) := g32
          have g34 := ti_full (fv Po 302 (5 + 19 * t1.toInt.toNat))
          show MEvP _ none q_154 43 [(0, .ref 301), (1, .int t1), (2, .int t2), (3, .int t3)] [.int x31] _ _ _ _
          refine mp_Tb (t := 54) (j_if_ne dX7_joins_43) (by decide) (fun c35 => ?_) (fun c35 => mpp 46 rfl ?_)
          · have c35 : x31.toInt ≠ 0 := ti_ne c35
            refine mp_a (a_aload_n dX7_joins_54 rfl) (mpp 55 rfl ?_)
            refine mp_a (a_iconst (v := 2) dX7_joins_55 rfl) (mpp 56 rfl ?_)
            refine mp_a (a_aload_n dX7_joins_56 rfl) (mpp 57 rfl ?_)
            refine mp_a (a_iload_n dX7_joins_57 rfl) (mpp 58 rfl ?_)
            have p36 : 0 ≤ t1.toInt := by omega
            have p37 : t1.toInt ≤ 7 := by omega
            refine mt_callv (i := 130) (q' := q_145) (As := [.int t1]) (rest := [.int 2, .ref 301]) hT dX7_joins_58 rfl qm_145 (by decide) rfl rl_301 (by decide) rfl (Nat.le_of_ble_eq_true rfl) rfl ⟨rfl, rfl⟩ ⟨Nat.le_of_ble_eq_true rfl, Nat.le_of_ble_eq_true rfl⟩ (EvP.mono (by decide) (c_M_isFolded hT p36 p37 )) (fun r38 P39 g40 => mpp 61 rfl ?_)
            obtain ⟨⟨x41, rfl, g42⟩, e43⟩ := g40
            have e43 := e43.symm
            subst e43
            have wx41 := ti_full x41
            replace g42 : 0 ≤ x41.toInt ∧ x41.toInt ≤ 1 ∧ ((x41.toInt = 1 ∧ (fv Po 302 (5 + 19 * t1.toInt.toNat)).toInt = 1) ∨ (x41.toInt = 0 ∧ (fv Po 302 (5 + 19 * t1.toInt.toNat)).toInt ≠ 1)) := g42
            show MEvP _ none q_154 61 [(0, .ref 301), (1, .int t1), (2, .int t2), (3, .int t3)] [.int x41, .int 2, .ref 301] _ _ _ _
            refine mp_Tb (t := 68) (j_if_eq dX7_joins_61) (by decide) (fun c44 => ?_) (fun c44 => mpp 64 rfl ?_)
            · have c44 : x41.toInt = 0 := ti_eq c44
              refine mp_a (a_iload_n dX7_joins_68 rfl) (mpp 69 rfl ?_)
              refine mt_callv (i := 101) (q' := q_134) (As := [.int 2, .int t2]) (rest := []) hT dX7_joins_69 rfl qm_134 (by decide) rfl rl_301 (by decide) rfl (Nat.le_of_ble_eq_true rfl) rfl ⟨rfl, rfl⟩ ⟨Nat.le_of_ble_eq_true rfl, Nat.le_of_ble_eq_true rfl⟩ (EvP.mono (by decide) (c_M_refuses hT )) (fun r45 P46 g47 => mpp 72 rfl ?_)
              obtain ⟨⟨x48, rfl, g49⟩, hT50, k51, R52⟩ := g47
              have k53 : KW [1093, 1094, 1152] Po P46 := KW.trans KW.refl k51 rfl
              have R55 := Rel.kw hR k51 rfl
              have wx48 := ti_full x48
              replace g49 : x48.toInt = -1003 := g49
              show MEvP _ none q_154 72 [(0, .ref 301), (1, .int t1), (2, .int t2), (3, .int t3)] [.int x48] _ _ _ _
              have e57 : (fv P46 302 0).toInt = (fv Po 302 0).toInt := congrArg Int32.toInt (R52 302 0 (by omega))
              have e58 : (fv P46 302 1).toInt = (fv Po 302 1).toInt := congrArg Int32.toInt (R52 302 1 (by omega))
              have e59 : (fv P46 302 2).toInt = (fv Po 302 2).toInt := congrArg Int32.toInt (R52 302 2 (by omega))
              have u56 : joinsM (sr Po) (sr P46) x48.toInt t1.toInt t2.toInt t3.toInt := (show (x48.toInt = -1001 ∧ ((t1.toInt < 0 ∨ (fv Po 302 (0)).toInt ≤ t1.toInt) ∨ (t2.toInt < 0 ∨ (fv Po 302 (0)).toInt ≤ t2.toInt) ∨ t1.toInt = t2.toInt) ∧ (∀ j : Nat, fv P46 302 j = fv Po 302 j)) ∨ (x48.toInt = -1002 ∧ (0 ≤ t1.toInt ∧ t1.toInt + 1 ≤ (fv Po 302 (0)).toInt ∧ t1.toInt ≤ 7) ∧ (0 ≤ t2.toInt ∧ t2.toInt + 1 ≤ (fv Po 302 (0)).toInt ∧ t2.toInt ≤ 7) ∧ ¬ t1.toInt = t2.toInt ∧ (t3.toInt < 0 ∨ 2 < t3.toInt) ∧ (∀ j : Nat, fv P46 302 j = fv Po 302 j)) ∨ (x48.toInt = -1003 ∧ (0 ≤ t1.toInt ∧ t1.toInt + 1 ≤ (fv Po 302 (0)).toInt ∧ t1.toInt ≤ 7) ∧ (0 ≤ t2.toInt ∧ t2.toInt + 1 ≤ (fv Po 302 (0)).toInt ∧ t2.toInt ≤ 7) ∧ ¬ t1.toInt = t2.toInt ∧ (0 ≤ t3.toInt ∧ t3.toInt ≤ 2) ∧ ((fv Po 302 (5 + 19 * t1.toInt.toNat)).toInt = 1 ∨ (fv Po 302 (5 + 19 * t2.toInt.toNat)).toInt = 1 ∨ (fv Po 302 (3 + 19 * t1.toInt.toNat)).toInt = 1 ∨ (fv Po 302 (3 + 19 * t2.toInt.toNat)).toInt = 1 ∨ 7 < (fv Po 302 (4 + 19 * t1.toInt.toNat)).toInt + (fv Po 302 (4 + 19 * t2.toInt.toNat)).toInt) ∧ (∀ j : Nat, fv P46 302 j = fv Po 302 j)) ∨ ((0 ≤ t1.toInt ∧ t1.toInt + 1 ≤ (fv Po 302 (0)).toInt ∧ t1.toInt ≤ 7) ∧ (0 ≤ t2.toInt ∧ t2.toInt + 1 ≤ (fv Po 302 (0)).toInt ∧ t2.toInt ≤ 7) ∧ ¬ t1.toInt = t2.toInt ∧ (0 ≤ t3.toInt ∧ t3.toInt ≤ 2) ∧ (¬ (fv Po 302 (5 + 19 * t1.toInt.toNat)).toInt = 1 ∧ ¬ (fv Po 302 (5 + 19 * t2.toInt.toNat)).toInt = 1 ∧ (fv Po 302 (3 + 19 * t1.toInt.toNat)).toInt = 0 ∧ (fv Po 302 (3 + 19 * t2.toInt.toNat)).toInt = 0 ∧ (fv Po 302 (4 + 19 * t1.toInt.toNat)).toInt + (fv Po 302 (4 + 19 * t2.toInt.toNat)).toInt ≤ 7) ∧ x48.toInt = (fv Po 302 (4 + 19 * t1.toInt.toNat)).toInt + (fv Po 302 (4 + 19 * t2.toInt.toNat)).toInt ∧ (fv P46 302 (0)).toInt = (fv Po 302 (0)).toInt - 1 ∧ (∃ m : Nat → Int32, (∀ j : Nat, j < ((fv Po 302 (4 + 19 * t2.toInt.toNat)).toInt).toNat → m (6 + 19 * t1.toInt.toNat + ((fv Po 302 (4 + 19 * t1.toInt.toNat)).toInt).toNat + j) = fv Po 302 (6 + 19 * t2.toInt.toNat + j)) ∧ (m (13 + 19 * t1.toInt.toNat + ((fv Po 302 (4 + 19 * t1.toInt.toNat)).toInt).toNat)).toInt = t3.toInt ∧ (∀ j : Nat, 1 ≤ j → j < ((fv Po 302 (4 + 19 * t2.toInt.toNat)).toInt).toNat → m (13 + 19 * t1.toInt.toNat + ((fv Po 302 (4 + 19 * t1.toInt.toNat)).toInt).toNat + j) = fv Po 302 (13 + 19 * t2.toInt.toNat + j)) ∧ (m (4 + 19 * t1.toInt.toNat)).toInt = (fv Po 302 (4 + 19 * t1.toInt.toNat)).toInt + (fv Po 302 (4 + 19 * t2.toInt.toNat)).toInt ∧ (∀ j : Nat, ¬ j = 4 + 19 * t1.toInt.toNat → ¬ (6 + 19 * t1.toInt.toNat + ((fv Po 302 (4 + 19 * t1.toInt.toNat)).toInt).toNat ≤ j ∧ j < 6 + 19 * t1.toInt.toNat + ((fv Po 302 (4 + 19 * t1.toInt.toNat)).toInt).toNat + ((fv Po 302 (4 + 19 * t2.toInt.toNat)).toInt).toNat) → ¬ (13 + 19 * t1.toInt.toNat + ((fv Po 302 (4 + 19 * t1.toInt.toNat)).toInt).toNat ≤ j ∧ j < 13 + 19 * t1.toInt.toNat + ((fv Po 302 (4 + 19 * t1.toInt.toNat)).toInt).toNat + ((fv Po 302 (4 + 19 * t2.toInt.toNat)).toInt).toNat) → m j = fv Po 302 j) ∧ ∀ j : Nat, 1 ≤ j → fv P46 302 j = if 3 + 19 * t2.toInt.toNat ≤ j ∧ j < 3 + 19 * ((fv Po 302 (0)).toInt - 1).toNat then m (j + 19) else m j)) from Or.inr (Or.inr (Or.inl (⟨by omega, by omega, by omega, by omega, by omega, by omega, fun j => by rw [R52 302 j (by omega)]⟩))))
              exact mp_iret ⟨⟨_, rfl, u56⟩, hT50, k53, R55⟩ dX7_joins_72 (Or.inl rfl)
            · have c44 : x41.toInt ≠ 0 := ti_eq_n c44
              refine mp_a (a_iload_n dX7_joins_64 rfl) (mpp 65 rfl ?_)
              refine mp_a (a_goto (t := 69) dX7_joins_65 (by decide)) ?_
              refine mt_callv (i := 101) (q' := q_134) (As := [.int 2, .int t1]) (rest := []) hT dX7_joins_69 rfl qm_134 (by decide) rfl rl_301 (by decide) rfl (Nat.le_of_ble_eq_true rfl) rfl ⟨rfl, rfl⟩ ⟨Nat.le_of_ble_eq_true rfl, Nat.le_of_ble_eq_true rfl⟩ (EvP.mono (by decide) (c_M_refuses hT )) (fun r60 P61 g62 => mpp 72 rfl ?_)
              obtain ⟨⟨x63, rfl, g64⟩, hT65, k66, R67⟩ := g62
              have k68 : KW [1093, 1094, 1152] Po P61 := KW.trans KW.refl k66 rfl
              have R70 := Rel.kw hR k66 rfl
              have wx63 := ti_full x63
              replace g64 : x63.toInt = -1003 := g64
              show MEvP _ none q_154 72 [(0, .ref 301), (1, .int t1), (2, .int t2), (3, .int t3)] [.int x63] _ _ _ _
              have e72 : (fv P61 302 0).toInt = (fv Po 302 0).toInt := congrArg Int32.toInt (R67 302 0 (by omega))
              have e73 : (fv P61 302 1).toInt = (fv Po 302 1).toInt := congrArg Int32.toInt (R67 302 1 (by omega))
              have e74 : (fv P61 302 2).toInt = (fv Po 302 2).toInt := congrArg Int32.toInt (R67 302 2 (by omega))
              have u71 : joinsM (sr Po) (sr P61) x63.toInt t1.toInt t2.toInt t3.toInt := (show (x63.toInt = -1001 ∧ ((t1.toInt < 0 ∨ (fv Po 302 (0)).toInt ≤ t1.toInt) ∨ (t2.toInt < 0 ∨ (fv Po 302 (0)).toInt ≤ t2.toInt) ∨ t1.toInt = t2.toInt) ∧ (∀ j : Nat, fv P61 302 j = fv Po 302 j)) ∨ (x63.toInt = -1002 ∧ (0 ≤ t1.toInt ∧ t1.toInt + 1 ≤ (fv Po 302 (0)).toInt ∧ t1.toInt ≤ 7) ∧ (0 ≤ t2.toInt ∧ t2.toInt + 1 ≤ (fv Po 302 (0)).toInt ∧ t2.toInt ≤ 7) ∧ ¬ t1.toInt = t2.toInt ∧ (t3.toInt < 0 ∨ 2 < t3.toInt) ∧ (∀ j : Nat, fv P61 302 j = fv Po 302 j)) ∨ (x63.toInt = -1003 ∧ (0 ≤ t1.toInt ∧ t1.toInt + 1 ≤ (fv Po 302 (0)).toInt ∧ t1.toInt ≤ 7) ∧ (0 ≤ t2.toInt ∧ t2.toInt + 1 ≤ (fv Po 302 (0)).toInt ∧ t2.toInt ≤ 7) ∧ ¬ t1.toInt = t2.toInt ∧ (0 ≤ t3.toInt ∧ t3.toInt ≤ 2) ∧ ((fv Po 302 (5 + 19 * t1.toInt.toNat)).toInt = 1 ∨ (fv Po 302 (5 + 19 * t2.toInt.toNat)).toInt = 1 ∨ (fv Po 302 (3 + 19 * t1.toInt.toNat)).toInt = 1 ∨ (fv Po 302 (3 + 19 * t2.toInt.toNat)).toInt = 1 ∨ 7 < (fv Po 302 (4 + 19 * t1.toInt.toNat)).toInt + (fv Po 302 (4 + 19 * t2.toInt.toNat)).toInt) ∧ (∀ j : Nat, fv P61 302 j = fv Po 302 j)) ∨ ((0 ≤ t1.toInt ∧ t1.toInt + 1 ≤ (fv Po 302 (0)).toInt ∧ t1.toInt ≤ 7) ∧ (0 ≤ t2.toInt ∧ t2.toInt + 1 ≤ (fv Po 302 (0)).toInt ∧ t2.toInt ≤ 7) ∧ ¬ t1.toInt = t2.toInt ∧ (0 ≤ t3.toInt ∧ t3.toInt ≤ 2) ∧ (¬ (fv Po 302 (5 + 19 * t1.toInt.toNat)).toInt = 1 ∧ ¬ (fv Po 302 (5 + 19 * t2.toInt.toNat)).toInt = 1 ∧ (fv Po 302 (3 + 19 * t1.toInt.toNat)).toInt = 0 ∧ (fv Po 302 (3 + 19 * t2.toInt.toNat)).toInt = 0 ∧ (fv Po 302 (4 + 19 * t1.toInt.toNat)).toInt + (fv Po 302 (4 + 19 * t2.toInt.toNat)).toInt ≤ 7) ∧ x63.toInt = (fv Po 302 (4 + 19 * t1.toInt.toNat)).toInt + (fv Po 302 (4 + 19 * t2.toInt.toNat)).toInt ∧ (fv P61 302 (0)).toInt = (fv Po 302 (0)).toInt - 1 ∧ (∃ m : Nat → Int32, (∀ j : Nat, j < ((fv Po 302 (4 + 19 * t2.toInt.toNat)).toInt).toNat → m (6 + 19 * t1.toInt.toNat + ((fv Po 302 (4 + 19 * t1.toInt.toNat)).toInt).toNat + j) = fv Po 302 (6 + 19 * t2.toInt.toNat + j)) ∧ (m (13 + 19 * t1.toInt.toNat + ((fv Po 302 (4 + 19 * t1.toInt.toNat)).toInt).toNat)).toInt = t3.toInt ∧ (∀ j : Nat, 1 ≤ j → j < ((fv Po 302 (4 + 19 * t2.toInt.toNat)).toInt).toNat → m (13 + 19 * t1.toInt.toNat + ((fv Po 302 (4 + 19 * t1.toInt.toNat)).toInt).toNat + j) = fv Po 302 (13 + 19 * t2.toInt.toNat + j)) ∧ (m (4 + 19 * t1.toInt.toNat)).toInt = (fv Po 302 (4 + 19 * t1.toInt.toNat)).toInt + (fv Po 302 (4 + 19 * t2.toInt.toNat)).toInt ∧ (∀ j : Nat, ¬ j = 4 + 19 * t1.toInt.toNat → ¬ (6 + 19 * t1.toInt.toNat + ((fv Po 302 (4 + 19 * t1.toInt.toNat)).toInt).toNat ≤ j ∧ j < 6 + 19 * t1.toInt.toNat + ((fv Po 302 (4 + 19 * t1.toInt.toNat)).toInt).toNat + ((fv Po 302 (4 + 19 * t2.toInt.toNat)).toInt).toNat) → ¬ (13 + 19 * t1.toInt.toNat + ((fv Po 302 (4 + 19 * t1.toInt.toNat)).toInt).toNat ≤ j ∧ j < 13 + 19 * t1.toInt.toNat + ((fv Po 302 (4 + 19 * t1.toInt.toNat)).toInt).toNat + ((fv Po 302 (4 + 19 * t2.toInt.toNat)).toInt).toNat) → m j = fv Po 302 j) ∧ ∀ j : Nat, 1 ≤ j → fv P61 302 j = if 3 + 19 * t2.toInt.toNat ≤ j ∧ j < 3 + 19 * ((fv Po 302 (0)).toInt - 1).toNat then m (j + 19) else m j)) from Or.inr (Or.inr (Or.inl (⟨by omega, by omega, by omega, by omega, by omega, by omega, fun j => by rw [R67 302 j (by omega)]⟩))))
              exact mp_iret ⟨⟨_, rfl, u71⟩, hT65, k68, R70⟩ dX7_joins_72 (Or.inl rfl)
          · have c35 : x31.toInt = 0 := ti_ne_n c35
            refine mp_a (a_aload_n dX7_joins_46 rfl) (mpp 47 rfl ?_)
            refine mp_a (a_iload_n dX7_joins_47 rfl) (mpp 48 rfl ?_)
            have p75 : 0 ≤ t2.toInt := by omega
            have p76 : t2.toInt ≤ 7 := by omega
            refine mt_callv (i := 130) (q' := q_145) (As := [.int t2]) (rest := []) hT dX7_joins_48 rfl qm_145 (by decide) rfl rl_301 (by decide) rfl (Nat.le_of_ble_eq_true rfl) rfl ⟨rfl, rfl⟩ ⟨Nat.le_of_ble_eq_true rfl, Nat.le_of_ble_eq_true rfl⟩ (EvP.mono (by decide) (c_M_isFolded hT p75 p76 )) (fun r77 P78 g79 => mpp 51 rfl ?_)
            obtain ⟨⟨x80, rfl, g81⟩, e82⟩ := g79
            have e82 := e82.symm
            subst e82
            have wx80 := ti_full x80
            replace g81 : 0 ≤ x80.toInt ∧ x80.toInt ≤ 1 ∧ ((x80.toInt = 1 ∧ (fv Po 302 (5 + 19 * t2.toInt.toNat)).toInt = 1) ∨ (x80.toInt = 0 ∧ (fv Po 302 (5 + 19 * t2.toInt.toNat)).toInt ≠ 1)) := g81
            have g83 := ti_full (fv Po 302 (5 + 19 * t2.toInt.toNat))
            show MEvP _ none q_154 51 [(0, .ref 301), (1, .int t1), (2, .int t2), (3, .int t3)] [.int x80] _ _ _ _
            refine mp_Tb (t := 73) (j_if_eq dX7_joins_51) (by decide) (fun c84 => ?_) (fun c84 => mpp 54 rfl ?_)
            · have c84 : x80.toInt = 0 := ti_eq c84
              refine mp_a (a_aload_n dX7_joins_73 rfl) (mpp 74 rfl ?_)
              refine mp_a (a_iload_n dX7_joins_74 rfl) (mpp 75 rfl ?_)
              have p85 : 0 ≤ t1.toInt := by omega
              have p86 : t1.toInt ≤ 7 := by omega
              refine mt_callv (i := 81) (q' := q_138) (As := [.int t1]) (rest := []) hT dX7_joins_75 rfl qm_138 (by decide) rfl rl_301 (by decide) rfl (Nat.le_of_ble_eq_true rfl) rfl ⟨rfl, rfl⟩ ⟨Nat.le_of_ble_eq_true rfl, Nat.le_of_ble_eq_true rfl⟩ (EvP.mono (by decide) (c_M_isCorner hT p85 p86 )) (fun r87 P88 g89 => mpp 78 rfl ?_)
              obtain ⟨⟨x90, rfl, g91⟩, e92⟩ := g89
              have e92 := e92.symm
              subst e92
              have wx90 := ti_full x90
              replace g91 : 0 ≤ x90.toInt ∧ x90.toInt ≤ 1 ∧ ((x90.toInt = 1 ∧ (fv Po 302 (3 + 19 * t1.toInt.toNat)).toInt = 1) ∨ (x90.toInt = 0 ∧ (fv Po 302 (3 + 19 * t1.toInt.toNat)).toInt = 0)) := g91
              try have g93 : (0 : Int) ≤ (fv Po 302 (3 + 19 * t1.toInt.toNat)).toInt ∧ (fv Po 302 (3 + 19 * t1.toInt.toNat)).toInt ≤ 1 := s3_rng hT (by omega)
              show MEvP _ none q_154 78 [(0, .ref 301), (1, .int t1), (2, .int t2), (3, .int t3)] [.int x90] _ _ _ _
              refine mp_Tb (t := 89) (j_if_ne dX7_joins_78) (by decide) (fun c94 => ?_) (fun c94 => mpp 81 rfl ?_)
              · have c94 : x90.toInt ≠ 0 := ti_ne c94
                refine mp_a (a_aload_n dX7_joins_89 rfl) (mpp 90 rfl ?_)
                refine mp_a (a_iconst (v := 3) dX7_joins_90 rfl) (mpp 91 rfl ?_)
                refine mp_a (a_aload_n dX7_joins_91 rfl) (mpp 92 rfl ?_)
                refine mp_a (a_iload_n dX7_joins_92 rfl) (mpp 93 rfl ?_)
                have p95 : 0 ≤ t1.toInt := by omega
                have p96 : t1.toInt ≤ 7 := by omega
                refine mt_callv (i := 81) (q' := q_138) (As := [.int t1]) (rest := [.int 3, .ref 301]) hT dX7_joins_93 rfl qm_138 (by decide) rfl rl_301 (by decide) rfl (Nat.le_of_ble_eq_true rfl) rfl ⟨rfl, rfl⟩ ⟨Nat.le_of_ble_eq_true rfl, Nat.le_of_ble_eq_true rfl⟩ (EvP.mono (by decide) (c_M_isCorner hT p95 p96 )) (fun r97 P98 g99 => mpp 96 rfl ?_)
                obtain ⟨⟨x100, rfl, g101⟩, e102⟩ := g99
                have e102 := e102.symm
                subst e102
                have wx100 := ti_full x100
                replace g101 : 0 ≤ x100.toInt ∧ x100.toInt ≤ 1 ∧ ((x100.toInt = 1 ∧ (fv Po 302 (3 + 19 * t1.toInt.toNat)).toInt = 1) ∨ (x100.toInt = 0 ∧ (fv Po 302 (3 + 19 * t1.toInt.toNat)).toInt = 0)) := g101
                show MEvP _ none q_154 96 [(0, .ref 301), (1, .int t1), (2, .int t2), (3, .int t3)] [.int x100, .int 3, .ref 301] _ _ _ _
                refine mp_Tb (t := 103) (j_if_eq dX7_joins_96) (by decide) (fun c103 => ?_) (fun c103 => mpp 99 rfl ?_)
                · have c103 : x100.toInt = 0 := ti_eq c103
                  refine mp_a (a_iload_n dX7_joins_103 rfl) (mpp 104 rfl ?_)
                  refine mt_callv (i := 101) (q' := q_134) (As := [.int 3, .int t2]) (rest := []) hT dX7_joins_104 rfl qm_134 (by decide) rfl rl_301 (by decide) rfl (Nat.le_of_ble_eq_true rfl) rfl ⟨rfl, rfl⟩ ⟨Nat.le_of_ble_eq_true rfl, Nat.le_of_ble_eq_true rfl⟩ (EvP.mono (by decide) (c_M_refuses hT )) (fun r104 P105 g106 => mpp 107 rfl ?_)
                  obtain ⟨⟨x107, rfl, g108⟩, hT109, k110, R111⟩ := g106
                  have k112 : KW [1093, 1094, 1152] Po P105 := KW.trans KW.refl k110 rfl
                  have R114 := Rel.kw hR k110 rfl
                  have wx107 := ti_full x107
                  replace g108 : x107.toInt = -1003 := g108
                  show MEvP _ none q_154 107 [(0, .ref 301), (1, .int t1), (2, .int t2), (3, .int t3)] [.int x107] _ _ _ _
                  have e116 : (fv P105 302 0).toInt = (fv Po 302 0).toInt := congrArg Int32.toInt (R111 302 0 (by omega))
                  have e117 : (fv P105 302 1).toInt = (fv Po 302 1).toInt := congrArg Int32.toInt (R111 302 1 (by omega))
                  have e118 : (fv P105 302 2).toInt = (fv Po 302 2).toInt := congrArg Int32.toInt (R111 302 2 (by omega))
                  have u115 : joinsM (sr Po) (sr P105) x107.toInt t1.toInt t2.toInt t3.toInt := (show (x107.toInt = -1001 ∧ ((t1.toInt < 0 ∨ (fv Po 302 (0)).toInt ≤ t1.toInt) ∨ (t2.toInt < 0 ∨ (fv Po 302 (0)).toInt ≤ t2.toInt) ∨ t1.toInt = t2.toInt) ∧ (∀ j : Nat, fv P105 302 j = fv Po 302 j)) ∨ (x107.toInt = -1002 ∧ (0 ≤ t1.toInt ∧ t1.toInt + 1 ≤ (fv Po 302 (0)).toInt ∧ t1.toInt ≤ 7) ∧ (0 ≤ t2.toInt ∧ t2.toInt + 1 ≤ (fv Po 302 (0)).toInt ∧ t2.toInt ≤ 7) ∧ ¬ t1.toInt = t2.toInt ∧ (t3.toInt < 0 ∨ 2 < t3.toInt) ∧ (∀ j : Nat, fv P105 302 j = fv Po 302 j)) ∨ (x107.toInt = -1003 ∧ (0 ≤ t1.toInt ∧ t1.toInt + 1 ≤ (fv Po 302 (0)).toInt ∧ t1.toInt ≤ 7) ∧ (0 ≤ t2.toInt ∧ t2.toInt + 1 ≤ (fv Po 302 (0)).toInt ∧ t2.toInt ≤ 7) ∧ ¬ t1.toInt = t2.toInt ∧ (0 ≤ t3.toInt ∧ t3.toInt ≤ 2) ∧ ((fv Po 302 (5 + 19 * t1.toInt.toNat)).toInt = 1 ∨ (fv Po 302 (5 + 19 * t2.toInt.toNat)).toInt = 1 ∨ (fv Po 302 (3 + 19 * t1.toInt.toNat)).toInt = 1 ∨ (fv Po 302 (3 + 19 * t2.toInt.toNat)).toInt = 1 ∨ 7 < (fv Po 302 (4 + 19 * t1.toInt.toNat)).toInt + (fv Po 302 (4 + 19 * t2.toInt.toNat)).toInt) ∧ (∀ j : Nat, fv P105 302 j = fv Po 302 j)) ∨ ((0 ≤ t1.toInt ∧ t1.toInt + 1 ≤ (fv Po 302 (0)).toInt ∧ t1.toInt ≤ 7) ∧ (0 ≤ t2.toInt ∧ t2.toInt + 1 ≤ (fv Po 302 (0)).toInt ∧ t2.toInt ≤ 7) ∧ ¬ t1.toInt = t2.toInt ∧ (0 ≤ t3.toInt ∧ t3.toInt ≤ 2) ∧ (¬ (fv Po 302 (5 + 19 * t1.toInt.toNat)).toInt = 1 ∧ ¬ (fv Po 302 (5 + 19 * t2.toInt.toNat)).toInt = 1 ∧ (fv Po 302 (3 + 19 * t1.toInt.toNat)).toInt = 0 ∧ (fv Po 302 (3 + 19 * t2.toInt.toNat)).toInt = 0 ∧ (fv Po 302 (4 + 19 * t1.toInt.toNat)).toInt + (fv Po 302 (4 + 19 * t2.toInt.toNat)).toInt ≤ 7) ∧ x107.toInt = (fv Po 302 (4 + 19 * t1.toInt.toNat)).toInt + (fv Po 302 (4 + 19 * t2.toInt.toNat)).toInt ∧ (fv P105 302 (0)).toInt = (fv Po 302 (0)).toInt - 1 ∧ (∃ m : Nat → Int32, (∀ j : Nat, j < ((fv Po 302 (4 + 19 * t2.toInt.toNat)).toInt).toNat → m (6 + 19 * t1.toInt.toNat + ((fv Po 302 (4 + 19 * t1.toInt.toNat)).toInt).toNat + j) = fv Po 302 (6 + 19 * t2.toInt.toNat + j)) ∧ (m (13 + 19 * t1.toInt.toNat + ((fv Po 302 (4 + 19 * t1.toInt.toNat)).toInt).toNat)).toInt = t3.toInt ∧ (∀ j : Nat, 1 ≤ j → j < ((fv Po 302 (4 + 19 * t2.toInt.toNat)).toInt).toNat → m (13 + 19 * t1.toInt.toNat + ((fv Po 302 (4 + 19 * t1.toInt.toNat)).toInt).toNat + j) = fv Po 302 (13 + 19 * t2.toInt.toNat + j)) ∧ (m (4 + 19 * t1.toInt.toNat)).toInt = (fv Po 302 (4 + 19 * t1.toInt.toNat)).toInt + (fv Po 302 (4 + 19 * t2.toInt.toNat)).toInt ∧ (∀ j : Nat, ¬ j = 4 + 19 * t1.toInt.toNat → ¬ (6 + 19 * t1.toInt.toNat + ((fv Po 302 (4 + 19 * t1.toInt.toNat)).toInt).toNat ≤ j ∧ j < 6 + 19 * t1.toInt.toNat + ((fv Po 302 (4 + 19 * t1.toInt.toNat)).toInt).toNat + ((fv Po 302 (4 + 19 * t2.toInt.toNat)).toInt).toNat) → ¬ (13 + 19 * t1.toInt.toNat + ((fv Po 302 (4 + 19 * t1.toInt.toNat)).toInt).toNat ≤ j ∧ j < 13 + 19 * t1.toInt.toNat + ((fv Po 302 (4 + 19 * t1.toInt.toNat)).toInt).toNat + ((fv Po 302 (4 + 19 * t2.toInt.toNat)).toInt).toNat) → m j = fv Po 302 j) ∧ ∀ j : Nat, 1 ≤ j → fv P105 302 j = if 3 + 19 * t2.toInt.toNat ≤ j ∧ j < 3 + 19 * ((fv Po 302 (0)).toInt - 1).toNat then m (j + 19) else m j)) from Or.inr (Or.inr (Or.inl (⟨by omega, by omega, by omega, by omega, by omega, by omega, fun j => by rw [R111 302 j (by omega)]⟩))))
                  exact mp_iret ⟨⟨_, rfl, u115⟩, hT109, k112, R114⟩ dX7_joins_107 (Or.inl rfl)
                · have c103 : x100.toInt ≠ 0 := ti_eq_n c103
                  refine mp_a (a_iload_n dX7_joins_99 rfl) (mpp 100 rfl ?_)
                  refine mp_a (a_goto (t := 104) dX7_joins_100 (by decide)) ?_
                  refine mt_callv (i := 101) (q' := q_134) (As := [.int 3, .int t1]) (rest := []) hT dX7_joins_104 rfl qm_134 (by decide) rfl rl_301 (by decide) rfl (Nat.le_of_ble_eq_true rfl) rfl ⟨rfl, rfl⟩ ⟨Nat.le_of_ble_eq_true rfl, Nat.le_of_ble_eq_true rfl⟩ (EvP.mono (by decide) (c_M_refuses hT )) (fun r119 P120 g121 => mpp 107 rfl ?_)
                  obtain ⟨⟨x122, rfl, g123⟩, hT124, k125, R126⟩ := g121
                  have k127 : KW [1093, 1094, 1152] Po P120 := KW.trans KW.refl k125 rfl
                  have R129 := Rel.kw hR k125 rfl
                  have wx122 := ti_full x122
                  replace g123 : x122.toInt = -1003 := g123
                  show MEvP _ none q_154 107 [(0, .ref 301), (1, .int t1), (2, .int t2), (3, .int t3)] [.int x122] _ _ _ _
                  have e131 : (fv P120 302 0).toInt = (fv Po 302 0).toInt := congrArg Int32.toInt (R126 302 0 (by omega))
                  have e132 : (fv P120 302 1).toInt = (fv Po 302 1).toInt := congrArg Int32.toInt (R126 302 1 (by omega))
                  have e133 : (fv P120 302 2).toInt = (fv Po 302 2).toInt := congrArg Int32.toInt (R126 302 2 (by omega))
                  have u130 : joinsM (sr Po) (sr P120) x122.toInt t1.toInt t2.toInt t3.toInt := (show (x122.toInt = -1001 ∧ ((t1.toInt < 0 ∨ (fv Po 302 (0)).toInt ≤ t1.toInt) ∨ (t2.toInt < 0 ∨ (fv Po 302 (0)).toInt ≤ t2.toInt) ∨ t1.toInt = t2.toInt) ∧ (∀ j : Nat, fv P120 302 j = fv Po 302 j)) ∨ (x122.toInt = -1002 ∧ (0 ≤ t1.toInt ∧ t1.toInt + 1 ≤ (fv Po 302 (0)).toInt ∧ t1.toInt ≤ 7) ∧ (0 ≤ t2.toInt ∧ t2.toInt + 1 ≤ (fv Po 302 (0)).toInt ∧ t2.toInt ≤ 7) ∧ ¬ t1.toInt = t2.toInt ∧ (t3.toInt < 0 ∨ 2 < t3.toInt) ∧ (∀ j : Nat, fv P120 302 j = fv Po 302 j)) ∨ (x122.toInt = -1003 ∧ (0 ≤ t1.toInt ∧ t1.toInt + 1 ≤ (fv Po 302 (0)).toInt ∧ t1.toInt ≤ 7) ∧ (0 ≤ t2.toInt ∧ t2.toInt + 1 ≤ (fv Po 302 (0)).toInt ∧ t2.toInt ≤ 7) ∧ ¬ t1.toInt = t2.toInt ∧ (0 ≤ t3.toInt ∧ t3.toInt ≤ 2) ∧ ((fv Po 302 (5 + 19 * t1.toInt.toNat)).toInt = 1 ∨ (fv Po 302 (5 + 19 * t2.toInt.toNat)).toInt = 1 ∨ (fv Po 302 (3 + 19 * t1.toInt.toNat)).toInt = 1 ∨ (fv Po 302 (3 + 19 * t2.toInt.toNat)).toInt = 1 ∨ 7 < (fv Po 302 (4 + 19 * t1.toInt.toNat)).toInt + (fv Po 302 (4 + 19 * t2.toInt.toNat)).toInt) ∧ (∀ j : Nat, fv P120 302 j = fv Po 302 j)) ∨ ((0 ≤ t1.toInt ∧ t1.toInt + 1 ≤ (fv Po 302 (0)).toInt ∧ t1.toInt ≤ 7) ∧ (0 ≤ t2.toInt ∧ t2.toInt + 1 ≤ (fv Po 302 (0)).toInt ∧ t2.toInt ≤ 7) ∧ ¬ t1.toInt = t2.toInt ∧ (0 ≤ t3.toInt ∧ t3.toInt ≤ 2) ∧ (¬ (fv Po 302 (5 + 19 * t1.toInt.toNat)).toInt = 1 ∧ ¬ (fv Po 302 (5 + 19 * t2.toInt.toNat)).toInt = 1 ∧ (fv Po 302 (3 + 19 * t1.toInt.toNat)).toInt = 0 ∧ (fv Po 302 (3 + 19 * t2.toInt.toNat)).toInt = 0 ∧ (fv Po 302 (4 + 19 * t1.toInt.toNat)).toInt + (fv Po 302 (4 + 19 * t2.toInt.toNat)).toInt ≤ 7) ∧ x122.toInt = (fv Po 302 (4 + 19 * t1.toInt.toNat)).toInt + (fv Po 302 (4 + 19 * t2.toInt.toNat)).toInt ∧ (fv P120 302 (0)).toInt = (fv Po 302 (0)).toInt - 1 ∧ (∃ m : Nat → Int32, (∀ j : Nat, j < ((fv Po 302 (4 + 19 * t2.toInt.toNat)).toInt).toNat → m (6 + 19 * t1.toInt.toNat + ((fv Po 302 (4 + 19 * t1.toInt.toNat)).toInt).toNat + j) = fv Po 302 (6 + 19 * t2.toInt.toNat + j)) ∧ (m (13 + 19 * t1.toInt.toNat + ((fv Po 302 (4 + 19 * t1.toInt.toNat)).toInt).toNat)).toInt = t3.toInt ∧ (∀ j : Nat, 1 ≤ j → j < ((fv Po 302 (4 + 19 * t2.toInt.toNat)).toInt).toNat → m (13 + 19 * t1.toInt.toNat + ((fv Po 302 (4 + 19 * t1.toInt.toNat)).toInt).toNat + j) = fv Po 302 (13 + 19 * t2.toInt.toNat + j)) ∧ (m (4 + 19 * t1.toInt.toNat)).toInt = (fv Po 302 (4 + 19 * t1.toInt.toNat)).toInt + (fv Po 302 (4 + 19 * t2.toInt.toNat)).toInt ∧ (∀ j : Nat, ¬ j = 4 + 19 * t1.toInt.toNat → ¬ (6 + 19 * t1.toInt.toNat + ((fv Po 302 (4 + 19 * t1.toInt.toNat)).toInt).toNat ≤ j ∧ j < 6 + 19 * t1.toInt.toNat + ((fv Po 302 (4 + 19 * t1.toInt.toNat)).toInt).toNat + ((fv Po 302 (4 + 19 * t2.toInt.toNat)).toInt).toNat) → ¬ (13 + 19 * t1.toInt.toNat + ((fv Po 302 (4 + 19 * t1.toInt.toNat)).toInt).toNat ≤ j ∧ j < 13 + 19 * t1.toInt.toNat + ((fv Po 302 (4 + 19 * t1.toInt.toNat)).toInt).toNat + ((fv Po 302 (4 + 19 * t2.toInt.toNat)).toInt).toNat) → m j = fv Po 302 j) ∧ ∀ j : Nat, 1 ≤ j → fv P120 302 j = if 3 + 19 * t2.toInt.toNat ≤ j ∧ j < 3 + 19 * ((fv Po 302 (0)).toInt - 1).toNat then m (j + 19) else m j)) from Or.inr (Or.inr (Or.inl (⟨by omega, by omega, by omega, by omega, by omega, by omega, fun j => by rw [R126 302 j (by omega)]⟩))))
                  exact mp_iret ⟨⟨_, rfl, u130⟩, hT124, k127, R129⟩ dX7_joins_107 (Or.inl rfl)
              · have c94 : x90.toInt = 0 := ti_ne_n c94
                refine mp_a (a_aload_n dX7_joins_81 rfl) (mpp 82 rfl ?_)
                refine mp_a (a_iload_n dX7_joins_82 rfl) (mpp 83 rfl ?_)
                have p134 : 0 ≤ t2.toInt := by omega
                have p135 : t2.toInt ≤ 7 := by omega
                refine mt_callv (i := 81) (q' := q_138) (As := [.int t2]) (rest := []) hT dX7_joins_83 rfl qm_138 (by decide) rfl rl_301 (by decide) rfl (Nat.le_of_ble_eq_true rfl) rfl ⟨rfl, rfl⟩ ⟨Nat.le_of_ble_eq_true rfl, Nat.le_of_ble_eq_true rfl⟩ (EvP.mono (by decide) (c_M_isCorner hT p134 p135 )) (fun r136 P137 g138 => mpp 86 rfl ?_)
                obtain ⟨⟨x139, rfl, g140⟩, e141⟩ := g138
                have e141 := e141.symm
                subst e141
                have wx139 := ti_full x139
                replace g140 : 0 ≤ x139.toInt ∧ x139.toInt ≤ 1 ∧ ((x139.toInt = 1 ∧ (fv Po 302 (3 + 19 * t2.toInt.toNat)).toInt = 1) ∨ (x139.toInt = 0 ∧ (fv Po 302 (3 + 19 * t2.toInt.toNat)).toInt = 0)) := g140
                try have g142 : (0 : Int) ≤ (fv Po 302 (3 + 19 * t2.toInt.toNat)).toInt ∧ (fv Po 302 (3 + 19 * t2.toInt.toNat)).toInt ≤ 1 := s3_rng hT (by omega)
                show MEvP _ none q_154 86 [(0, .ref 301), (1, .int t1), (2, .int t2), (3, .int t3)] [.int x139] _ _ _ _
                refine mp_Tb (t := 108) (j_if_eq dX7_joins_86) (by decide) (fun c143 => ?_) (fun c143 => mpp 89 rfl ?_)
                · have c143 : x139.toInt = 0 := ti_eq c143
                  refine mp_a (a_aload_n dX7_joins_108 rfl) (mpp 109 rfl ?_)
                  refine mp_a (a_iload_n dX7_joins_109 rfl) (mpp 110 rfl ?_)
                  refine mp_a (a_iconst (v := 1) dX7_joins_110 rfl) (mpp 111 rfl ?_)
                  have p144 : 0 ≤ t1.toInt := by omega
                  have p145 : t1.toInt ≤ 7 := by omega
                  have p146 : 0 ≤ (1 : Int) := by omega
                  have p147 : (1 : Int) ≤ 18 := by omega
                  refine mt_callv (i := 78) (q' := q_137) (As := [.int t1, .int 1]) (rest := []) hT dX7_joins_111 rfl qm_137 (by decide) rfl rl_301 (by decide) rfl (Nat.le_of_ble_eq_true rfl) rfl ⟨rfl, rfl⟩ ⟨Nat.le_of_ble_eq_true rfl, Nat.le_of_ble_eq_true rfl⟩ (EvP.mono (by decide) (c_M_of_c1 hT p144 p145 p146 p147 )) (fun r148 P149 g150 => mpp 114 rfl ?_)
                  obtain ⟨⟨x151, rfl, g152⟩, e153⟩ := g150
                  have e153 := e153.symm
                  subst e153
                  have wx151 := ti_full x151
                  replace g152 : x151.toInt = (fv Po 302 (4 + 19 * t1.toInt.toNat)).toInt ∧ 0 ≤ x151.toInt ∧ x151.toInt ≤ 8 := g152
                  try have g154 : (0 : Int) ≤ (fv Po 302 (4 + 19 * t1.toInt.toNat)).toInt ∧ (fv Po 302 (4 + 19 * t1.toInt.toNat)).toInt ≤ 8 := s4_rng hT (by omega)
                  show MEvP _ none q_154 114 [(0, .ref 301), (1, .int t1), (2, .int t2), (3, .int t3)] [.int x151] _ _ _ _
                  refine mp_a (a_istore (L' := [(4, .int x151), (0, .ref 301), (1, .int t1), (2, .int t2), (3, .int t3)]) dX7_joins_114 (by decide) rfl) (mpp 116 rfl ?_)
                  refine mp_a (a_aload_n dX7_joins_116 rfl) (mpp 117 rfl ?_)
                  refine mp_a (a_iload_n dX7_joins_117 rfl) (mpp 118 rfl ?_)
                  refine mp_a (a_iconst (v := 1) dX7_joins_118 rfl) (mpp 119 rfl ?_)
                  have p155 : 0 ≤ t2.toInt := by omega
                  have p156 : t2.toInt ≤ 7 := by omega
                  have p157 : 0 ≤ (1 : Int) := by omega
                  have p158 : (1 : Int) ≤ 18 := by omega
                  refine mt_callv (i := 78) (q' := q_137) (As := [.int t2, .int 1]) (rest := []) hT dX7_joins_119 rfl qm_137 (by decide) rfl rl_301 (by decide) rfl (Nat.le_of_ble_eq_true rfl) rfl ⟨rfl, rfl⟩ ⟨Nat.le_of_ble_eq_true rfl, Nat.le_of_ble_eq_true rfl⟩ (EvP.mono (by decide) (c_M_of_c1 hT p155 p156 p157 p158 )) (fun r159 P160 g161 => mpp 122 rfl ?_)
                  obtain ⟨⟨x162, rfl, g163⟩, e164⟩ := g161
                  have e164 := e164.symm
                  subst e164
                  have wx162 := ti_full x162
                  replace g163 : x162.toInt = (fv Po 302 (4 + 19 * t2.toInt.toNat)).toInt ∧ 0 ≤ x162.toInt ∧ x162.toInt ≤ 8 := g163
                  try have g165 : (0 : Int) ≤ (fv Po 302 (4 + 19 * t2.toInt.toNat)).toInt ∧ (fv Po 302 (4 + 19 * t2.toInt.toNat)).toInt ≤ 8 := s4_rng hT (by omega)
                  show MEvP _ none q_154 122 [(4, .int x151), (0, .ref 301), (1, .int t1), (2, .int t2), (3, .int t3)] [.int x162] _ _ _ _
                  refine mp_a (a_istore (L' := [(5, .int x162), (4, .int x151), (0, .ref 301), (1, .int t1), (2, .int t2), (3, .int t3)]) dX7_joins_122 (by decide) rfl) (mpp 124 rfl ?_)
                  have q166 := Rel.two hR (p := t1.toInt.toNat) (by omega) (by omega)
                  have q167 := Rel.two hR (p := t2.toInt.toNat) (by omega) (by omega)
                  refine mp_a (a_iload dX7_joins_124 rfl) (mpp 126 rfl ?_)
                  refine mp_a (a_iload dX7_joins_126 rfl) (mpp 128 rfl ?_)
                  obtain ⟨z168, h169⟩ := ti_ex (x151 + x162 : Int32)
                  have wz168 := ti_full z168
                  refine mp_t (s_iadd (v := z168) dX7_joins_128 h169) (mpp 129 rfl ?_)
                  try have e170 : z168.toInt = x151.toInt + x162.toInt := ti_addz h169 rfl rfl (by omega) (by omega)
                  refine mp_a (a_bipush (v := 7) dX7_joins_129 rfl) (mpp 131 rfl ?_)
                  refine mp_Tb (t := 146) (j_icmp_le dX7_joins_131) (by decide) (fun c171 => ?_) (fun c171 => mpp 134 rfl ?_)
                  · have c171 : z168.toInt ≤ 7 := ti_le c171
                    refine mp_a (a_aload_n dX7_joins_146 rfl) (mpp 147 rfl ?_)
                    refine mt_getU (i := 9) (k := 0) (A := 302) hT dX7_joins_147 rfl rl_301 (by decide) rfl (by decide) rfl un_18 (mpp 150 rfl ?_)
                    refine mp_a (a_iload_n dX7_joins_150 rfl) (mpp 151 rfl ?_)
                    refine mp_a (a_bipush (v := 11) dX7_joins_151 rfl) (mpp 153 rfl ?_)
                    refine mp_a (a_iload dX7_joins_153 rfl) (mpp 155 rfl ?_)
                    obtain ⟨z172, h173⟩ := ti_ex (11 + x151 : Int32)
                    have wz172 := ti_full z172
                    refine mp_t (s_iadd (v := z172) dX7_joins_155 h173) (mpp 156 rfl ?_)
                    try have e174 : z172.toInt = 11 + x151.toInt := ti_addz h173 rfl rfl (by omega) (by omega)
                    refine mp_a (a_iconst (v := 1) dX7_joins_156 rfl) (mpp 157 rfl ?_)
                    obtain ⟨z175, h176⟩ := ti_ex (z172 - 1 : Int32)
                    have wz175 := ti_full z175
                    refine mp_t (s_isub (v := z175) dX7_joins_157 h176) (mpp 158 rfl ?_)
                    try have e177 : z175.toInt = z172.toInt - 1 := ti_subz h176 rfl rfl (by omega) (by omega)
                    have p178 : 0 ≤ t1.toInt := by omega
                    have p179 : t1.toInt ≤ 8 := by omega
                    have p180 : 0 ≤ z175.toInt := by omega
                    have p181 : z175.toInt ≤ 20 := by omega
                    refine mp_calls (i := 74) (q' := q_135) (As := [.int t1, .int z175]) (rest := [.ref 302]) dX7_joins_158 rfl qm_135 (by decide) rfl (Nat.le_of_ble_eq_true rfl) rfl ⟨rfl, rfl⟩ ⟨Nat.le_of_ble_eq_true rfl, Nat.le_of_ble_eq_true rfl⟩ (EvP.mono (by decide) (c_M_at hT p178 p179 p180 p181 )) (fun r182 P183 g184 => mpp 161 rfl ?_)
                    obtain ⟨⟨x185, rfl, g186⟩, e187⟩ := g184
                    have e187 := e187.symm
                    subst e187
                    have wx185 := ti_full x185
                    replace g186 : x185.toInt = 3 + 19 * t1.toInt + z175.toInt := g186
                    show MEvP _ none q_154 161 [(5, .int x162), (4, .int x151), (0, .ref 301), (1, .int t1), (2, .int t2), (3, .int t3)] [.int x185, .ref 302] _ _ _ _
                    refine mp_a (a_iload_n dX7_joins_161 rfl) (mpp 162 rfl ?_)
                    refine mt_iasX (n := 155) hT dX7_joins_162 rl_302 (by decide) rfl rfl (by omega) (by omega) ssp_0 (okS_mk (by omega) (fun _ => ⟨by omega, by omega⟩) (fun _ => ⟨by omega, by omega⟩)) (fun P188 hT189 f190 f191 f192 => mpp 163 rfl ?_)
                    have k193 : KW [1093, 1094, 1152] Po P188 := KW.step KW.refl rl_302 rfl f191 f192
                    have R194 := Rel.oth hR f191 (by omega)
                    refine mp_a (a_iconst (v := 0) dX7_joins_163 rfl) (mpp 164 rfl ?_)
                    refine mp_a (a_istore (L' := [(6, .int 0), (5, .int x162), (4, .int x151), (0, .ref 301), (1, .int t1), (2, .int t2), (3, .int t3)]) dX7_joins_164 (by decide) rfl) (mpp 166 rfl ?_)
                    refine MEvP.less (L := [(0, .ref 301), (1, .int t1), (2, .int t2), (3, .int t3), (4, .int x151), (5, .int x162), (6, .int 0)]) rfl rfl ⟨rfl, rfl, rfl, rfl, rfl, rfl, rfl, trivial⟩ ?_
                    have i195 : 0 ≤ t1.toInt ∧ t1.toInt ≤ 7 ∧ 0 ≤ t2.toInt ∧ t2.toInt ≤ 7 ∧ ¬ t1.toInt = t2.toInt := by omega
                    have i196 : x151.toInt = (fv Po 302 (4 + 19 * t1.toInt.toNat)).toInt ∧ x162.toInt = (fv Po 302 (4 + 19 * t2.toInt.toNat)).toInt ∧ x151.toInt + x162.toInt ≤ 7 ∧ 2 ≤ x151.toInt ∧ 2 ≤ x162.toInt := by omega
                    have e197 : (fv P188 302 0).toInt = (fv Po 302 0).toInt := congrArg Int32.toInt (f191 302 0 (ne_i (by omega)))
                    have i198 : (fv P188 302 0).toInt = (fv Po 302 0).toInt ∧ t2.toInt + 1 ≤ (fv Po 302 0).toInt ∧ t1.toInt + 1 ≤ (fv Po 302 0).toInt ∧ (fv Po 302 0).toInt ≤ 8 := by omega
                    have w200_ : W2 Po Po (fun _ => False) (6 + 19 * t1.toInt.toNat + (fv Po 302 (4 + 19 * t1.toInt.toNat)).toInt.toNat) (13 + 19 * t1.toInt.toNat + (fv Po 302 (4 + 19 * t1.toInt.toNat)).toInt.toNat) (fun j : Nat => fv Po 302 (6 + 19 * t2.toInt.toNat + j)) (fun j : Nat => if j = 0 then t3 else fv Po 302 (13 + 19 * t2.toInt.toNat + j)) 0 0 := W2.start rfl rfl (fun _ _ => rfl)
                    have i199 : W2 Po P188 (fun _ => False) (6 + 19 * t1.toInt.toNat + (fv Po 302 (4 + 19 * t1.toInt.toNat)).toInt.toNat) (13 + 19 * t1.toInt.toNat + (fv Po 302 (4 + 19 * t1.toInt.toNat)).toInt.toNat) (fun j : Nat => fv Po 302 (6 + 19 * t2.toInt.toNat + j)) (fun j : Nat => if j = 0 then t3 else fv Po 302 (13 + 19 * t2.toInt.toNat + j)) (0 : Int).toNat (1 + min (0 : Int) ((fv Po 302 (4 + 19 * t2.toInt.toNat)).toInt - 1)).toNat := (W2.two w200_ (k' := 1) rfl (n := x185.toInt.toNat) (by omega) (congrArg Int32.toInt f190) rfl (fun j hj => f191 302 j (fun e => hj e.2)) (Or.inr (by omega))).fin (by omega) (by omega)
                    have i201 : (0 : Int) ≤ x162.toInt := by omega
                    have i202 : (fv Po 302 (5 + 19 * t1.toInt.toNat)).toInt ≠ 1 ∧ (fv Po 302 (5 + 19 * t2.toInt.toNat)).toInt ≠ 1 ∧ (fv Po 302 (3 + 19 * t1.toInt.toNat)).toInt = 0 ∧ (fv Po 302 (3 + 19 * t2.toInt.toNat)).toInt = 0 ∧ 0 ≤ t3.toInt ∧ t3.toInt ≤ 2 := by omega
                    have i203 : 0 ≤ (0 : Int) := by omega
                    exact c_M_joins_l166    _ _ _ _ P188 hT189 k193 R194 i195 i196 i198 i199 i201 i202 i203 rfl
                  · have c171 : z168.toInt > 7 := ti_le_n c171
                    refine mp_a (a_aload_n dX7_joins_134 rfl) (mpp 135 rfl ?_)
                    refine mp_a (a_bipush (v := 6) dX7_joins_135 rfl) (mpp 137 rfl ?_)
                    refine mp_a (a_iload dX7_joins_137 rfl) (mpp 139 rfl ?_)
                    refine mp_a (a_iload dX7_joins_139 rfl) (mpp 141 rfl ?_)
                    obtain ⟨z204, h205⟩ := ti_ex (x151 + x162 : Int32)
                    have wz204 := ti_full z204
                    refine mp_t (s_iadd (v := z204) dX7_joins_141 h205) (mpp 142 rfl ?_)
                    try have e206 : z204.toInt = x151.toInt + x162.toInt := ti_addz h205 rfl rfl (by omega) (by omega)
                    refine mt_callv (i := 101) (q' := q_134) (As := [.int 6, .int z204]) (rest := []) hT dX7_joins_142 rfl qm_134 (by decide) rfl rl_301 (by decide) rfl (Nat.le_of_ble_eq_true rfl) rfl ⟨rfl, rfl⟩ ⟨Nat.le_of_ble_eq_true rfl, Nat.le_of_ble_eq_true rfl⟩ (EvP.mono (by decide) (c_M_refuses hT )) (fun r207 P208 g209 => mpp 145 rfl ?_)
                    obtain ⟨⟨x210, rfl, g211⟩, hT212, k213, R214⟩ := g209
                    have k215 : KW [1093, 1094, 1152] Po P208 := KW.trans KW.refl k213 rfl
                    have R217 := Rel.kw hR k213 rfl
                    have wx210 := ti_full x210
                    replace g211 : x210.toInt = -1003 := g211
                    show MEvP _ none q_154 145 [(5, .int x162), (4, .int x151), (0, .ref 301), (1, .int t1), (2, .int t2), (3, .int t3)] [.int x210] _ _ _ _
                    have e219 : (fv P208 302 0).toInt = (fv Po 302 0).toInt := congrArg Int32.toInt (R214 302 0 (by omega))
                    have e220 : (fv P208 302 1).toInt = (fv Po 302 1).toInt := congrArg Int32.toInt (R214 302 1 (by omega))
                    have e221 : (fv P208 302 2).toInt = (fv Po 302 2).toInt := congrArg Int32.toInt (R214 302 2 (by omega))
                    have u218 : joinsM (sr Po) (sr P208) x210.toInt t1.toInt t2.toInt t3.toInt := (show (x210.toInt = -1001 ∧ ((t1.toInt < 0 ∨ (fv Po 302 (0)).toInt ≤ t1.toInt) ∨ (t2.toInt < 0 ∨ (fv Po 302 (0)).toInt ≤ t2.toInt) ∨ t1.toInt = t2.toInt) ∧ (∀ j : Nat, fv P208 302 j = fv Po 302 j)) ∨ (x210.toInt = -1002 ∧ (0 ≤ t1.toInt ∧ t1.toInt + 1 ≤ (fv Po 302 (0)).toInt ∧ t1.toInt ≤ 7) ∧ (0 ≤ t2.toInt ∧ t2.toInt + 1 ≤ (fv Po 302 (0)).toInt ∧ t2.toInt ≤ 7) ∧ ¬ t1.toInt = t2.toInt ∧ (t3.toInt < 0 ∨ 2 < t3.toInt) ∧ (∀ j : Nat, fv P208 302 j = fv Po 302 j)) ∨ (x210.toInt = -1003 ∧ (0 ≤ t1.toInt ∧ t1.toInt + 1 ≤ (fv Po 302 (0)).toInt ∧ t1.toInt ≤ 7) ∧ (0 ≤ t2.toInt ∧ t2.toInt + 1 ≤ (fv Po 302 (0)).toInt ∧ t2.toInt ≤ 7) ∧ ¬ t1.toInt = t2.toInt ∧ (0 ≤ t3.toInt ∧ t3.toInt ≤ 2) ∧ ((fv Po 302 (5 + 19 * t1.toInt.toNat)).toInt = 1 ∨ (fv Po 302 (5 + 19 * t2.toInt.toNat)).toInt = 1 ∨ (fv Po 302 (3 + 19 * t1.toInt.toNat)).toInt = 1 ∨ (fv Po 302 (3 + 19 * t2.toInt.toNat)).toInt = 1 ∨ 7 < (fv Po 302 (4 + 19 * t1.toInt.toNat)).toInt + (fv Po 302 (4 + 19 * t2.toInt.toNat)).toInt) ∧ (∀ j : Nat, fv P208 302 j = fv Po 302 j)) ∨ ((0 ≤ t1.toInt ∧ t1.toInt + 1 ≤ (fv Po 302 (0)).toInt ∧ t1.toInt ≤ 7) ∧ (0 ≤ t2.toInt ∧ t2.toInt + 1 ≤ (fv Po 302 (0)).toInt ∧ t2.toInt ≤ 7) ∧ ¬ t1.toInt = t2.toInt ∧ (0 ≤ t3.toInt ∧ t3.toInt ≤ 2) ∧ (¬ (fv Po 302 (5 + 19 * t1.toInt.toNat)).toInt = 1 ∧ ¬ (fv Po 302 (5 + 19 * t2.toInt.toNat)).toInt = 1 ∧ (fv Po 302 (3 + 19 * t1.toInt.toNat)).toInt = 0 ∧ (fv Po 302 (3 + 19 * t2.toInt.toNat)).toInt = 0 ∧ (fv Po 302 (4 + 19 * t1.toInt.toNat)).toInt + (fv Po 302 (4 + 19 * t2.toInt.toNat)).toInt ≤ 7) ∧ x210.toInt = (fv Po 302 (4 + 19 * t1.toInt.toNat)).toInt + (fv Po 302 (4 + 19 * t2.toInt.toNat)).toInt ∧ (fv P208 302 (0)).toInt = (fv Po 302 (0)).toInt - 1 ∧ (∃ m : Nat → Int32, (∀ j : Nat, j < ((fv Po 302 (4 + 19 * t2.toInt.toNat)).toInt).toNat → m (6 + 19 * t1.toInt.toNat + ((fv Po 302 (4 + 19 * t1.toInt.toNat)).toInt).toNat + j) = fv Po 302 (6 + 19 * t2.toInt.toNat + j)) ∧ (m (13 + 19 * t1.toInt.toNat + ((fv Po 302 (4 + 19 * t1.toInt.toNat)).toInt).toNat)).toInt = t3.toInt ∧ (∀ j : Nat, 1 ≤ j → j < ((fv Po 302 (4 + 19 * t2.toInt.toNat)).toInt).toNat → m (13 + 19 * t1.toInt.toNat + ((fv Po 302 (4 + 19 * t1.toInt.toNat)).toInt).toNat + j) = fv Po 302 (13 + 19 * t2.toInt.toNat + j)) ∧ (m (4 + 19 * t1.toInt.toNat)).toInt = (fv Po 302 (4 + 19 * t1.toInt.toNat)).toInt + (fv Po 302 (4 + 19 * t2.toInt.toNat)).toInt ∧ (∀ j : Nat, ¬ j = 4 + 19 * t1.toInt.toNat → ¬ (6 + 19 * t1.toInt.toNat + ((fv Po 302 (4 + 19 * t1.toInt.toNat)).toInt).toNat ≤ j ∧ j < 6 + 19 * t1.toInt.toNat + ((fv Po 302 (4 + 19 * t1.toInt.toNat)).toInt).toNat + ((fv Po 302 (4 + 19 * t2.toInt.toNat)).toInt).toNat) → ¬ (13 + 19 * t1.toInt.toNat + ((fv Po 302 (4 + 19 * t1.toInt.toNat)).toInt).toNat ≤ j ∧ j < 13 + 19 * t1.toInt.toNat + ((fv Po 302 (4 + 19 * t1.toInt.toNat)).toInt).toNat + ((fv Po 302 (4 + 19 * t2.toInt.toNat)).toInt).toNat) → m j = fv Po 302 j) ∧ ∀ j : Nat, 1 ≤ j → fv P208 302 j = if 3 + 19 * t2.toInt.toNat ≤ j ∧ j < 3 + 19 * ((fv Po 302 (0)).toInt - 1).toNat then m (j + 19) else m j)) from Or.inr (Or.inr (Or.inl (⟨by omega, by omega, by omega, by omega, by omega, by omega, fun j => by rw [R214 302 j (by omega)]⟩))))
                    exact mp_iret ⟨⟨_, rfl, u218⟩, hT212, k215, R217⟩ dX7_joins_145 (Or.inl rfl)
                · have c143 : x139.toInt ≠ 0 := ti_eq_n c143
                  refine mp_a (a_aload_n dX7_joins_89 rfl) (mpp 90 rfl ?_)
                  refine mp_a (a_iconst (v := 3) dX7_joins_90 rfl) (mpp 91 rfl ?_)
                  refine mp_a (a_aload_n dX7_joins_91 rfl) (mpp 92 rfl ?_)
                  refine mp_a (a_iload_n dX7_joins_92 rfl) (mpp 93 rfl ?_)
                  have p222 : 0 ≤ t1.toInt := by omega
                  have p223 : t1.toInt ≤ 7 := by omega
                  refine mt_callv (i := 81) (q' := q_138) (As := [.int t1]) (rest := [.int 3, .ref 301]) hT dX7_joins_93 rfl qm_138 (by decide) rfl rl_301 (by decide) rfl (Nat.le_of_ble_eq_true rfl) rfl ⟨rfl, rfl⟩ ⟨Nat.le_of_ble_eq_true rfl, Nat.le_of_ble_eq_true rfl⟩ (EvP.mono (by decide) (c_M_isCorner hT p222 p223 )) (fun r224 P225 g226 => mpp 96 rfl ?_)
                  obtain ⟨⟨x227, rfl, g228⟩, e229⟩ := g226
                  have e229 := e229.symm
                  subst e229
                  have wx227 := ti_full x227
                  replace g228 : 0 ≤ x227.toInt ∧ x227.toInt ≤ 1 ∧ ((x227.toInt = 1 ∧ (fv Po 302 (3 + 19 * t1.toInt.toNat)).toInt = 1) ∨ (x227.toInt = 0 ∧ (fv Po 302 (3 + 19 * t1.toInt.toNat)).toInt = 0)) := g228
                  show MEvP _ none q_154 96 [(0, .ref 301), (1, .int t1), (2, .int t2), (3, .int t3)] [.int x227, .int 3, .ref 301] _ _ _ _
                  refine mp_Tb (t := 103) (j_if_eq dX7_joins_96) (by decide) (fun c230 => ?_) (fun c230 => mpp 99 rfl ?_)
                  · have c230 : x227.toInt = 0 := ti_eq c230
                    refine mp_a (a_iload_n dX7_joins_103 rfl) (mpp 104 rfl ?_)
                    refine mt_callv (i := 101) (q' := q_134) (As := [.int 3, .int t2]) (rest := []) hT dX7_joins_104 rfl qm_134 (by decide) rfl rl_301 (by decide) rfl (Nat.le_of_ble_eq_true rfl) rfl ⟨rfl, rfl⟩ ⟨Nat.le_of_ble_eq_true rfl, Nat.le_of_ble_eq_true rfl⟩ (EvP.mono (by decide) (c_M_refuses hT )) (fun r231 P232 g233 => mpp 107 rfl ?_)
                    obtain ⟨⟨x234, rfl, g235⟩, hT236, k237, R238⟩ := g233
                    have k239 : KW [1093, 1094, 1152] Po P232 := KW.trans KW.refl k237 rfl
                    have R241 := Rel.kw hR k237 rfl
                    have wx234 := ti_full x234
                    replace g235 : x234.toInt = -1003 := g235
                    show MEvP _ none q_154 107 [(0, .ref 301), (1, .int t1), (2, .int t2), (3, .int t3)] [.int x234] _ _ _ _
                    have e243 : (fv P232 302 0).toInt = (fv Po 302 0).toInt := congrArg Int32.toInt (R238 302 0 (by omega))
                    have e244 : (fv P232 302 1).toInt = (fv Po 302 1).toInt := congrArg Int32.toInt (R238 302 1 (by omega))
                    have e245 : (fv P232 302 2).toInt = (fv Po 302 2).toInt := congrArg Int32.toInt (R238 302 2 (by omega))
                    have u242 : joinsM (sr Po) (sr P232) x234.toInt t1.toInt t2.toInt t3.toInt := (show (x234.toInt = -1001 ∧ ((t1.toInt < 0 ∨ (fv Po 302 (0)).toInt ≤ t1.toInt) ∨ (t2.toInt < 0 ∨ (fv Po 302 (0)).toInt ≤ t2.toInt) ∨ t1.toInt = t2.toInt) ∧ (∀ j : Nat, fv P232 302 j = fv Po 302 j)) ∨ (x234.toInt = -1002 ∧ (0 ≤ t1.toInt ∧ t1.toInt + 1 ≤ (fv Po 302 (0)).toInt ∧ t1.toInt ≤ 7) ∧ (0 ≤ t2.toInt ∧ t2.toInt + 1 ≤ (fv Po 302 (0)).toInt ∧ t2.toInt ≤ 7) ∧ ¬ t1.toInt = t2.toInt ∧ (t3.toInt < 0 ∨ 2 < t3.toInt) ∧ (∀ j : Nat, fv P232 302 j = fv Po 302 j)) ∨ (x234.toInt = -1003 ∧ (0 ≤ t1.toInt ∧ t1.toInt + 1 ≤ (fv Po 302 (0)).toInt ∧ t1.toInt ≤ 7) ∧ (0 ≤ t2.toInt ∧ t2.toInt + 1 ≤ (fv Po 302 (0)).toInt ∧ t2.toInt ≤ 7) ∧ ¬ t1.toInt = t2.toInt ∧ (0 ≤ t3.toInt ∧ t3.toInt ≤ 2) ∧ ((fv Po 302 (5 + 19 * t1.toInt.toNat)).toInt = 1 ∨ (fv Po 302 (5 + 19 * t2.toInt.toNat)).toInt = 1 ∨ (fv Po 302 (3 + 19 * t1.toInt.toNat)).toInt = 1 ∨ (fv Po 302 (3 + 19 * t2.toInt.toNat)).toInt = 1 ∨ 7 < (fv Po 302 (4 + 19 * t1.toInt.toNat)).toInt + (fv Po 302 (4 + 19 * t2.toInt.toNat)).toInt) ∧ (∀ j : Nat, fv P232 302 j = fv Po 302 j)) ∨ ((0 ≤ t1.toInt ∧ t1.toInt + 1 ≤ (fv Po 302 (0)).toInt ∧ t1.toInt ≤ 7) ∧ (0 ≤ t2.toInt ∧ t2.toInt + 1 ≤ (fv Po 302 (0)).toInt ∧ t2.toInt ≤ 7) ∧ ¬ t1.toInt = t2.toInt ∧ (0 ≤ t3.toInt ∧ t3.toInt ≤ 2) ∧ (¬ (fv Po 302 (5 + 19 * t1.toInt.toNat)).toInt = 1 ∧ ¬ (fv Po 302 (5 + 19 * t2.toInt.toNat)).toInt = 1 ∧ (fv Po 302 (3 + 19 * t1.toInt.toNat)).toInt = 0 ∧ (fv Po 302 (3 + 19 * t2.toInt.toNat)).toInt = 0 ∧ (fv Po 302 (4 + 19 * t1.toInt.toNat)).toInt + (fv Po 302 (4 + 19 * t2.toInt.toNat)).toInt ≤ 7) ∧ x234.toInt = (fv Po 302 (4 + 19 * t1.toInt.toNat)).toInt + (fv Po 302 (4 + 19 * t2.toInt.toNat)).toInt ∧ (fv P232 302 (0)).toInt = (fv Po 302 (0)).toInt - 1 ∧ (∃ m : Nat → Int32, (∀ j : Nat, j < ((fv Po 302 (4 + 19 * t2.toInt.toNat)).toInt).toNat → m (6 + 19 * t1.toInt.toNat + ((fv Po 302 (4 + 19 * t1.toInt.toNat)).toInt).toNat + j) = fv Po 302 (6 + 19 * t2.toInt.toNat + j)) ∧ (m (13 + 19 * t1.toInt.toNat + ((fv Po 302 (4 + 19 * t1.toInt.toNat)).toInt).toNat)).toInt = t3.toInt ∧ (∀ j : Nat, 1 ≤ j → j < ((fv Po 302 (4 + 19 * t2.toInt.toNat)).toInt).toNat → m (13 + 19 * t1.toInt.toNat + ((fv Po 302 (4 + 19 * t1.toInt.toNat)).toInt).toNat + j) = fv Po 302 (13 + 19 * t2.toInt.toNat + j)) ∧ (m (4 + 19 * t1.toInt.toNat)).toInt = (fv Po 302 (4 + 19 * t1.toInt.toNat)).toInt + (fv Po 302 (4 + 19 * t2.toInt.toNat)).toInt ∧ (∀ j : Nat, ¬ j = 4 + 19 * t1.toInt.toNat → ¬ (6 + 19 * t1.toInt.toNat + ((fv Po 302 (4 + 19 * t1.toInt.toNat)).toInt).toNat ≤ j ∧ j < 6 + 19 * t1.toInt.toNat + ((fv Po 302 (4 + 19 * t1.toInt.toNat)).toInt).toNat + ((fv Po 302 (4 + 19 * t2.toInt.toNat)).toInt).toNat) → ¬ (13 + 19 * t1.toInt.toNat + ((fv Po 302 (4 + 19 * t1.toInt.toNat)).toInt).toNat ≤ j ∧ j < 13 + 19 * t1.toInt.toNat + ((fv Po 302 (4 + 19 * t1.toInt.toNat)).toInt).toNat + ((fv Po 302 (4 + 19 * t2.toInt.toNat)).toInt).toNat) → m j = fv Po 302 j) ∧ ∀ j : Nat, 1 ≤ j → fv P232 302 j = if 3 + 19 * t2.toInt.toNat ≤ j ∧ j < 3 + 19 * ((fv Po 302 (0)).toInt - 1).toNat then m (j + 19) else m j)) from Or.inr (Or.inr (Or.inl (⟨by omega, by omega, by omega, by omega, by omega, by omega, fun j => by rw [R238 302 j (by omega)]⟩))))
                    exact mp_iret ⟨⟨_, rfl, u242⟩, hT236, k239, R241⟩ dX7_joins_107 (Or.inl rfl)
                  · have c230 : x227.toInt ≠ 0 := ti_eq_n c230
                    refine mp_a (a_iload_n dX7_joins_99 rfl) (mpp 100 rfl ?_)
                    refine mp_a (a_goto (t := 104) dX7_joins_100 (by decide)) ?_
                    refine mt_callv (i := 101) (q' := q_134) (As := [.int 3, .int t1]) (rest := []) hT dX7_joins_104 rfl qm_134 (by decide) rfl rl_301 (by decide) rfl (Nat.le_of_ble_eq_true rfl) rfl ⟨rfl, rfl⟩ ⟨Nat.le_of_ble_eq_true rfl, Nat.le_of_ble_eq_true rfl⟩ (EvP.mono (by decide) (c_M_refuses hT )) (fun r246 P247 g248 => mpp 107 rfl ?_)
                    obtain ⟨⟨x249, rfl, g250⟩, hT251, k252, R253⟩ := g248
                    have k254 : KW [1093, 1094, 1152] Po P247 := KW.trans KW.refl k252 rfl
                    have R256 := Rel.kw hR k252 rfl
                    have wx249 := ti_full x249
                    replace g250 : x249.toInt = -1003 := g250
                    show MEvP _ none q_154 107 [(0, .ref 301), (1, .int t1), (2, .int t2), (3, .int t3)] [.int x249] _ _ _ _
                    have e258 : (fv P247 302 0).toInt = (fv Po 302 0).toInt := congrArg Int32.toInt (R253 302 0 (by omega))
                    have e259 : (fv P247 302 1).toInt = (fv Po 302 1).toInt := congrArg Int32.toInt (R253 302 1 (by omega))
                    have e260 : (fv P247 302 2).toInt = (fv Po 302 2).toInt := congrArg Int32.toInt (R253 302 2 (by omega))
                    have u257 : joinsM (sr Po) (sr P247) x249.toInt t1.toInt t2.toInt t3.toInt := (show (x249.toInt = -1001 ∧ ((t1.toInt < 0 ∨ (fv Po 302 (0)).toInt ≤ t1.toInt) ∨ (t2.toInt < 0 ∨ (fv Po 302 (0)).toInt ≤ t2.toInt) ∨ t1.toInt = t2.toInt) ∧ (∀ j : Nat, fv P247 302 j = fv Po 302 j)) ∨ (x249.toInt = -1002 ∧ (0 ≤ t1.toInt ∧ t1.toInt + 1 ≤ (fv Po 302 (0)).toInt ∧ t1.toInt ≤ 7) ∧ (0 ≤ t2.toInt ∧ t2.toInt + 1 ≤ (fv Po 302 (0)).toInt ∧ t2.toInt ≤ 7) ∧ ¬ t1.toInt = t2.toInt ∧ (t3.toInt < 0 ∨ 2 < t3.toInt) ∧ (∀ j : Nat, fv P247 302 j = fv Po 302 j)) ∨ (x249.toInt = -1003 ∧ (0 ≤ t1.toInt ∧ t1.toInt + 1 ≤ (fv Po 302 (0)).toInt ∧ t1.toInt ≤ 7) ∧ (0 ≤ t2.toInt ∧ t2.toInt + 1 ≤ (fv Po 302 (0)).toInt ∧ t2.toInt ≤ 7) ∧ ¬ t1.toInt = t2.toInt ∧ (0 ≤ t3.toInt ∧ t3.toInt ≤ 2) ∧ ((fv Po 302 (5 + 19 * t1.toInt.toNat)).toInt = 1 ∨ (fv Po 302 (5 + 19 * t2.toInt.toNat)).toInt = 1 ∨ (fv Po 302 (3 + 19 * t1.toInt.toNat)).toInt = 1 ∨ (fv Po 302 (3 + 19 * t2.toInt.toNat)).toInt = 1 ∨ 7 < (fv Po 302 (4 + 19 * t1.toInt.toNat)).toInt + (fv Po 302 (4 + 19 * t2.toInt.toNat)).toInt) ∧ (∀ j : Nat, fv P247 302 j = fv Po 302 j)) ∨ ((0 ≤ t1.toInt ∧ t1.toInt + 1 ≤ (fv Po 302 (0)).toInt ∧ t1.toInt ≤ 7) ∧ (0 ≤ t2.toInt ∧ t2.toInt + 1 ≤ (fv Po 302 (0)).toInt ∧ t2.toInt ≤ 7) ∧ ¬ t1.toInt = t2.toInt ∧ (0 ≤ t3.toInt ∧ t3.toInt ≤ 2) ∧ (¬ (fv Po 302 (5 + 19 * t1.toInt.toNat)).toInt = 1 ∧ ¬ (fv Po 302 (5 + 19 * t2.toInt.toNat)).toInt = 1 ∧ (fv Po 302 (3 + 19 * t1.toInt.toNat)).toInt = 0 ∧ (fv Po 302 (3 + 19 * t2.toInt.toNat)).toInt = 0 ∧ (fv Po 302 (4 + 19 * t1.toInt.toNat)).toInt + (fv Po 302 (4 + 19 * t2.toInt.toNat)).toInt ≤ 7) ∧ x249.toInt = (fv Po 302 (4 + 19 * t1.toInt.toNat)).toInt + (fv Po 302 (4 + 19 * t2.toInt.toNat)).toInt ∧ (fv P247 302 (0)).toInt = (fv Po 302 (0)).toInt - 1 ∧ (∃ m : Nat → Int32, (∀ j : Nat, j < ((fv Po 302 (4 + 19 * t2.toInt.toNat)).toInt).toNat → m (6 + 19 * t1.toInt.toNat + ((fv Po 302 (4 + 19 * t1.toInt.toNat)).toInt).toNat + j) = fv Po 302 (6 + 19 * t2.toInt.toNat + j)) ∧ (m (13 + 19 * t1.toInt.toNat + ((fv Po 302 (4 + 19 * t1.toInt.toNat)).toInt).toNat)).toInt = t3.toInt ∧ (∀ j : Nat, 1 ≤ j → j < ((fv Po 302 (4 + 19 * t2.toInt.toNat)).toInt).toNat → m (13 + 19 * t1.toInt.toNat + ((fv Po 302 (4 + 19 * t1.toInt.toNat)).toInt).toNat + j) = fv Po 302 (13 + 19 * t2.toInt.toNat + j)) ∧ (m (4 + 19 * t1.toInt.toNat)).toInt = (fv Po 302 (4 + 19 * t1.toInt.toNat)).toInt + (fv Po 302 (4 + 19 * t2.toInt.toNat)).toInt ∧ (∀ j : Nat, ¬ j = 4 + 19 * t1.toInt.toNat → ¬ (6 + 19 * t1.toInt.toNat + ((fv Po 302 (4 + 19 * t1.toInt.toNat)).toInt).toNat ≤ j ∧ j < 6 + 19 * t1.toInt.toNat + ((fv Po 302 (4 + 19 * t1.toInt.toNat)).toInt).toNat + ((fv Po 302 (4 + 19 * t2.toInt.toNat)).toInt).toNat) → ¬ (13 + 19 * t1.toInt.toNat + ((fv Po 302 (4 + 19 * t1.toInt.toNat)).toInt).toNat ≤ j ∧ j < 13 + 19 * t1.toInt.toNat + ((fv Po 302 (4 + 19 * t1.toInt.toNat)).toInt).toNat + ((fv Po 302 (4 + 19 * t2.toInt.toNat)).toInt).toNat) → m j = fv Po 302 j) ∧ ∀ j : Nat, 1 ≤ j → fv P247 302 j = if 3 + 19 * t2.toInt.toNat ≤ j ∧ j < 3 + 19 * ((fv Po 302 (0)).toInt - 1).toNat then m (j + 19) else m j)) from Or.inr (Or.inr (Or.inl (⟨by omega, by omega, by omega, by omega, by omega, by omega, fun j => by rw [R253 302 j (by omega)]⟩))))
                    exact mp_iret ⟨⟨_, rfl, u257⟩, hT251, k254, R256⟩ dX7_joins_107 (Or.inl rfl)
            · have c84 : x80.toInt ≠ 0 := ti_eq_n c84
              refine mp_a (a_aload_n dX7_joins_54 rfl) (mpp 55 rfl ?_)
              refine mp_a (a_iconst (v := 2) dX7_joins_55 rfl) (mpp 56 rfl ?_)
              refine mp_a (a_aload_n dX7_joins_56 rfl) (mpp 57 rfl ?_)
              refine mp_a (a_iload_n dX7_joins_57 rfl) (mpp 58 rfl ?_)
              have p261 : 0 ≤ t1.toInt := by omega
              have p262 : t1.toInt ≤ 7 := by omega
              refine mt_callv (i := 130) (q' := q_145) (As := [.int t1]) (rest := [.int 2, .ref 301]) hT dX7_joins_58 rfl qm_145 (by decide) rfl rl_301 (by decide) rfl (Nat.le_of_ble_eq_true rfl) rfl ⟨rfl, rfl⟩ ⟨Nat.le_of_ble_eq_true rfl, Nat.le_of_ble_eq_true rfl⟩ (EvP.mono (by decide) (c_M_isFolded hT p261 p262 )) (fun r263 P264 g265 => mpp 61 rfl ?_)
              obtain ⟨⟨x266, rfl, g267⟩, e268⟩ := g265
              have e268 := e268.symm
              subst e268
              have wx266 := ti_full x266
              replace g267 : 0 ≤ x266.toInt ∧ x266.toInt ≤ 1 ∧ ((x266.toInt = 1 ∧ (fv Po 302 (5 + 19 * t1.toInt.toNat)).toInt = 1) ∨ (x266.toInt = 0 ∧ (fv Po 302 (5 + 19 * t1.toInt.toNat)).toInt ≠ 1)) := g267
              show MEvP _ none q_154 61 [(0, .ref 301), (1, .int t1), (2, .int t2), (3, .int t3)] [.int x266, .int 2, .ref 301] _ _ _ _
              refine mp_Tb (t := 68) (j_if_eq dX7_joins_61) (by decide) (fun c269 => ?_) (fun c269 => mpp 64 rfl ?_)
              · have c269 : x266.toInt = 0 := ti_eq c269
                refine mp_a (a_iload_n dX7_joins_68 rfl) (mpp 69 rfl ?_)
                refine mt_callv (i := 101) (q' := q_134) (As := [.int 2, .int t2]) (rest := []) hT dX7_joins_69 rfl qm_134 (by decide) rfl rl_301 (by decide) rfl (Nat.le_of_ble_eq_true rfl) rfl ⟨rfl, rfl⟩ ⟨Nat.le_of_ble_eq_true rfl, Nat.le_of_ble_eq_true rfl⟩ (EvP.mono (by decide) (c_M_refuses hT )) (fun r270 P271 g272 => mpp 72 rfl ?_)
                obtain ⟨⟨x273, rfl, g274⟩, hT275, k276, R277⟩ := g272
                have k278 : KW [1093, 1094, 1152] Po P271 := KW.trans KW.refl k276 rfl
                have R280 := Rel.kw hR k276 rfl
                have wx273 := ti_full x273
                replace g274 : x273.toInt = -1003 := g274
                show MEvP _ none q_154 72 [(0, .ref 301), (1, .int t1), (2, .int t2), (3, .int t3)] [.int x273] _ _ _ _
                have e282 : (fv P271 302 0).toInt = (fv Po 302 0).toInt := congrArg Int32.toInt (R277 302 0 (by omega))
                have e283 : (fv P271 302 1).toInt = (fv Po 302 1).toInt := congrArg Int32.toInt (R277 302 1 (by omega))
                have e284 : (fv P271 302 2).toInt = (fv Po 302 2).toInt := congrArg Int32.toInt (R277 302 2 (by omega))
                have u281 : joinsM (sr Po) (sr P271) x273.toInt t1.toInt t2.toInt t3.toInt := (show (x273.toInt = -1001 ∧ ((t1.toInt < 0 ∨ (fv Po 302 (0)).toInt ≤ t1.toInt) ∨ (t2.toInt < 0 ∨ (fv Po 302 (0)).toInt ≤ t2.toInt) ∨ t1.toInt = t2.toInt) ∧ (∀ j : Nat, fv P271 302 j = fv Po 302 j)) ∨ (x273.toInt = -1002 ∧ (0 ≤ t1.toInt ∧ t1.toInt + 1 ≤ (fv Po 302 (0)).toInt ∧ t1.toInt ≤ 7) ∧ (0 ≤ t2.toInt ∧ t2.toInt + 1 ≤ (fv Po 302 (0)).toInt ∧ t2.toInt ≤ 7) ∧ ¬ t1.toInt = t2.toInt ∧ (t3.toInt < 0 ∨ 2 < t3.toInt) ∧ (∀ j : Nat, fv P271 302 j = fv Po 302 j)) ∨ (x273.toInt = -1003 ∧ (0 ≤ t1.toInt ∧ t1.toInt + 1 ≤ (fv Po 302 (0)).toInt ∧ t1.toInt ≤ 7) ∧ (0 ≤ t2.toInt ∧ t2.toInt + 1 ≤ (fv Po 302 (0)).toInt ∧ t2.toInt ≤ 7) ∧ ¬ t1.toInt = t2.toInt ∧ (0 ≤ t3.toInt ∧ t3.toInt ≤ 2) ∧ ((fv Po 302 (5 + 19 * t1.toInt.toNat)).toInt = 1 ∨ (fv Po 302 (5 + 19 * t2.toInt.toNat)).toInt = 1 ∨ (fv Po 302 (3 + 19 * t1.toInt.toNat)).toInt = 1 ∨ (fv Po 302 (3 + 19 * t2.toInt.toNat)).toInt = 1 ∨ 7 < (fv Po 302 (4 + 19 * t1.toInt.toNat)).toInt + (fv Po 302 (4 + 19 * t2.toInt.toNat)).toInt) ∧ (∀ j : Nat, fv P271 302 j = fv Po 302 j)) ∨ ((0 ≤ t1.toInt ∧ t1.toInt + 1 ≤ (fv Po 302 (0)).toInt ∧ t1.toInt ≤ 7) ∧ (0 ≤ t2.toInt ∧ t2.toInt + 1 ≤ (fv Po 302 (0)).toInt ∧ t2.toInt ≤ 7) ∧ ¬ t1.toInt = t2.toInt ∧ (0 ≤ t3.toInt ∧ t3.toInt ≤ 2) ∧ (¬ (fv Po 302 (5 + 19 * t1.toInt.toNat)).toInt = 1 ∧ ¬ (fv Po 302 (5 + 19 * t2.toInt.toNat)).toInt = 1 ∧ (fv Po 302 (3 + 19 * t1.toInt.toNat)).toInt = 0 ∧ (fv Po 302 (3 + 19 * t2.toInt.toNat)).toInt = 0 ∧ (fv Po 302 (4 + 19 * t1.toInt.toNat)).toInt + (fv Po 302 (4 + 19 * t2.toInt.toNat)).toInt ≤ 7) ∧ x273.toInt = (fv Po 302 (4 + 19 * t1.toInt.toNat)).toInt + (fv Po 302 (4 + 19 * t2.toInt.toNat)).toInt ∧ (fv P271 302 (0)).toInt = (fv Po 302 (0)).toInt - 1 ∧ (∃ m : Nat → Int32, (∀ j : Nat, j < ((fv Po 302 (4 + 19 * t2.toInt.toNat)).toInt).toNat → m (6 + 19 * t1.toInt.toNat + ((fv Po 302 (4 + 19 * t1.toInt.toNat)).toInt).toNat + j) = fv Po 302 (6 + 19 * t2.toInt.toNat + j)) ∧ (m (13 + 19 * t1.toInt.toNat + ((fv Po 302 (4 + 19 * t1.toInt.toNat)).toInt).toNat)).toInt = t3.toInt ∧ (∀ j : Nat, 1 ≤ j → j < ((fv Po 302 (4 + 19 * t2.toInt.toNat)).toInt).toNat → m (13 + 19 * t1.toInt.toNat + ((fv Po 302 (4 + 19 * t1.toInt.toNat)).toInt).toNat + j) = fv Po 302 (13 + 19 * t2.toInt.toNat + j)) ∧ (m (4 + 19 * t1.toInt.toNat)).toInt = (fv Po 302 (4 + 19 * t1.toInt.toNat)).toInt + (fv Po 302 (4 + 19 * t2.toInt.toNat)).toInt ∧ (∀ j : Nat, ¬ j = 4 + 19 * t1.toInt.toNat → ¬ (6 + 19 * t1.toInt.toNat + ((fv Po 302 (4 + 19 * t1.toInt.toNat)).toInt).toNat ≤ j ∧ j < 6 + 19 * t1.toInt.toNat + ((fv Po 302 (4 + 19 * t1.toInt.toNat)).toInt).toNat + ((fv Po 302 (4 + 19 * t2.toInt.toNat)).toInt).toNat) → ¬ (13 + 19 * t1.toInt.toNat + ((fv Po 302 (4 + 19 * t1.toInt.toNat)).toInt).toNat ≤ j ∧ j < 13 + 19 * t1.toInt.toNat + ((fv Po 302 (4 + 19 * t1.toInt.toNat)).toInt).toNat + ((fv Po 302 (4 + 19 * t2.toInt.toNat)).toInt).toNat) → m j = fv Po 302 j) ∧ ∀ j : Nat, 1 ≤ j → fv P271 302 j = if 3 + 19 * t2.toInt.toNat ≤ j ∧ j < 3 + 19 * ((fv Po 302 (0)).toInt - 1).toNat then m (j + 19) else m j)) from Or.inr (Or.inr (Or.inl (⟨by omega, by omega, by omega, by omega, by omega, by omega, fun j => by rw [R277 302 j (by omega)]⟩))))
                exact mp_iret ⟨⟨_, rfl, u281⟩, hT275, k278, R280⟩ dX7_joins_72 (Or.inl rfl)
              · have c269 : x266.toInt ≠ 0 := ti_eq_n c269
                refine mp_a (a_iload_n dX7_joins_64 rfl) (mpp 65 rfl ?_)
                refine mp_a (a_goto (t := 69) dX7_joins_65 (by decide)) ?_
                refine mt_callv (i := 101) (q' := q_134) (As := [.int 2, .int t1]) (rest := []) hT dX7_joins_69 rfl qm_134 (by decide) rfl rl_301 (by decide) rfl (Nat.le_of_ble_eq_true rfl) rfl ⟨rfl, rfl⟩ ⟨Nat.le_of_ble_eq_true rfl, Nat.le_of_ble_eq_true rfl⟩ (EvP.mono (by decide) (c_M_refuses hT )) (fun r285 P286 g287 => mpp 72 rfl ?_)
                obtain ⟨⟨x288, rfl, g289⟩, hT290, k291, R292⟩ := g287
                have k293 : KW [1093, 1094, 1152] Po P286 := KW.trans KW.refl k291 rfl
                have R295 := Rel.kw hR k291 rfl
                have wx288 := ti_full x288
                replace g289 : x288.toInt = -1003 := g289
                show MEvP _ none q_154 72 [(0, .ref 301), (1, .int t1), (2, .int t2), (3, .int t3)] [.int x288] _ _ _ _
                have e297 : (fv P286 302 0).toInt = (fv Po 302 0).toInt := congrArg Int32.toInt (R292 302 0 (by omega))
                have e298 : (fv P286 302 1).toInt = (fv Po 302 1).toInt := congrArg Int32.toInt (R292 302 1 (by omega))
                have e299 : (fv P286 302 2).toInt = (fv Po 302 2).toInt := congrArg Int32.toInt (R292 302 2 (by omega))
                have u296 : joinsM (sr Po) (sr P286) x288.toInt t1.toInt t2.toInt t3.toInt := (show (x288.toInt = -1001 ∧ ((t1.toInt < 0 ∨ (fv Po 302 (0)).toInt ≤ t1.toInt) ∨ (t2.toInt < 0 ∨ (fv Po 302 (0)).toInt ≤ t2.toInt) ∨ t1.toInt = t2.toInt) ∧ (∀ j : Nat, fv P286 302 j = fv Po 302 j)) ∨ (x288.toInt = -1002 ∧ (0 ≤ t1.toInt ∧ t1.toInt + 1 ≤ (fv Po 302 (0)).toInt ∧ t1.toInt ≤ 7) ∧ (0 ≤ t2.toInt ∧ t2.toInt + 1 ≤ (fv Po 302 (0)).toInt ∧ t2.toInt ≤ 7) ∧ ¬ t1.toInt = t2.toInt ∧ (t3.toInt < 0 ∨ 2 < t3.toInt) ∧ (∀ j : Nat, fv P286 302 j = fv Po 302 j)) ∨ (x288.toInt = -1003 ∧ (0 ≤ t1.toInt ∧ t1.toInt + 1 ≤ (fv Po 302 (0)).toInt ∧ t1.toInt ≤ 7) ∧ (0 ≤ t2.toInt ∧ t2.toInt + 1 ≤ (fv Po 302 (0)).toInt ∧ t2.toInt ≤ 7) ∧ ¬ t1.toInt = t2.toInt ∧ (0 ≤ t3.toInt ∧ t3.toInt ≤ 2) ∧ ((fv Po 302 (5 + 19 * t1.toInt.toNat)).toInt = 1 ∨ (fv Po 302 (5 + 19 * t2.toInt.toNat)).toInt = 1 ∨ (fv Po 302 (3 + 19 * t1.toInt.toNat)).toInt = 1 ∨ (fv Po 302 (3 + 19 * t2.toInt.toNat)).toInt = 1 ∨ 7 < (fv Po 302 (4 + 19 * t1.toInt.toNat)).toInt + (fv Po 302 (4 + 19 * t2.toInt.toNat)).toInt) ∧ (∀ j : Nat, fv P286 302 j = fv Po 302 j)) ∨ ((0 ≤ t1.toInt ∧ t1.toInt + 1 ≤ (fv Po 302 (0)).toInt ∧ t1.toInt ≤ 7) ∧ (0 ≤ t2.toInt ∧ t2.toInt + 1 ≤ (fv Po 302 (0)).toInt ∧ t2.toInt ≤ 7) ∧ ¬ t1.toInt = t2.toInt ∧ (0 ≤ t3.toInt ∧ t3.toInt ≤ 2) ∧ (¬ (fv Po 302 (5 + 19 * t1.toInt.toNat)).toInt = 1 ∧ ¬ (fv Po 302 (5 + 19 * t2.toInt.toNat)).toInt = 1 ∧ (fv Po 302 (3 + 19 * t1.toInt.toNat)).toInt = 0 ∧ (fv Po 302 (3 + 19 * t2.toInt.toNat)).toInt = 0 ∧ (fv Po 302 (4 + 19 * t1.toInt.toNat)).toInt + (fv Po 302 (4 + 19 * t2.toInt.toNat)).toInt ≤ 7) ∧ x288.toInt = (fv Po 302 (4 + 19 * t1.toInt.toNat)).toInt + (fv Po 302 (4 + 19 * t2.toInt.toNat)).toInt ∧ (fv P286 302 (0)).toInt = (fv Po 302 (0)).toInt - 1 ∧ (∃ m : Nat → Int32, (∀ j : Nat, j < ((fv Po 302 (4 + 19 * t2.toInt.toNat)).toInt).toNat → m (6 + 19 * t1.toInt.toNat + ((fv Po 302 (4 + 19 * t1.toInt.toNat)).toInt).toNat + j) = fv Po 302 (6 + 19 * t2.toInt.toNat + j)) ∧ (m (13 + 19 * t1.toInt.toNat + ((fv Po 302 (4 + 19 * t1.toInt.toNat)).toInt).toNat)).toInt = t3.toInt ∧ (∀ j : Nat, 1 ≤ j → j < ((fv Po 302 (4 + 19 * t2.toInt.toNat)).toInt).toNat → m (13 + 19 * t1.toInt.toNat + ((fv Po 302 (4 + 19 * t1.toInt.toNat)).toInt).toNat + j) = fv Po 302 (13 + 19 * t2.toInt.toNat + j)) ∧ (m (4 + 19 * t1.toInt.toNat)).toInt = (fv Po 302 (4 + 19 * t1.toInt.toNat)).toInt + (fv Po 302 (4 + 19 * t2.toInt.toNat)).toInt ∧ (∀ j : Nat, ¬ j = 4 + 19 * t1.toInt.toNat → ¬ (6 + 19 * t1.toInt.toNat + ((fv Po 302 (4 + 19 * t1.toInt.toNat)).toInt).toNat ≤ j ∧ j < 6 + 19 * t1.toInt.toNat + ((fv Po 302 (4 + 19 * t1.toInt.toNat)).toInt).toNat + ((fv Po 302 (4 + 19 * t2.toInt.toNat)).toInt).toNat) → ¬ (13 + 19 * t1.toInt.toNat + ((fv Po 302 (4 + 19 * t1.toInt.toNat)).toInt).toNat ≤ j ∧ j < 13 + 19 * t1.toInt.toNat + ((fv Po 302 (4 + 19 * t1.toInt.toNat)).toInt).toNat + ((fv Po 302 (4 + 19 * t2.toInt.toNat)).toInt).toNat) → m j = fv Po 302 j) ∧ ∀ j : Nat, 1 ≤ j → fv P286 302 j = if 3 + 19 * t2.toInt.toNat ≤ j ∧ j < 3 + 19 * ((fv Po 302 (0)).toInt - 1).toNat then m (j + 19) else m j)) from Or.inr (Or.inr (Or.inl (⟨by omega, by omega, by omega, by omega, by omega, by omega, fun j => by rw [R292 302 j (by omega)]⟩))))
                exact mp_iret ⟨⟨_, rfl, u296⟩, hT290, k293, R295⟩ dX7_joins_72 (Or.inl rfl)
        · have c25 : x22.toInt = 0 := ti_ne_n c25
          refine mp_a (a_sipush (v := -1002) dX7_joins_34 rfl) (mpp 37 rfl ?_)
          have u300 : joinsM (sr Po) (sr Po) (-1002 : Int) t1.toInt t2.toInt t3.toInt := (show ((-1002 : Int) = -1001 ∧ ((t1.toInt < 0 ∨ (fv Po 302 (0)).toInt ≤ t1.toInt) ∨ (t2.toInt < 0 ∨ (fv Po 302 (0)).toInt ≤ t2.toInt) ∨ t1.toInt = t2.toInt) ∧ (∀ j : Nat, fv Po 302 j = fv Po 302 j)) ∨ ((-1002 : Int) = -1002 ∧ (0 ≤ t1.toInt ∧ t1.toInt + 1 ≤ (fv Po 302 (0)).toInt ∧ t1.toInt ≤ 7) ∧ (0 ≤ t2.toInt ∧ t2.toInt + 1 ≤ (fv Po 302 (0)).toInt ∧ t2.toInt ≤ 7) ∧ ¬ t1.toInt = t2.toInt ∧ (t3.toInt < 0 ∨ 2 < t3.toInt) ∧ (∀ j : Nat, fv Po 302 j = fv Po 302 j)) ∨ ((-1002 : Int) = -1003 ∧ (0 ≤ t1.toInt ∧ t1.toInt + 1 ≤ (fv Po 302 (0)).toInt ∧ t1.toInt ≤ 7) ∧ (0 ≤ t2.toInt ∧ t2.toInt + 1 ≤ (fv Po 302 (0)).toInt ∧ t2.toInt ≤ 7) ∧ ¬ t1.toInt = t2.toInt ∧ (0 ≤ t3.toInt ∧ t3.toInt ≤ 2) ∧ ((fv Po 302 (5 + 19 * t1.toInt.toNat)).toInt = 1 ∨ (fv Po 302 (5 + 19 * t2.toInt.toNat)).toInt = 1 ∨ (fv Po 302 (3 + 19 * t1.toInt.toNat)).toInt = 1 ∨ (fv Po 302 (3 + 19 * t2.toInt.toNat)).toInt = 1 ∨ 7 < (fv Po 302 (4 + 19 * t1.toInt.toNat)).toInt + (fv Po 302 (4 + 19 * t2.toInt.toNat)).toInt) ∧ (∀ j : Nat, fv Po 302 j = fv Po 302 j)) ∨ ((0 ≤ t1.toInt ∧ t1.toInt + 1 ≤ (fv Po 302 (0)).toInt ∧ t1.toInt ≤ 7) ∧ (0 ≤ t2.toInt ∧ t2.toInt + 1 ≤ (fv Po 302 (0)).toInt ∧ t2.toInt ≤ 7) ∧ ¬ t1.toInt = t2.toInt ∧ (0 ≤ t3.toInt ∧ t3.toInt ≤ 2) ∧ (¬ (fv Po 302 (5 + 19 * t1.toInt.toNat)).toInt = 1 ∧ ¬ (fv Po 302 (5 + 19 * t2.toInt.toNat)).toInt = 1 ∧ (fv Po 302 (3 + 19 * t1.toInt.toNat)).toInt = 0 ∧ (fv Po 302 (3 + 19 * t2.toInt.toNat)).toInt = 0 ∧ (fv Po 302 (4 + 19 * t1.toInt.toNat)).toInt + (fv Po 302 (4 + 19 * t2.toInt.toNat)).toInt ≤ 7) ∧ (-1002 : Int) = (fv Po 302 (4 + 19 * t1.toInt.toNat)).toInt + (fv Po 302 (4 + 19 * t2.toInt.toNat)).toInt ∧ (fv Po 302 (0)).toInt = (fv Po 302 (0)).toInt - 1 ∧ (∃ m : Nat → Int32, (∀ j : Nat, j < ((fv Po 302 (4 + 19 * t2.toInt.toNat)).toInt).toNat → m (6 + 19 * t1.toInt.toNat + ((fv Po 302 (4 + 19 * t1.toInt.toNat)).toInt).toNat + j) = fv Po 302 (6 + 19 * t2.toInt.toNat + j)) ∧ (m (13 + 19 * t1.toInt.toNat + ((fv Po 302 (4 + 19 * t1.toInt.toNat)).toInt).toNat)).toInt = t3.toInt ∧ (∀ j : Nat, 1 ≤ j → j < ((fv Po 302 (4 + 19 * t2.toInt.toNat)).toInt).toNat → m (13 + 19 * t1.toInt.toNat + ((fv Po 302 (4 + 19 * t1.toInt.toNat)).toInt).toNat + j) = fv Po 302 (13 + 19 * t2.toInt.toNat + j)) ∧ (m (4 + 19 * t1.toInt.toNat)).toInt = (fv Po 302 (4 + 19 * t1.toInt.toNat)).toInt + (fv Po 302 (4 + 19 * t2.toInt.toNat)).toInt ∧ (∀ j : Nat, ¬ j = 4 + 19 * t1.toInt.toNat → ¬ (6 + 19 * t1.toInt.toNat + ((fv Po 302 (4 + 19 * t1.toInt.toNat)).toInt).toNat ≤ j ∧ j < 6 + 19 * t1.toInt.toNat + ((fv Po 302 (4 + 19 * t1.toInt.toNat)).toInt).toNat + ((fv Po 302 (4 + 19 * t2.toInt.toNat)).toInt).toNat) → ¬ (13 + 19 * t1.toInt.toNat + ((fv Po 302 (4 + 19 * t1.toInt.toNat)).toInt).toNat ≤ j ∧ j < 13 + 19 * t1.toInt.toNat + ((fv Po 302 (4 + 19 * t1.toInt.toNat)).toInt).toNat + ((fv Po 302 (4 + 19 * t2.toInt.toNat)).toInt).toNat) → m j = fv Po 302 j) ∧ ∀ j : Nat, 1 ≤ j → fv Po 302 j = if 3 + 19 * t2.toInt.toNat ≤ j ∧ j < 3 + 19 * ((fv Po 302 (0)).toInt - 1).toNat then m (j + 19) else m j)) from Or.inr (Or.inl (⟨by omega, by omega, by omega, by omega, by omega, fun j => rfl⟩)))
          exact mp_iret ⟨⟨_, rfl, u300⟩, hT, KW.refl, hR⟩ dX7_joins_37 (Or.inl rfl)
      · have c18 : t1.toInt = t2.toInt := ti_ne_n c18
        refine mp_a (a_sipush (v := -1001) dX7_joins_21 rfl) (mpp 24 rfl ?_)
        have u301 : joinsM (sr Po) (sr Po) (-1001 : Int) t1.toInt t2.toInt t3.toInt := (show ((-1001 : Int) = -1001 ∧ ((t1.toInt < 0 ∨ (fv Po 302 (0)).toInt ≤ t1.toInt) ∨ (t2.toInt < 0 ∨ (fv Po 302 (0)).toInt ≤ t2.toInt) ∨ t1.toInt = t2.toInt) ∧ (∀ j : Nat, fv Po 302 j = fv Po 302 j)) ∨ ((-1001 : Int) = -1002 ∧ (0 ≤ t1.toInt ∧ t1.toInt + 1 ≤ (fv Po 302 (0)).toInt ∧ t1.toInt ≤ 7) ∧ (0 ≤ t2.toInt ∧ t2.toInt + 1 ≤ (fv Po 302 (0)).toInt ∧ t2.toInt ≤ 7) ∧ ¬ t1.toInt = t2.toInt ∧ (t3.toInt < 0 ∨ 2 < t3.toInt) ∧ (∀ j : Nat, fv Po 302 j = fv Po 302 j)) ∨ ((-1001 : Int) = -1003 ∧ (0 ≤ t1.toInt ∧ t1.toInt + 1 ≤ (fv Po 302 (0)).toInt ∧ t1.toInt ≤ 7) ∧ (0 ≤ t2.toInt ∧ t2.toInt + 1 ≤ (fv Po 302 (0)).toInt ∧ t2.toInt ≤ 7) ∧ ¬ t1.toInt = t2.toInt ∧ (0 ≤ t3.toInt ∧ t3.toInt ≤ 2) ∧ ((fv Po 302 (5 + 19 * t1.toInt.toNat)).toInt = 1 ∨ (fv Po 302 (5 + 19 * t2.toInt.toNat)).toInt = 1 ∨ (fv Po 302 (3 + 19 * t1.toInt.toNat)).toInt = 1 ∨ (fv Po 302 (3 + 19 * t2.toInt.toNat)).toInt = 1 ∨ 7 < (fv Po 302 (4 + 19 * t1.toInt.toNat)).toInt + (fv Po 302 (4 + 19 * t2.toInt.toNat)).toInt) ∧ (∀ j : Nat, fv Po 302 j = fv Po 302 j)) ∨ ((0 ≤ t1.toInt ∧ t1.toInt + 1 ≤ (fv Po 302 (0)).toInt ∧ t1.toInt ≤ 7) ∧ (0 ≤ t2.toInt ∧ t2.toInt + 1 ≤ (fv Po 302 (0)).toInt ∧ t2.toInt ≤ 7) ∧ ¬ t1.toInt = t2.toInt ∧ (0 ≤ t3.toInt ∧ t3.toInt ≤ 2) ∧ (¬ (fv Po 302 (5 + 19 * t1.toInt.toNat)).toInt = 1 ∧ ¬ (fv Po 302 (5 + 19 * t2.toInt.toNat)).toInt = 1 ∧ (fv Po 302 (3 + 19 * t1.toInt.toNat)).toInt = 0 ∧ (fv Po 302 (3 + 19 * t2.toInt.toNat)).toInt = 0 ∧ (fv Po 302 (4 + 19 * t1.toInt.toNat)).toInt + (fv Po 302 (4 + 19 * t2.toInt.toNat)).toInt ≤ 7) ∧ (-1001 : Int) = (fv Po 302 (4 + 19 * t1.toInt.toNat)).toInt + (fv Po 302 (4 + 19 * t2.toInt.toNat)).toInt ∧ (fv Po 302 (0)).toInt = (fv Po 302 (0)).toInt - 1 ∧ (∃ m : Nat → Int32, (∀ j : Nat, j < ((fv Po 302 (4 + 19 * t2.toInt.toNat)).toInt).toNat → m (6 + 19 * t1.toInt.toNat + ((fv Po 302 (4 + 19 * t1.toInt.toNat)).toInt).toNat + j) = fv Po 302 (6 + 19 * t2.toInt.toNat + j)) ∧ (m (13 + 19 * t1.toInt.toNat + ((fv Po 302 (4 + 19 * t1.toInt.toNat)).toInt).toNat)).toInt = t3.toInt ∧ (∀ j : Nat, 1 ≤ j → j < ((fv Po 302 (4 + 19 * t2.toInt.toNat)).toInt).toNat → m (13 + 19 * t1.toInt.toNat + ((fv Po 302 (4 + 19 * t1.toInt.toNat)).toInt).toNat + j) = fv Po 302 (13 + 19 * t2.toInt.toNat + j)) ∧ (m (4 + 19 * t1.toInt.toNat)).toInt = (fv Po 302 (4 + 19 * t1.toInt.toNat)).toInt + (fv Po 302 (4 + 19 * t2.toInt.toNat)).toInt ∧ (∀ j : Nat, ¬ j = 4 + 19 * t1.toInt.toNat → ¬ (6 + 19 * t1.toInt.toNat + ((fv Po 302 (4 + 19 * t1.toInt.toNat)).toInt).toNat ≤ j ∧ j < 6 + 19 * t1.toInt.toNat + ((fv Po 302 (4 + 19 * t1.toInt.toNat)).toInt).toNat + ((fv Po 302 (4 + 19 * t2.toInt.toNat)).toInt).toNat) → ¬ (13 + 19 * t1.toInt.toNat + ((fv Po 302 (4 + 19 * t1.toInt.toNat)).toInt).toNat ≤ j ∧ j < 13 + 19 * t1.toInt.toNat + ((fv Po 302 (4 + 19 * t1.toInt.toNat)).toInt).toNat + ((fv Po 302 (4 + 19 * t2.toInt.toNat)).toInt).toNat) → m j = fv Po 302 j) ∧ ∀ j : Nat, 1 ≤ j → fv Po 302 j = if 3 + 19 * t2.toInt.toNat ≤ j ∧ j < 3 + 19 * ((fv Po 302 (0)).toInt - 1).toNat then m (j + 19) else m j)) from Or.inl (⟨by omega, by omega, fun j => rfl⟩))
        exact mp_iret ⟨⟨_, rfl, u301⟩, hT, KW.refl, hR⟩ dX7_joins_24 (Or.inl rfl)

set_option maxHeartbeats 4000000 in
theorem c_M_join {Po : mP} {t1 : Int32} {t2 : Int32} {t3 : Int32} (hT : Typ Po) (hR : Rel Po)  : EvP 5 153 [.ref 301, .int t1, .int t2, .int t3] Po (fun r P' => (∃ x : Int32, r = some (.int x) ∧ (TOPM Po P' x.toInt ∧ joinsM (sr Po) (sr P') x.toInt t1.toInt t2.toInt t3.toInt)) ∧ Typ P' ∧ KW [1092, 1093, 1094, 1095, 1152, 1216, 1344] Po P' ∧ Rel P') := by
  refine EvP.of qm_153 (Nat.le_of_ble_eq_true rfl) rfl ?_
  show MEvP _ none q_153 0 [(0, .ref 301), (1, .int t1), (2, .int t2), (3, .int t3)] [] _ 0 0 _
  have w_t1 := ti_full t1
  have w_t2 := ti_full t2
  have w_t3 := ti_full t3
  refine mp_a (a_aload_n dX7_join_0 rfl) (mpp 1 rfl ?_)
  refine mt_callv (i := 117) (q' := q_124) (As := []) (rest := []) hT dX7_join_1 rfl qm_124 (by decide) rfl rl_301 (by decide) rfl (Nat.le_of_ble_eq_true rfl) rfl ⟨rfl, rfl⟩ ⟨Nat.le_of_ble_eq_true rfl, Nat.le_of_ble_eq_true rfl⟩ (EvP.mono (by decide) (c_M_keeps hT hR )) (fun r1 P2 g3 => mpp 4 rfl ?_)
  obtain ⟨⟨rfl, g5⟩, hT6, k7, R8r, R8⟩ := g3
  have k9 : KW [1092, 1093, 1094, 1095, 1152, 1216, 1344] Po P2 := KW.trans KW.refl k7 rfl
  show MEvP _ none q_153 4 [(0, .ref 301), (1, .int t1), (2, .int t2), (3, .int t3)] [] _ _ _ _
  refine mp_a (a_aload_n dX7_join_4 rfl) (mpp 5 rfl ?_)
  refine mp_a (a_aload_n dX7_join_5 rfl) (mpp 6 rfl ?_)
  refine mp_a (a_iload_n dX7_join_6 rfl) (mpp 7 rfl ?_)
  refine mp_a (a_iload_n dX7_join_7 rfl) (mpp 8 rfl ?_)
  refine mp_a (a_iload_n dX7_join_8 rfl) (mpp 9 rfl ?_)
  refine mt_callv (i := 152) (q' := q_154) (As := [.int t1, .int t2, .int t3]) (rest := [.ref 301]) hT6 dX7_join_9 rfl qm_154 (by decide) rfl rl_301 (by decide) rfl (Nat.le_of_ble_eq_true rfl) rfl ⟨rfl, rfl⟩ ⟨Nat.le_of_ble_eq_true rfl, Nat.le_of_ble_eq_true rfl⟩ (EvP.mono (by decide) (c_M_joins hT6 R8r )) (fun r11 P12 g13 => mpp 12 rfl ?_)
  obtain ⟨⟨x14, rfl, g15⟩, hT16, k17, R18⟩ := g13
  have k19 : KW [1092, 1093, 1094, 1095, 1152, 1216, 1344] Po P12 := KW.trans k9 k17 rfl
  have wx14 := ti_full x14
  replace g15 : joinsM (sr P2) (sr P12) x14.toInt t1.toInt t2.toInt t3.toInt := g15
  show MEvP _ none q_153 12 [(0, .ref 301), (1, .int t1), (2, .int t2), (3, .int t3)] [.int x14, .ref 301] _ _ _ _
  refine mt_callv (i := 124) (q' := q_139) (As := [.int x14]) (rest := []) hT16 dX7_join_12 rfl qm_139 (by decide) rfl rl_301 (by decide) rfl (Nat.le_of_ble_eq_true rfl) rfl ⟨rfl, rfl⟩ ⟨Nat.le_of_ble_eq_true rfl, Nat.le_of_ble_eq_true rfl⟩ (EvP.mono (by decide) (c_M_ends hT16 R18 )) (fun r21 P22 g23 => mpp 15 rfl ?_)
  obtain ⟨⟨x24, rfl, g25⟩, hT26, k27, R28r, R28⟩ := g23
  have k29 : KW [1092, 1093, 1094, 1095, 1152, 1216, 1344] Po P22 := KW.trans k19 k27 rfl
  have wx24 := ti_full x24
  replace g25 : x24.toInt = x14.toInt := g25
  show MEvP _ none q_153 15 [(0, .ref 301), (1, .int t1), (2, .int t2), (3, .int t3)] [.int x24] _ _ _ _
  have w32_a : sr P2 = sr Po := funext (fun j => R8.2 302 j (by omega))
  have w32_b : sr P12 = sr P22 := funext (fun j => (R28.2.2.1 302 j (by omega) (by omega) (by omega)).symm)
  have w32_g := g15
  rw [w32_a, w32_b] at w32_g
  have w32_x : x24.toInt = x14.toInt := by omega
  rw [← w32_x] at w32_g
  have w32_t : TOPM Po P22 x24.toInt := TOPM.mk R8.1 (fun j => KW.at k17 j rl_303 rfl) (fun j => KW.at k17 j rl_304 rfl) (fun j => KW.at k17 j rl_305 rfl) (fun j => KW.at k17 j rl_314 rfl) (KW.at k17 8 rl_301 rfl) (KW.at k17 4 rl_301 rfl) (KW.at k17 23 rl_301 rfl) (by rw [w32_x]; exact R28.1) (by rw [w32_x]; exact R28.2.1) R28.2.2.1
  have u31 : TOPM Po P22 x24.toInt ∧ joinsM (sr Po) (sr P22) x24.toInt t1.toInt t2.toInt t3.toInt := ⟨w32_t, w32_g⟩
  exact mp_iret ⟨⟨_, rfl, u31⟩, hT26, k29, R28r⟩ dX7_join_15 (Or.inl rfl)

set_option maxHeartbeats 4000000 in
theorem c_M_cuts_l108 {Po : mP} {t1 : Int32} {t2 : Int32}  : ∀ (n : Nat) (v3 : Int32) (v4 : Int32) (v5 : Int32) (v6 : Int32), ∀ (P : mP), Typ P → KW [1093, 1094, 1152, 1408, 1472] Po P → Rel P → (0 ≤ t1.toInt ∧ t1.toInt ≤ 7 ∧ 0 ≤ t2.toInt ∧ t2.toInt ≤ 7) → (v4.toInt = t2.toInt + 1 ∧ v5.toInt = (fv Po 302 (4 + 19 * t1.toInt.toNat)).toInt - (t2.toInt + 1) ∧ 2 ≤ v4.toInt ∧ 2 ≤ v5.toInt ∧ v4.toInt + v5.toInt ≤ 8) → (t1.toInt + 1 ≤ (fv Po 302 0).toInt ∧ (fv Po 302 0).toInt ≤ 7 ∧ (fv Po 302 (5 + 19 * t1.toInt.toNat)).toInt ≠ 1 ∧ (fv Po 302 (3 + 19 * t1.toInt.toNat)).toInt = 0 ∧ t2.toInt < (fv Po 302 (4 + 19 * t1.toInt.toNat)).toInt - 1) → (ROW Po P 306 (fun j : Nat => fv Po 302 (6 + 19 * t1.toInt.toNat + (t2.toInt + 1).toNat + j)) v6.toInt.toNat) → (ROW Po P 307 (fun j : Nat => if (j : Int) + 2 + t2.toInt < (fv Po 302 (4 + 19 * t1.toInt.toNat)).toInt then fv Po 302 (14 + 19 * t1.toInt.toNat + (t2.toInt + 1).toNat + j) else 0) v6.toInt.toNat) → (∀ j : Nat, fv P 302 j = fv Po 302 j) → (v6.toInt ≤ v5.toInt) → (0 ≤ v6.toInt) → (2147483647 - v6.toInt).toNat = n → MEvP 5 none q_157 108 [(0, .ref 301), (1, .int t1), (2, .int t2), (3, .int v3), (4, .int v4), (5, .int v5), (6, .int v6)] [] P 0 0 (fun r P' => (∃ x : Int32, r = some (.int x) ∧ (cutsM (sr Po) (sr P') x.toInt t1.toInt t2.toInt)) ∧ Typ P' ∧ KW [1093, 1094, 1152, 1408, 1472] Po P' ∧ Rel P') := by
  intro n
  induction n using Nat.strongRecOn with | _ n ih => ?_
  intro v3 v4 v5 v6 P hT hK hR i_0 i_1 i_2 i_3 i_4 i_5 i_6 i_7 hm
  have w_t1 := ti_full t1
  have w_t2 := ti_full t2
  have w_v3 := ti_full v3
  have w_v4 := ti_full v4
  have w_v5 := ti_full v5
  have w_v6 := ti_full v6
  refine mp_a (a_iload dX7_cuts_108 rfl) (mpp 110 rfl ?_)
  refine mp_a (a_iload dX7_cuts_110 rfl) (mpp 112 rfl ?_)
  refine mp_Tb (t := 168) (j_icmp_ge dX7_cuts_112) (by decide) (fun c1 => ?_) (fun c1 => mpp 115 rfl ?_)
  · have c1 : v6.toInt ≥ v5.toInt := ti_ge c1
    refine mp_a (a_aload_n dX7_cuts_168 rfl) (mpp 169 rfl ?_)
    refine mt_getU (i := 9) (k := 0) (A := 302) hT dX7_cuts_169 rfl rl_301 (by decide) rfl (by decide) rfl un_18 (mpp 172 rfl ?_)
    refine mp_a (a_iload_n dX7_cuts_172 rfl) (mpp 173 rfl ?_)
    refine mp_a (a_iconst (v := 1) dX7_cuts_173 rfl) (mpp 174 rfl ?_)
    have p2 : 0 ≤ t1.toInt := by omega
    have p3 : t1.toInt ≤ 8 := by omega
    have p4 : 0 ≤ (1 : Int) := by omega
    have p5 : (1 : Int) ≤ 20 := by omega
    refine mp_calls (i := 74) (q' := q_135) (As := [.int t1, .int 1]) (rest := [.ref 302]) dX7_cuts_174 rfl qm_135 (by decide) rfl (Nat.le_of_ble_eq_true rfl) rfl ⟨rfl, rfl⟩ ⟨Nat.le_of_ble_eq_true rfl, Nat.le_of_ble_eq_true rfl⟩ (EvP.mono (by decide) (c_M_at hT p2 p3 p4 p5 )) (fun r6 P7 g8 => mpp 177 rfl ?_)
    obtain ⟨⟨x9, rfl, g10⟩, e11⟩ := g8
    have e11 := e11.symm
    subst e11
    have wx9 := ti_full x9
    replace g10 : x9.toInt = 3 + 19 * t1.toInt + (1 : Int) := g10
    show MEvP _ none q_157 177 [(0, .ref 301), (1, .int t1), (2, .int t2), (3, .int v3), (4, .int v4), (5, .int v5), (6, .int v6)] [.int x9, .ref 302] _ _ _ _
    refine mp_a (a_iload dX7_cuts_177 rfl) (mpp 179 rfl ?_)
    refine mt_iasX (n := 155) hT dX7_cuts_179 rl_302 (by decide) rfl rfl (by omega) (by omega) ssp_0 (okS_mk (by omega) (fun _ => ⟨by omega, by omega⟩) (fun _ => ⟨by omega, by omega⟩)) (fun P12 hT13 f14 f15 f16 => mpp 180 rfl ?_)
    have k17 : KW [1093, 1094, 1152, 1408, 1472] Po P12 := KW.step hK rl_302 rfl f15 f16
    have R18 := Rel.siz hR (p := t1.toInt.toNat) f15 f14 (by omega) (by omega) ⟨by omega, by omega⟩
    refine mp_a (a_aload_n dX7_cuts_180 rfl) (mpp 181 rfl ?_)
    refine mp_a (a_iconst (v := 0) dX7_cuts_181 rfl) (mpp 182 rfl ?_)
    refine mp_a (a_iload dX7_cuts_182 rfl) (mpp 184 rfl ?_)
    have p19 : 0 ≤ (0 : Int) := by omega
    have p20 : (0 : Int) ≤ 1 := by omega
    have p21 : 2 ≤ v5.toInt := by omega
    have p22 : v5.toInt ≤ 8 := by omega
    have p23 : (0 : Int) ≠ 0 ∨ v5.toInt ≤ 7 := by omega
    refine mt_callv (i := 114) (q' := q_133) (As := [.int 0, .int v5]) (rest := []) hT13 dX7_cuts_184 rfl qm_133 (by decide) rfl rl_301 (by decide) rfl (Nat.le_of_ble_eq_true rfl) rfl ⟨rfl, rfl⟩ ⟨Nat.le_of_ble_eq_true rfl, Nat.le_of_ble_eq_true rfl⟩ (EvP.mono (by decide) (c_M_adds hT13 R18 p19 p20 p21 p22 p23 )) (fun r24 P25 g26 => mpp 187 rfl ?_)
    obtain ⟨⟨x27, rfl, g28⟩, hT29, k30, R31⟩ := g26
    have k32 : KW [1093, 1094, 1152, 1408, 1472] Po P25 := KW.trans k17 k30 rfl
    have wx27 := ti_full x27
    replace g28 : addsM (sr P12) (sr P25) (fun j : Nat => fv P12 306 j) (fun j : Nat => fv P12 307 j) x27.toInt (0 : Int) v5.toInt := g28
    show MEvP _ none q_157 187 [(0, .ref 301), (1, .int t1), (2, .int t2), (3, .int v3), (4, .int v4), (5, .int v5), (6, .int v6)] [.int x27] _ _ _ _
    have w35_a : ∀ j : Nat, ¬ j = 4 + 19 * t1.toInt.toNat → fv P12 302 j = fv Po 302 j := fun j hj => (f15 302 j (by omega)).trans (i_5 j)
    have w35_0 : (fv P12 302 0).toInt = (fv Po 302 0).toInt := congrArg Int32.toInt (w35_a 0 (by omega))
    have w35_t : (fv P12 302 (4 + 19 * t1.toInt.toNat)).toInt = t2.toInt + 1 := (congrArg (fun k => (fv P12 302 k).toInt) (show 4 + 19 * t1.toInt.toNat = x9.toInt.toNat from by omega)).trans ((congrArg Int32.toInt f14).trans (by omega))
    have w35_z : v6.toInt.toNat = ((fv Po 302 (4 + 19 * t1.toInt.toNat)).toInt - (t2.toInt + 1)).toNat := by omega
    have w35_ : cutsM (sr Po) (sr P25) x27.toInt t1.toInt t2.toInt := by
      rcases g28 with ⟨o1, o2, o3⟩ | ⟨o1, o2, o3, o4, o5, o6, o7, o8, o9⟩
      · exact absurd (show 8 ≤ (fv P12 302 0).toInt from o2) (by omega)
      · have on : (sr P12 0).toInt.toNat = (fv Po 302 0).toInt.toNat := (congrArg Int.toNat w35_0)
        rw [on] at o4 o5 o6 o7 o8 o9
        have o2 : x27.toInt = (fv P12 302 0).toInt := o2
        have o3 : (fv P25 302 0).toInt = (fv P12 302 0).toInt + 1 := o3
        refine Or.inr (Or.inr ⟨by show 0 ≤ _ ∧ _ + 1 ≤ (fv Po 302 0).toInt ∧ _; omega, by show 0 ≤ _ ∧ _ ≤ (7:Int) ∧ (((fv Po 302 (3 + 19 * t1.toInt.toNat)).toInt = 1 ∧ _ < (fv Po 302 (4 + 19 * t1.toInt.toNat)).toInt) ∨ ((fv Po 302 (3 + 19 * t1.toInt.toNat)).toInt = 0 ∧ _ < (fv Po 302 (4 + 19 * t1.toInt.toNat)).toInt - 1)); omega, by show (fv Po 302 0).toInt ≤ 7 ∧ ¬ (fv Po 302 (5 + 19 * t1.toInt.toNat)).toInt = 1 ∧ (fv Po 302 (3 + 19 * t1.toInt.toNat)).toInt = 0 ∧ 2 ≤ t2.toInt + 1 ∧ 2 ≤ (fv Po 302 (4 + 19 * t1.toInt.toNat)).toInt - (t2.toInt + 1); omega, by show _ = (fv Po 302 0).toInt; omega, by show (fv P25 302 0).toInt = (fv Po 302 0).toInt + 1; omega, ?_, o4, o5.trans (by show _ = (fv Po 302 (4 + 19 * t1.toInt.toNat)).toInt - (t2.toInt + 1); omega), o6, ?_, ?_, ?_⟩)
        · show (fv P25 302 (4 + 19 * t1.toInt.toNat)).toInt = _
          have q : fv P25 302 (4 + 19 * t1.toInt.toNat) = fv P12 302 (4 + 19 * t1.toInt.toNat) := o9 _ (by omega) (Or.inl (by omega))
          rw [q]; exact w35_t
        · intro k hk h2
          have h2 : (k : Int) < (fv Po 302 (4 + 19 * t1.toInt.toNat)).toInt - (t2.toInt + 1) := h2
          exact (o7 k hk (by omega)).trans ((show fv P12 306 k = fv P 306 k from f15 306 k (by omega)).trans (i_3.1 k (by omega)))
        · intro k hk h2
          have h2 : (k : Int) + 1 < (fv Po 302 (4 + 19 * t1.toInt.toNat)).toInt - (t2.toInt + 1) := h2
          exact (o8 k hk (by unfold nC; rw [if_pos (by omega)]; omega)).trans ((show fv P12 307 k = fv P 307 k from f15 307 k (by omega)).trans ((i_4.1 k (by omega)).trans (if_pos (by omega))))
        · intro j h0 h1 h2
          exact (o9 j h0 h2).trans (w35_a j h1)
    have u34 : cutsM (sr Po) (sr P25) x27.toInt t1.toInt t2.toInt := w35_
    exact mp_iret ⟨⟨_, rfl, u34⟩, hT29, k32, R31⟩ dX7_cuts_187 (Or.inl rfl)
  · have c1 : v6.toInt < v5.toInt := ti_ge_n c1
    refine mp_a (a_aload_n dX7_cuts_115 rfl) (mpp 116 rfl ?_)
    refine mt_getU (i := 22) (k := 9) (A := 306) hT dX7_cuts_116 rfl rl_301 (by decide) rfl (by decide) rfl un_22 (mpp 119 rfl ?_)
    refine mp_a (a_iload dX7_cuts_119 rfl) (mpp 121 rfl ?_)
    refine mp_a (a_aload_n dX7_cuts_121 rfl) (mpp 122 rfl ?_)
    refine mp_a (a_iload_n dX7_cuts_122 rfl) (mpp 123 rfl ?_)
    refine mp_a (a_iload dX7_cuts_123 rfl) (mpp 125 rfl ?_)
    refine mp_a (a_iload dX7_cuts_125 rfl) (mpp 127 rfl ?_)
    obtain ⟨z36, h37⟩ := ti_ex (v4 + v6 : Int32)
    have wz36 := ti_full z36
    refine mp_t (s_iadd (v := z36) dX7_cuts_127 h37) (mpp 128 rfl ?_)
    try have e38 : z36.toInt = v4.toInt + v6.toInt := ti_addz h37 rfl rfl (by omega) (by omega)
    have p39 : 0 ≤ t1.toInt := by omega
    have p40 : t1.toInt ≤ 7 := by omega
    have p41 : 0 ≤ z36.toInt := by omega
    have p42 : z36.toInt ≤ 7 := by omega
    refine mt_callv (i := 142) (q' := q_152) (As := [.int t1, .int z36]) (rest := [.int v6, .ref 306]) hT dX7_cuts_128 rfl qm_152 (by decide) rfl rl_301 (by decide) rfl (Nat.le_of_ble_eq_true rfl) rfl ⟨rfl, rfl⟩ ⟨Nat.le_of_ble_eq_true rfl, Nat.le_of_ble_eq_true rfl⟩ (EvP.mono (by decide) (c_M_sizeOf hT p39 p40 p41 p42 )) (fun r43 P44 g45 => mpp 131 rfl ?_)
    obtain ⟨⟨x46, rfl, g47⟩, e48⟩ := g45
    have e48 := e48.symm
    subst e48
    have wx46 := ti_full x46
    replace g47 : x46.toInt = (fv P 302 (6 + 19 * t1.toInt.toNat + z36.toInt.toNat)).toInt := g47
    show MEvP _ none q_157 131 [(0, .ref 301), (1, .int t1), (2, .int t2), (3, .int v3), (4, .int v4), (5, .int v5), (6, .int v6)] [.int x46, .int v6, .ref 306] _ _ _ _
    refine mt_ias (n := 8) hT dX7_cuts_131 rl_306 (by decide) rfl rfl (by omega) (by omega) rfl (ti_full x46) (fun P49 hT50 f51 f52 f53 => mpp 132 rfl ?_)
    have k54 : KW [1093, 1094, 1152, 1408, 1472] Po P49 := KW.step hK rl_306 rfl f52 f53
    have R55 := Rel.ne hR rl_306 rfl f52
    refine mp_a (a_aload_n dX7_cuts_132 rfl) (mpp 133 rfl ?_)
    refine mt_getU (i := 25) (k := 10) (A := 307) hT50 dX7_cuts_133 rfl rl_301 (by decide) rfl (by decide) rfl un_23 (mpp 136 rfl ?_)
    refine mp_a (a_iload dX7_cuts_136 rfl) (mpp 138 rfl ?_)
    refine mp_a (a_iload dX7_cuts_138 rfl) (mpp 140 rfl ?_)
    refine mp_a (a_iload dX7_cuts_140 rfl) (mpp 142 rfl ?_)
    refine mp_a (a_iconst (v := 1) dX7_cuts_142 rfl) (mpp 143 rfl ?_)
    obtain ⟨z56, h57⟩ := ti_ex (v5 - 1 : Int32)
    have wz56 := ti_full z56
    refine mp_t (s_isub (v := z56) dX7_cuts_143 h57) (mpp 144 rfl ?_)
    try have e58 : z56.toInt = v5.toInt - 1 := ti_subz h57 rfl rfl (by omega) (by omega)
    refine mp_Tb (t := 160) (j_icmp_ge dX7_cuts_144) (by decide) (fun c59 => ?_) (fun c59 => mpp 147 rfl ?_)
    · have c59 : v6.toInt ≥ z56.toInt := ti_ge c59
      refine mp_a (a_iconst (v := 0) dX7_cuts_160 rfl) (mpp 161 rfl ?_)
      refine mt_ias (n := 8) hT50 dX7_cuts_161 rl_307 (by decide) rfl rfl (by omega) (by omega) rfl (by decide) (fun P60 hT61 f62 f63 f64 => mpp 162 rfl ?_)
      have k65 : KW [1093, 1094, 1152, 1408, 1472] Po P60 := KW.step k54 rl_307 rfl f63 f64
      have R66 := Rel.ne R55 rl_307 rfl f63
      obtain ⟨z67, h68⟩ := ti_ex (v6 + 1 : Int32)
      have wz67 := ti_full z67
      refine mp_a (a_iinc (v := z67) (L' := [(6, .int z67), (0, .ref 301), (1, .int t1), (2, .int t2), (3, .int v3), (4, .int v4), (5, .int v5)]) dX7_cuts_162 (by decide) rfl h68 rfl) (mpp 165 rfl ?_)
      try have e69 : z67.toInt = v6.toInt + 1 := ti_addz h68 rfl rfl (by omega) (by omega)
      refine mp_a (a_goto (t := 108) dX7_cuts_165 (by decide)) ?_
      refine MEvP.less (L := [(0, .ref 301), (1, .int t1), (2, .int t2), (3, .int v3), (4, .int v4), (5, .int v5), (6, .int z67)]) rfl rfl ⟨rfl, rfl, rfl, rfl, rfl, rfl, rfl, trivial⟩ ?_
      have i70 : 0 ≤ t1.toInt ∧ t1.toInt ≤ 7 ∧ 0 ≤ t2.toInt ∧ t2.toInt ≤ 7 := by omega
      have i71 : v4.toInt = t2.toInt + 1 ∧ v5.toInt = (fv Po 302 (4 + 19 * t1.toInt.toNat)).toInt - (t2.toInt + 1) ∧ 2 ≤ v4.toInt ∧ 2 ≤ v5.toInt ∧ v4.toInt + v5.toInt ≤ 8 := by omega
      have i72 : t1.toInt + 1 ≤ (fv Po 302 0).toInt ∧ (fv Po 302 0).toInt ≤ 7 ∧ (fv Po 302 (5 + 19 * t1.toInt.toNat)).toInt ≠ 1 ∧ (fv Po 302 (3 + 19 * t1.toInt.toNat)).toInt = 0 ∧ t2.toInt < (fv Po 302 (4 + 19 * t1.toInt.toNat)).toInt - 1 := by omega
      have i73 : ROW Po P60 306 (fun j : Nat => fv Po 302 (6 + 19 * t1.toInt.toNat + (t2.toInt + 1).toNat + j)) z67.toInt.toNat := ROW.step (n := v6.toInt.toNat) (v := x46.toInt) i_3 (by omega) rfl (by rw [f63 306 v6.toInt.toNat (by omega)]; exact congrArg Int32.toInt f51) (by have q : fv P 302 (6 + 19 * t1.toInt.toNat + z36.toInt.toNat) = fv Po 302 (6 + 19 * t1.toInt.toNat + (t2.toInt + 1).toNat + v6.toInt.toNat) := (((i_5 _).trans (congrArg (fv Po 302) (by omega)))); show x46.toInt = (fv Po 302 (6 + 19 * t1.toInt.toNat + (t2.toInt + 1).toNat + v6.toInt.toNat)).toInt; rw [← q]; exact g47) (fun j hj => by rw [f63 306 j (by omega), f52 306 j (fun e => hj e.2)])
      have i74 : ROW Po P60 307 (fun j : Nat => if (j : Int) + 2 + t2.toInt < (fv Po 302 (4 + 19 * t1.toInt.toNat)).toInt then fv Po 302 (14 + 19 * t1.toInt.toNat + (t2.toInt + 1).toNat + j) else 0) z67.toInt.toNat := ROW.step (n := v6.toInt.toNat) (v := (0 : Int32).toInt) i_4 (by omega) rfl (congrArg Int32.toInt f62) (show (0 : Int32).toInt = (if ((v6.toInt.toNat : Nat) : Int) + 2 + t2.toInt < (fv Po 302 (4 + 19 * t1.toInt.toNat)).toInt then fv Po 302 (14 + 19 * t1.toInt.toNat + (t2.toInt + 1).toNat + v6.toInt.toNat) else 0).toInt from by rw [if_neg (by omega)]) (fun j hj => by rw [f63 307 j (fun e => hj e.2), f52 307 j (by omega)])
      have i75 : ∀ j : Nat, fv P60 302 j = fv Po 302 j := fun j => by rw [f63 302 j (by omega), f52 302 j (by omega)]; exact i_5 j
      have i76 : z67.toInt ≤ v5.toInt := by omega
      have i77 : 0 ≤ z67.toInt := by omega
      exact ih _ (by omega) _ _ _ _ P60 hT61 k65 R66 i70 i71 i72 i73 i74 i75 i76 i77 rfl
    · have c59 : v6.toInt < z56.toInt := ti_ge_n c59
      refine mp_a (a_aload_n dX7_cuts_147 rfl) (mpp 148 rfl ?_)
      refine mp_a (a_iload_n dX7_cuts_148 rfl) (mpp 149 rfl ?_)
      refine mp_a (a_iload dX7_cuts_149 rfl) (mpp 151 rfl ?_)
      refine mp_a (a_iload dX7_cuts_151 rfl) (mpp 153 rfl ?_)
      obtain ⟨z78, h79⟩ := ti_ex (v4 + v6 : Int32)
      have wz78 := ti_full z78
      refine mp_t (s_iadd (v := z78) dX7_cuts_153 h79) (mpp 154 rfl ?_)
      try have e80 : z78.toInt = v4.toInt + v6.toInt := ti_addz h79 rfl rfl (by omega) (by omega)
      have p81 : 0 ≤ t1.toInt := by omega
      have p82 : t1.toInt ≤ 7 := by omega
      have p83 : 0 ≤ z78.toInt := by omega
      have p84 : z78.toInt ≤ 7 := by omega
      refine mt_callv (i := 92) (q' := q_146) (As := [.int t1, .int z78]) (rest := [.int v6, .ref 307]) hT50 dX7_cuts_154 rfl qm_146 (by decide) rfl rl_301 (by decide) rfl (Nat.le_of_ble_eq_true rfl) rfl ⟨rfl, rfl⟩ ⟨Nat.le_of_ble_eq_true rfl, Nat.le_of_ble_eq_true rfl⟩ (EvP.mono (by decide) (c_M_creaseOf hT50 p81 p82 p83 p84 )) (fun r85 P86 g87 => mpp 157 rfl ?_)
      obtain ⟨⟨x88, rfl, g89⟩, e90⟩ := g87
      have e90 := e90.symm
      subst e90
      have wx88 := ti_full x88
      replace g89 : x88.toInt = (fv P49 302 (14 + 19 * t1.toInt.toNat + z78.toInt.toNat)).toInt := g89
      show MEvP _ none q_157 157 [(0, .ref 301), (1, .int t1), (2, .int t2), (3, .int v3), (4, .int v4), (5, .int v5), (6, .int v6)] [.int x88, .int v6, .ref 307] _ _ _ _
      refine mp_a (a_goto (t := 161) dX7_cuts_157 (by decide)) ?_
      refine mt_ias (n := 8) hT50 dX7_cuts_161 rl_307 (by decide) rfl rfl (by omega) (by omega) rfl (ti_full x88) (fun P91 hT92 f93 f94 f95 => mpp 162 rfl ?_)
      have k96 : KW [1093, 1094, 1152, 1408, 1472] Po P91 := KW.step k54 rl_307 rfl f94 f95
      have R97 := Rel.ne R55 rl_307 rfl f94
      obtain ⟨z98, h99⟩ := ti_ex (v6 + 1 : Int32)
      have wz98 := ti_full z98
      refine mp_a (a_iinc (v := z98) (L' := [(6, .int z98), (0, .ref 301), (1, .int t1), (2, .int t2), (3, .int v3), (4, .int v4), (5, .int v5)]) dX7_cuts_162 (by decide) rfl h99 rfl) (mpp 165 rfl ?_)
      try have e100 : z98.toInt = v6.toInt + 1 := ti_addz h99 rfl rfl (by omega) (by omega)
      refine mp_a (a_goto (t := 108) dX7_cuts_165 (by decide)) ?_
      refine MEvP.less (L := [(0, .ref 301), (1, .int t1), (2, .int t2), (3, .int v3), (4, .int v4), (5, .int v5), (6, .int z98)]) rfl rfl ⟨rfl, rfl, rfl, rfl, rfl, rfl, rfl, trivial⟩ ?_
      have i101 : 0 ≤ t1.toInt ∧ t1.toInt ≤ 7 ∧ 0 ≤ t2.toInt ∧ t2.toInt ≤ 7 := by omega
      have i102 : v4.toInt = t2.toInt + 1 ∧ v5.toInt = (fv Po 302 (4 + 19 * t1.toInt.toNat)).toInt - (t2.toInt + 1) ∧ 2 ≤ v4.toInt ∧ 2 ≤ v5.toInt ∧ v4.toInt + v5.toInt ≤ 8 := by omega
      have i103 : t1.toInt + 1 ≤ (fv Po 302 0).toInt ∧ (fv Po 302 0).toInt ≤ 7 ∧ (fv Po 302 (5 + 19 * t1.toInt.toNat)).toInt ≠ 1 ∧ (fv Po 302 (3 + 19 * t1.toInt.toNat)).toInt = 0 ∧ t2.toInt < (fv Po 302 (4 + 19 * t1.toInt.toNat)).toInt - 1 := by omega
      have i104 : ROW Po P91 306 (fun j : Nat => fv Po 302 (6 + 19 * t1.toInt.toNat + (t2.toInt + 1).toNat + j)) z98.toInt.toNat := ROW.step (n := v6.toInt.toNat) (v := x46.toInt) i_3 (by omega) rfl (by rw [f94 306 v6.toInt.toNat (by omega)]; exact congrArg Int32.toInt f51) (by have q : fv P 302 (6 + 19 * t1.toInt.toNat + z36.toInt.toNat) = fv Po 302 (6 + 19 * t1.toInt.toNat + (t2.toInt + 1).toNat + v6.toInt.toNat) := (((i_5 _).trans (congrArg (fv Po 302) (by omega)))); show x46.toInt = (fv Po 302 (6 + 19 * t1.toInt.toNat + (t2.toInt + 1).toNat + v6.toInt.toNat)).toInt; rw [← q]; exact g47) (fun j hj => by rw [f94 306 j (by omega), f52 306 j (fun e => hj e.2)])
      have i105 : ROW Po P91 307 (fun j : Nat => if (j : Int) + 2 + t2.toInt < (fv Po 302 (4 + 19 * t1.toInt.toNat)).toInt then fv Po 302 (14 + 19 * t1.toInt.toNat + (t2.toInt + 1).toNat + j) else 0) z98.toInt.toNat := ROW.step (n := v6.toInt.toNat) (v := x88.toInt) i_4 (by omega) rfl (congrArg Int32.toInt f93) (by have q : fv P49 302 (14 + 19 * t1.toInt.toNat + z78.toInt.toNat) = fv Po 302 (14 + 19 * t1.toInt.toNat + (t2.toInt + 1).toNat + v6.toInt.toNat) := ((f52 302 _ (by omega)).trans ((i_5 _).trans (congrArg (fv Po 302) (by omega)))); show x88.toInt = (if ((v6.toInt.toNat : Nat) : Int) + 2 + t2.toInt < (fv Po 302 (4 + 19 * t1.toInt.toNat)).toInt then fv Po 302 (14 + 19 * t1.toInt.toNat + (t2.toInt + 1).toNat + v6.toInt.toNat) else 0).toInt; rw [if_pos (by omega)]; rw [← q]; exact g89) (fun j hj => by rw [f94 307 j (fun e => hj e.2), f52 307 j (by omega)])
      have i106 : ∀ j : Nat, fv P91 302 j = fv Po 302 j := fun j => by rw [f94 302 j (by omega), f52 302 j (by omega)]; exact i_5 j
      have i107 : z98.toInt ≤ v5.toInt := by omega
      have i108 : 0 ≤ z98.toInt := by omega
      exact ih _ (by omega) _ _ _ _ P91 hT92 k96 R97 i101 i102 i103 i104 i105 i106 i107 i108 rfl

