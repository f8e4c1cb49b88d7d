/-! methods on typed pools, 42 (written by a program) -/
set_option maxHeartbeats 4000000 in
theorem c_M_fewest_l18 {Po : mP} {t1 : Int32}  : ∀ (n : Nat) (v2 : Int32) (v3 : Int32), ∀ (P : mP), Typ P → KW [1101, 1102, 1536, 1600] Po P → (0 ≤ t1.toInt) → (t1.toInt ≤ 7) → (0 ≤ v3.toInt) → (2147483647 - v3.toInt).toNat = n → MEvP 6 none q_181 18 [(0, .ref 301), (1, .int t1), (2, .int v2), (3, .int v3)] [] P 0 0 (fun r P' => (∃ x : Int32, r = some (.int x) ∧ (True)) ∧ Typ P' ∧ KW [1101, 1102, 1536, 1600] Po P' ∧ True) := by
  intro n
  induction n using Nat.strongRecOn with | _ n ih => ?_
  intro v2 v3 P hT hK i_0 i_1 i_2 hm
  have w_t1 := ti_full t1
  have w_v2 := ti_full v2
  have w_v3 := ti_full v3
  refine mp_a (a_iload_n dX7_fewest_18 rfl) (mpp 19 rfl ?_)
  refine mp_a (a_iconst (v := 1) dX7_fewest_19 rfl) (mpp 20 rfl ?_)
  refine mp_a (a_aload_n dX7_fewest_20 rfl) (mpp 21 rfl ?_)
  refine mp_a (a_iload_n dX7_fewest_21 rfl) (mpp 22 rfl ?_)
  have p1 : 0 ≤ t1.toInt := by omega
  have p2 : t1.toInt ≤ 7 := by omega
  refine mt_callv (i := 88) (q' := q_136) (As := [.int t1]) (rest := [.int 1, .int v3]) hT dX7_fewest_22 rfl qm_136 (by decide) rfl rl_301 (by decide) rfl (Nat.le_of_ble_eq_true rfl) rfl ⟨rfl, rfl⟩ ⟨Nat.le_of_ble_eq_true rfl, Nat.le_of_ble_eq_true rfl⟩ (EvP.mono (by decide) (c_M_creases hT p1 p2 )) (fun r3 P4 g5 => mpp 25 rfl ?_)
  obtain ⟨⟨x6, rfl, g7⟩, e8⟩ := g5
  have e8 := e8.symm
  subst e8
  have wx6 := ti_full x6
  replace g7 : -1 ≤ x6.toInt ∧ x6.toInt ≤ 8 ∧ (((fv P 302 (3 + 19 * t1.toInt.toNat)).toInt = 1 ∧ x6.toInt = (fv P 302 (4 + 19 * t1.toInt.toNat)).toInt) ∨ ((fv P 302 (3 + 19 * t1.toInt.toNat)).toInt = 0 ∧ x6.toInt = (fv P 302 (4 + 19 * t1.toInt.toNat)).toInt - 1)) := g7
  try have g9 : (0 : Int) ≤ (fv P 302 (3 + 19 * t1.toInt.toNat)).toInt ∧ (fv P 302 (3 + 19 * t1.toInt.toNat)).toInt ≤ 1 := s3_rng hT (by omega)
  try have g10 : (0 : Int) ≤ (fv P 302 (4 + 19 * t1.toInt.toNat)).toInt ∧ (fv P 302 (4 + 19 * t1.toInt.toNat)).toInt ≤ 8 := s4_rng hT (by omega)
  show MEvP _ none q_181 25 [(0, .ref 301), (1, .int t1), (2, .int v2), (3, .int v3)] [.int x6, .int 1, .int v3] _ _ _ _
  obtain ⟨z11, h12⟩ := ti_ex (1 <<< (x6 &&& 31) : Int32)
  have wz11 := ti_full z11
  refine mp_t (s_ishl (v := z11) dX7_fewest_25 h12) (mpp 26 rfl ?_)
  refine mp_Tb (t := 68) (j_icmp_ge dX7_fewest_26) (by decide) (fun c13 => ?_) (fun c13 => mpp 29 rfl ?_)
  · have c13 : v3.toInt ≥ z11.toInt := ti_ge c13
    refine mp_a (a_iload_n dX7_fewest_68 rfl) (mpp 69 rfl ?_)
    exact mp_iret ⟨⟨_, rfl, trivial⟩, hT, hK, trivial⟩ dX7_fewest_69 (Or.inl rfl)
  · have c13 : v3.toInt < z11.toInt := ti_ge_n c13
    refine mp_a (a_aload_n dX7_fewest_29 rfl) (mpp 30 rfl ?_)
    refine mp_a (a_iload_n dX7_fewest_30 rfl) (mpp 31 rfl ?_)
    refine mp_a (a_iload_n dX7_fewest_31 rfl) (mpp 32 rfl ?_)
    have p14 : 0 ≤ t1.toInt := by omega
    have p15 : t1.toInt ≤ 7 := by omega
    refine mt_callv (i := 219) (q' := q_178) (As := [.int t1, .int v3]) (rest := []) hT dX7_fewest_32 rfl qm_178 (by decide) rfl rl_301 (by decide) rfl (Nat.le_of_ble_eq_true rfl) rfl ⟨rfl, rfl⟩ ⟨Nat.le_of_ble_eq_true rfl, Nat.le_of_ble_eq_true rfl⟩ (EvP.mono (by decide) (c_M_otherwise hT p14 p15 )) (fun r16 P17 g18 => mpp 35 rfl ?_)
    obtain ⟨⟨x19, rfl, g20⟩, e21⟩ := g18
    have e21 := e21.symm
    subst e21
    have wx19 := ti_full x19
    show MEvP _ none q_181 35 [(0, .ref 301), (1, .int t1), (2, .int v2), (3, .int v3)] [.int x19] _ _ _ _
    refine mp_a (a_istore (L' := [(4, .int x19), (0, .ref 301), (1, .int t1), (2, .int v2), (3, .int v3)]) dX7_fewest_35 (by decide) rfl) (mpp 37 rfl ?_)
    refine mp_a (a_iload_n dX7_fewest_37 rfl) (mpp 38 rfl ?_)
    refine mp_a (a_sipush (v := -1004) dX7_fewest_38 rfl) (mpp 41 rfl ?_)
    refine mp_Tb (t := 50) (j_icmp_eq dX7_fewest_41) (by decide) (fun c22 => ?_) (fun c22 => mpp 44 rfl ?_)
    · have c22 : v2.toInt = (-1004) := ti_eq c22
      refine mp_a (a_aload_n dX7_fewest_50 rfl) (mpp 51 rfl ?_)
      refine mp_a (a_iload_n dX7_fewest_51 rfl) (mpp 52 rfl ?_)
      refine mp_a (a_iload_n dX7_fewest_52 rfl) (mpp 53 rfl ?_)
      have p23 : 0 ≤ t1.toInt := by omega
      have p24 : t1.toInt ≤ 7 := by omega
      refine mt_callv (i := 222) (q' := q_179) (As := [.int t1, .int v3]) (rest := []) hT dX7_fewest_53 rfl qm_179 (by decide) rfl rl_301 (by decide) rfl (Nat.le_of_ble_eq_true rfl) rfl ⟨rfl, rfl⟩ ⟨Nat.le_of_ble_eq_true rfl, Nat.le_of_ble_eq_true rfl⟩ (EvP.mono (by decide) (c_M_foldsBy hT p23 p24 )) (fun r25 P26 g27 => mpp 56 rfl ?_)
      obtain ⟨⟨x28, rfl, g29⟩, hT30, k31, R32⟩ := g27
      have k33 : KW [1101, 1102, 1536, 1600] Po P26 := KW.trans hK k31 rfl
      have wx28 := ti_full x28
      replace g29 : 0 ≤ x28.toInt ∧ x28.toInt ≤ 1 := g29
      show MEvP _ none q_181 56 [(4, .int x19), (0, .ref 301), (1, .int t1), (2, .int v2), (3, .int v3)] [.int x28] _ _ _ _
      refine mp_Tb (t := 62) (j_if_eq dX7_fewest_56) (by decide) (fun c35 => ?_) (fun c35 => mpp 59 rfl ?_)
      · have c35 : x28.toInt = 0 := ti_eq c35
        obtain ⟨z36, h37⟩ := ti_ex (v3 + 1 : Int32)
        have wz36 := ti_full z36
        refine mp_a (a_iinc (v := z36) (L' := [(3, .int z36), (4, .int x19), (0, .ref 301), (1, .int t1), (2, .int v2)]) dX7_fewest_62 (by decide) rfl h37 rfl) (mpp 65 rfl ?_)
        try have e38 : z36.toInt = v3.toInt + 1 := ti_addz h37 rfl rfl (by omega) (by omega)
        refine mp_a (a_goto (t := 18) dX7_fewest_65 (by decide)) ?_
        refine MEvP.less (L := [(0, .ref 301), (1, .int t1), (2, .int v2), (3, .int z36)]) rfl rfl ⟨rfl, rfl, rfl, rfl, trivial⟩ ?_
        have i39 : 0 ≤ t1.toInt := by omega
        have i40 : t1.toInt ≤ 7 := by omega
        have i41 : 0 ≤ z36.toInt := by omega
        exact ih _ (by omega) _ _ P26 hT30 k33 i39 i40 i41 rfl
      · have c35 : x28.toInt ≠ 0 := ti_eq_n c35
        refine mp_a (a_iload dX7_fewest_59 rfl) (mpp 61 rfl ?_)
        refine mp_a (a_istore_n (L' := [(2, .int x19), (4, .int x19), (0, .ref 301), (1, .int t1), (3, .int v3)]) dX7_fewest_61 (by decide) rfl) (mpp 62 rfl ?_)
        obtain ⟨z42, h43⟩ := ti_ex (v3 + 1 : Int32)
        have wz42 := ti_full z42
        refine mp_a (a_iinc (v := z42) (L' := [(3, .int z42), (2, .int x19), (4, .int x19), (0, .ref 301), (1, .int t1)]) dX7_fewest_62 (by decide) rfl h43 rfl) (mpp 65 rfl ?_)
        try have e44 : z42.toInt = v3.toInt + 1 := ti_addz h43 rfl rfl (by omega) (by omega)
        refine mp_a (a_goto (t := 18) dX7_fewest_65 (by decide)) ?_
        refine MEvP.less (L := [(0, .ref 301), (1, .int t1), (2, .int x19), (3, .int z42)]) rfl rfl ⟨rfl, rfl, rfl, rfl, trivial⟩ ?_
        have i45 : 0 ≤ t1.toInt := by omega
        have i46 : t1.toInt ≤ 7 := by omega
        have i47 : 0 ≤ z42.toInt := by omega
        exact ih _ (by omega) _ _ P26 hT30 k33 i45 i46 i47 rfl
    · have c22 : v2.toInt ≠ (-1004) := ti_eq_n c22
      refine mp_a (a_iload dX7_fewest_44 rfl) (mpp 46 rfl ?_)
      refine mp_a (a_iload_n dX7_fewest_46 rfl) (mpp 47 rfl ?_)
      refine mp_Tb (t := 62) (j_icmp_ge dX7_fewest_47) (by decide) (fun c48 => ?_) (fun c48 => mpp 50 rfl ?_)
      · have c48 : x19.toInt ≥ v2.toInt := ti_ge c48
        obtain ⟨z49, h50⟩ := ti_ex (v3 + 1 : Int32)
        have wz49 := ti_full z49
        refine mp_a (a_iinc (v := z49) (L' := [(3, .int z49), (4, .int x19), (0, .ref 301), (1, .int t1), (2, .int v2)]) dX7_fewest_62 (by decide) rfl h50 rfl) (mpp 65 rfl ?_)
        try have e51 : z49.toInt = v3.toInt + 1 := ti_addz h50 rfl rfl (by omega) (by omega)
        refine mp_a (a_goto (t := 18) dX7_fewest_65 (by decide)) ?_
        refine MEvP.less (L := [(0, .ref 301), (1, .int t1), (2, .int v2), (3, .int z49)]) rfl rfl ⟨rfl, rfl, rfl, rfl, trivial⟩ ?_
        have i52 : 0 ≤ t1.toInt := by omega
        have i53 : t1.toInt ≤ 7 := by omega
        have i54 : 0 ≤ z49.toInt := by omega
        exact ih _ (by omega) _ _ P hT hK i52 i53 i54 rfl
      · have c48 : x19.toInt < v2.toInt := ti_ge_n c48
        refine mp_a (a_aload_n dX7_fewest_50 rfl) (mpp 51 rfl ?_)
        refine mp_a (a_iload_n dX7_fewest_51 rfl) (mpp 52 rfl ?_)
        refine mp_a (a_iload_n dX7_fewest_52 rfl) (mpp 53 rfl ?_)
        have p55 : 0 ≤ t1.toInt := by omega
        have p56 : t1.toInt ≤ 7 := by omega
        refine mt_callv (i := 222) (q' := q_179) (As := [.int t1, .int v3]) (rest := []) hT dX7_fewest_53 rfl qm_179 (by decide) rfl rl_301 (by decide) rfl (Nat.le_of_ble_eq_true rfl) rfl ⟨rfl, rfl⟩ ⟨Nat.le_of_ble_eq_true rfl, Nat.le_of_ble_eq_true rfl⟩ (EvP.mono (by decide) (c_M_foldsBy hT p55 p56 )) (fun r57 P58 g59 => mpp 56 rfl ?_)
        obtain ⟨⟨x60, rfl, g61⟩, hT62, k63, R64⟩ := g59
        have k65 : KW [1101, 1102, 1536, 1600] Po P58 := KW.trans hK k63 rfl
        have wx60 := ti_full x60
        replace g61 : 0 ≤ x60.toInt ∧ x60.toInt ≤ 1 := g61
        show MEvP _ none q_181 56 [(4, .int x19), (0, .ref 301), (1, .int t1), (2, .int v2), (3, .int v3)] [.int x60] _ _ _ _
        refine mp_Tb (t := 62) (j_if_eq dX7_fewest_56) (by decide) (fun c67 => ?_) (fun c67 => mpp 59 rfl ?_)
        · have c67 : x60.toInt = 0 := ti_eq c67
          obtain ⟨z68, h69⟩ := ti_ex (v3 + 1 : Int32)
          have wz68 := ti_full z68
          refine mp_a (a_iinc (v := z68) (L' := [(3, .int z68), (4, .int x19), (0, .ref 301), (1, .int t1), (2, .int v2)]) dX7_fewest_62 (by decide) rfl h69 rfl) (mpp 65 rfl ?_)
          try have e70 : z68.toInt = v3.toInt + 1 := ti_addz h69 rfl rfl (by omega) (by omega)
          refine mp_a (a_goto (t := 18) dX7_fewest_65 (by decide)) ?_
          refine MEvP.less (L := [(0, .ref 301), (1, .int t1), (2, .int v2), (3, .int z68)]) rfl rfl ⟨rfl, rfl, rfl, rfl, trivial⟩ ?_
          have i71 : 0 ≤ t1.toInt := by omega
          have i72 : t1.toInt ≤ 7 := by omega
          have i73 : 0 ≤ z68.toInt := by omega
          exact ih _ (by omega) _ _ P58 hT62 k65 i71 i72 i73 rfl
        · have c67 : x60.toInt ≠ 0 := ti_eq_n c67
          refine mp_a (a_iload dX7_fewest_59 rfl) (mpp 61 rfl ?_)
          refine mp_a (a_istore_n (L' := [(2, .int x19), (4, .int x19), (0, .ref 301), (1, .int t1), (3, .int v3)]) dX7_fewest_61 (by decide) rfl) (mpp 62 rfl ?_)
          obtain ⟨z74, h75⟩ := ti_ex (v3 + 1 : Int32)
          have wz74 := ti_full z74
          refine mp_a (a_iinc (v := z74) (L' := [(3, .int z74), (2, .int x19), (4, .int x19), (0, .ref 301), (1, .int t1)]) dX7_fewest_62 (by decide) rfl h75 rfl) (mpp 65 rfl ?_)
          try have e76 : z74.toInt = v3.toInt + 1 := ti_addz h75 rfl rfl (by omega) (by omega)
          refine mp_a (a_goto (t := 18) dX7_fewest_65 (by decide)) ?_
          refine MEvP.less (L := [(0, .ref 301), (1, .int t1), (2, .int x19), (3, .int z74)]) rfl rfl ⟨rfl, rfl, rfl, rfl, trivial⟩ ?_
          have i77 : 0 ≤ t1.toInt := by omega
          have i78 : t1.toInt ≤ 7 := by omega
          have i79 : 0 ≤ z74.toInt := by omega
          exact ih _ (by omega) _ _ P58 hT62 k65 i77 i78 i79 rfl

set_option maxHeartbeats 4000000 in
theorem c_M_fewest {Po : mP} {t1 : Int32} (hT : Typ Po)   : EvP 7 181 [.ref 301, .int t1] Po (fun r P' => (∃ x : Int32, r = some (.int x) ∧ (True)) ∧ Typ P' ∧ KW [1101, 1102, 1536, 1600] Po P' ∧ True) := by
  refine EvP.of qm_181 (Nat.le_of_ble_eq_true rfl) rfl ?_
  show MEvP _ none q_181 0 [(0, .ref 301), (1, .int t1)] [] _ 0 0 _
  have w_t1 := ti_full t1
  refine mp_a (a_aload_n dX7_fewest_0 rfl) (mpp 1 rfl ?_)
  refine mp_a (a_iload_n dX7_fewest_1 rfl) (mpp 2 rfl ?_)
  refine mt_callv (i := 85) (q' := q_144) (As := [.int t1]) (rest := []) hT dX7_fewest_2 rfl qm_144 (by decide) rfl rl_301 (by decide) rfl (Nat.le_of_ble_eq_true rfl) rfl ⟨rfl, rfl⟩ ⟨Nat.le_of_ble_eq_true rfl, Nat.le_of_ble_eq_true rfl⟩ (EvP.mono (by decide) (c_M_isPiece hT )) (fun r1 P2 g3 => mpp 5 rfl ?_)
  obtain ⟨⟨x4, rfl, g5⟩, e6⟩ := g3
  have e6 := e6.symm
  subst e6
  have wx4 := ti_full x4
  replace g5 : 0 ≤ x4.toInt ∧ x4.toInt ≤ 1 ∧ ((x4.toInt = 1 ∧ 0 ≤ t1.toInt ∧ t1.toInt + 1 ≤ (fv Po 302 0).toInt ∧ t1.toInt ≤ 7) ∨ (x4.toInt = 0 ∧ (t1.toInt < 0 ∨ (fv Po 302 0).toInt ≤ t1.toInt))) := g5
  have g7 : (0 : Int) ≤ (fv Po 302 0).toInt ∧ (fv Po 302 0).toInt ≤ 8 := Typ.rng hT rl_302 (by decide) (by decide) rfl
  show MEvP _ none q_181 5 [(0, .ref 301), (1, .int t1)] [.int x4] _ _ _ _
  refine mp_Tb (t := 12) (j_if_ne dX7_fewest_5) (by decide) (fun c8 => ?_) (fun c8 => mpp 8 rfl ?_)
  · have c8 : x4.toInt ≠ 0 := ti_ne c8
    refine mp_a (a_sipush (v := -1004) dX7_fewest_12 rfl) (mpp 15 rfl ?_)
    refine mp_a (a_istore_n (L' := [(2, .int (-1004)), (0, .ref 301), (1, .int t1)]) dX7_fewest_15 (by decide) rfl) (mpp 16 rfl ?_)
    refine mp_a (a_iconst (v := 0) dX7_fewest_16 rfl) (mpp 17 rfl ?_)
    refine mp_a (a_istore_n (L' := [(3, .int 0), (2, .int (-1004)), (0, .ref 301), (1, .int t1)]) dX7_fewest_17 (by decide) rfl) (mpp 18 rfl ?_)
    refine MEvP.less (L := [(0, .ref 301), (1, .int t1), (2, .int (-1004)), (3, .int 0)]) rfl rfl ⟨rfl, rfl, rfl, rfl, trivial⟩ ?_
    have i9 : 0 ≤ t1.toInt := by omega
    have i10 : t1.toInt ≤ 7 := by omega
    have i11 : 0 ≤ (0 : Int) := by omega
    exact c_M_fewest_l18    _ _ _ Po hT KW.refl i9 i10 i11 rfl
  · have c8 : x4.toInt = 0 := ti_ne_n c8
    refine mp_a (a_sipush (v := -1001) dX7_fewest_8 rfl) (mpp 11 rfl ?_)
    exact mp_iret ⟨⟨_, rfl, trivial⟩, hT, KW.refl, trivial⟩ dX7_fewest_11 (Or.inl rfl)

set_option maxHeartbeats 4000000 in
theorem c_M_isStripWithout {Po : mP} {t1 : Int32} {t2 : Int32} {t3 : Int32} (hT : Typ Po)  (hp0 : 0 ≤ t1.toInt) (hp1 : t1.toInt ≤ 7)  : EvP 4 209 [.ref 301, .int t1, .int t2, .int t3] Po (fun r P' => (∃ x : Int32, r = some (.int x) ∧ (0 ≤ x.toInt ∧ x.toInt ≤ 1 ∧ (x.toInt = 1 ∨ (fv Po 302 (3 + 19 * t1.toInt.toNat)).toInt = 1 ∨ (0 ≤ t2.toInt ∧ t2.toInt ≤ t3.toInt)))) ∧ P' = Po) := by
  refine EvP.of qm_209 (Nat.le_of_ble_eq_true rfl) rfl ?_
  show MEvP _ none q_209 0 [(0, .ref 301), (1, .int t1), (2, .int t2), (3, .int t3)] [] _ 0 0 _
  have w_t1 := ti_full t1
  have w_t2 := ti_full t2
  have w_t3 := ti_full t3
  try have g1 : (0 : Int) ≤ (fv Po 302 (3 + 19 * t1.toInt.toNat)).toInt ∧ (fv Po 302 (3 + 19 * t1.toInt.toNat)).toInt ≤ 1 := s3_rng hT (by omega)
  refine mp_a (a_aload_n dX7_isStripWithout_0 rfl) (mpp 1 rfl ?_)
  refine mp_a (a_iload_n dX7_isStripWithout_1 rfl) (mpp 2 rfl ?_)
  have p2 : 0 ≤ t1.toInt := by omega
  have p3 : t1.toInt ≤ 7 := by omega
  refine mt_callv (i := 81) (q' := q_138) (As := [.int t1]) (rest := []) hT dX7_isStripWithout_2 rfl qm_138 (by decide) rfl rl_301 (by decide) rfl (Nat.le_of_ble_eq_true rfl) rfl ⟨rfl, rfl⟩ ⟨Nat.le_of_ble_eq_true rfl, Nat.le_of_ble_eq_true rfl⟩ (EvP.mono (by decide) (c_M_isCorner hT p2 p3 )) (fun r4 P5 g6 => mpp 5 rfl ?_)
  obtain ⟨⟨x7, rfl, g8⟩, e9⟩ := g6
  have e9 := e9.symm
  subst e9
  have wx7 := ti_full x7
  replace g8 : 0 ≤ x7.toInt ∧ x7.toInt ≤ 1 ∧ ((x7.toInt = 1 ∧ (fv Po 302 (3 + 19 * t1.toInt.toNat)).toInt = 1) ∨ (x7.toInt = 0 ∧ (fv Po 302 (3 + 19 * t1.toInt.toNat)).toInt = 0)) := g8
  show MEvP _ none q_209 5 [(0, .ref 301), (1, .int t1), (2, .int t2), (3, .int t3)] [.int x7] _ _ _ _
  refine mp_Tb (t := 21) (j_if_ne dX7_isStripWithout_5) (by decide) (fun c10 => ?_) (fun c10 => mpp 8 rfl ?_)
  · have c10 : x7.toInt ≠ 0 := ti_ne c10
    refine mp_a (a_iconst (v := 0) dX7_isStripWithout_21 rfl) (mpp 22 rfl ?_)
    have u11 : 0 ≤ (0 : Int) ∧ (0 : Int) ≤ 1 ∧ ((0 : Int) = 1 ∨ (fv Po 302 (3 + 19 * t1.toInt.toNat)).toInt = 1 ∨ (0 ≤ t2.toInt ∧ t2.toInt ≤ t3.toInt)) := by omega
    exact mp_iret ⟨⟨_, rfl, u11⟩, rfl⟩ dX7_isStripWithout_22 (Or.inr ⟨rfl, by decide⟩)
  · have c10 : x7.toInt = 0 := ti_ne_n c10
    refine mp_a (a_iload_n dX7_isStripWithout_8 rfl) (mpp 9 rfl ?_)
    refine mp_a (a_iconst (v := 0) dX7_isStripWithout_9 rfl) (mpp 10 rfl ?_)
    refine mp_a (a_iload_n dX7_isStripWithout_10 rfl) (mpp 11 rfl ?_)
    refine mp_calls (i := 61) (q' := q_127) (As := [.int t2, .int 0, .int t3]) (rest := []) dX7_isStripWithout_11 rfl qm_127 (by decide) rfl (Nat.le_of_ble_eq_true rfl) rfl ⟨rfl, rfl⟩ ⟨Nat.le_of_ble_eq_true rfl, Nat.le_of_ble_eq_true rfl⟩ (EvP.mono (by decide) (c_M_isIn hT )) (fun r12 P13 g14 => mpp 14 rfl ?_)
    obtain ⟨⟨x15, rfl, g16⟩, e17⟩ := g14
    have e17 := e17.symm
    subst e17
    have wx15 := ti_full x15
    replace g16 : 0 ≤ x15.toInt ∧ x15.toInt ≤ 1 ∧ ((x15.toInt = 1 ∧ (0 : Int) ≤ t2.toInt ∧ t2.toInt ≤ t3.toInt) ∨ (x15.toInt = 0 ∧ (t2.toInt < (0 : Int) ∨ t3.toInt < t2.toInt))) := g16
    show MEvP _ none q_209 14 [(0, .ref 301), (1, .int t1), (2, .int t2), (3, .int t3)] [.int x15] _ _ _ _
    refine mp_Tb (t := 21) (j_if_ne dX7_isStripWithout_14) (by decide) (fun c18 => ?_) (fun c18 => mpp 17 rfl ?_)
    · have c18 : x15.toInt ≠ 0 := ti_ne c18
      refine mp_a (a_iconst (v := 0) dX7_isStripWithout_21 rfl) (mpp 22 rfl ?_)
      have u19 : 0 ≤ (0 : Int) ∧ (0 : Int) ≤ 1 ∧ ((0 : Int) = 1 ∨ (fv Po 302 (3 + 19 * t1.toInt.toNat)).toInt = 1 ∨ (0 ≤ t2.toInt ∧ t2.toInt ≤ t3.toInt)) := by omega
      exact mp_iret ⟨⟨_, rfl, u19⟩, rfl⟩ dX7_isStripWithout_22 (Or.inr ⟨rfl, by decide⟩)
    · have c18 : x15.toInt = 0 := ti_ne_n c18
      refine mp_a (a_iconst (v := 1) dX7_isStripWithout_17 rfl) (mpp 18 rfl ?_)
      refine mp_a (a_goto (t := 22) dX7_isStripWithout_18 (by decide)) ?_
      have u20 : 0 ≤ (1 : Int) ∧ (1 : Int) ≤ 1 ∧ ((1 : Int) = 1 ∨ (fv Po 302 (3 + 19 * t1.toInt.toNat)).toInt = 1 ∨ (0 ≤ t2.toInt ∧ t2.toInt ≤ t3.toInt)) := by omega
      exact mp_iret ⟨⟨_, rfl, u20⟩, rfl⟩ dX7_isStripWithout_22 (Or.inr ⟨rfl, by decide⟩)

set_option maxHeartbeats 4000000 in
theorem c_M_place {Po : mP} {t1 : Int32} {t2 : Int32} (hT : Typ Po)   : EvP 5 210 [.ref 301, .int t1, .int t2] Po (fun r P' => (∃ x : Int32, r = some (.int x) ∧ (True)) ∧ P' = Po) := by
  refine EvP.of qm_210 (Nat.le_of_ble_eq_true rfl) rfl ?_
  show MEvP _ none q_210 0 [(0, .ref 301), (1, .int t1), (2, .int t2)] [] _ 0 0 _
  have w_t1 := ti_full t1
  have w_t2 := ti_full t2
  refine mp_a (a_aload_n dX7_place_0 rfl) (mpp 1 rfl ?_)
  refine mp_a (a_iload_n dX7_place_1 rfl) (mpp 2 rfl ?_)
  refine mt_callv (i := 85) (q' := q_144) (As := [.int t1]) (rest := []) hT dX7_place_2 rfl qm_144 (by decide) rfl rl_301 (by decide) rfl (Nat.le_of_ble_eq_true rfl) rfl ⟨rfl, rfl⟩ ⟨Nat.le_of_ble_eq_true rfl, Nat.le_of_ble_eq_true rfl⟩ (EvP.mono (by decide) (c_M_isPiece hT )) (fun r1 P2 g3 => mpp 5 rfl ?_)
  obtain ⟨⟨x4, rfl, g5⟩, e6⟩ := g3
  have e6 := e6.symm
  subst e6
  have wx4 := ti_full x4
  replace g5 : 0 ≤ x4.toInt ∧ x4.toInt ≤ 1 ∧ ((x4.toInt = 1 ∧ 0 ≤ t1.toInt ∧ t1.toInt + 1 ≤ (fv Po 302 0).toInt ∧ t1.toInt ≤ 7) ∨ (x4.toInt = 0 ∧ (t1.toInt < 0 ∨ (fv Po 302 0).toInt ≤ t1.toInt))) := g5
  have g7 : (0 : Int) ≤ (fv Po 302 0).toInt ∧ (fv Po 302 0).toInt ≤ 8 := Typ.rng hT rl_302 (by decide) (by decide) rfl
  show MEvP _ none q_210 5 [(0, .ref 301), (1, .int t1), (2, .int t2)] [.int x4] _ _ _ _
  refine mp_Tb (t := 23) (j_if_eq dX7_place_5) (by decide) (fun c8 => ?_) (fun c8 => mpp 8 rfl ?_)
  · have c8 : x4.toInt = 0 := ti_eq c8
    refine mp_a (a_sipush (v := -1001) dX7_place_23 rfl) (mpp 26 rfl ?_)
    exact mp_iret ⟨⟨_, rfl, trivial⟩, rfl⟩ dX7_place_26 (Or.inl rfl)
  · have c8 : x4.toInt ≠ 0 := ti_eq_n c8
    refine mp_a (a_aload_n dX7_place_8 rfl) (mpp 9 rfl ?_)
    refine mp_a (a_iload_n dX7_place_9 rfl) (mpp 10 rfl ?_)
    refine mp_a (a_iload_n dX7_place_10 rfl) (mpp 11 rfl ?_)
    refine mp_a (a_aload_n dX7_place_11 rfl) (mpp 12 rfl ?_)
    refine mp_a (a_iload_n dX7_place_12 rfl) (mpp 13 rfl ?_)
    refine mp_a (a_iconst (v := 1) dX7_place_13 rfl) (mpp 14 rfl ?_)
    have p9 : 0 ≤ t1.toInt := by omega
    have p10 : t1.toInt ≤ 7 := by omega
    have p11 : 0 ≤ (1 : Int) := by omega
    have p12 : (1 : Int) ≤ 18 := by omega
    refine mt_callv (i := 78) (q' := q_137) (As := [.int t1, .int 1]) (rest := [.int t2, .int t1, .ref 301]) hT dX7_place_14 rfl qm_137 (by decide) rfl rl_301 (by decide) rfl (Nat.le_of_ble_eq_true rfl) rfl ⟨rfl, rfl⟩ ⟨Nat.le_of_ble_eq_true rfl, Nat.le_of_ble_eq_true rfl⟩ (EvP.mono (by decide) (c_M_of_c1 hT p9 p10 p11 p12 )) (fun r13 P14 g15 => mpp 17 rfl ?_)
    obtain ⟨⟨x16, rfl, g17⟩, e18⟩ := g15
    have e18 := e18.symm
    subst e18
    have wx16 := ti_full x16
    replace g17 : x16.toInt = (fv Po 302 (4 + 19 * t1.toInt.toNat)).toInt ∧ 0 ≤ x16.toInt ∧ x16.toInt ≤ 8 := g17
    try have g19 : (0 : Int) ≤ (fv Po 302 (4 + 19 * t1.toInt.toNat)).toInt ∧ (fv Po 302 (4 + 19 * t1.toInt.toNat)).toInt ≤ 8 := s4_rng hT (by omega)
    show MEvP _ none q_210 17 [(0, .ref 301), (1, .int t1), (2, .int t2)] [.int x16, .int t2, .int t1, .ref 301] _ _ _ _
    have p20 : 0 ≤ t1.toInt := by omega
    have p21 : t1.toInt ≤ 7 := by omega
    refine mt_callv (i := 285) (q' := q_209) (As := [.int t1, .int t2, .int x16]) (rest := []) hT dX7_place_17 rfl qm_209 (by decide) rfl rl_301 (by decide) rfl (Nat.le_of_ble_eq_true rfl) rfl ⟨rfl, rfl⟩ ⟨Nat.le_of_ble_eq_true rfl, Nat.le_of_ble_eq_true rfl⟩ (EvP.mono (by decide) (c_M_isStripWithout hT p20 p21 )) (fun r22 P23 g24 => mpp 20 rfl ?_)
    obtain ⟨⟨x25, rfl, g26⟩, e27⟩ := g24
    have e27 := e27.symm
    subst e27
    have wx25 := ti_full x25
    replace g26 : 0 ≤ x25.toInt ∧ x25.toInt ≤ 1 ∧ (x25.toInt = 1 ∨ (fv Po 302 (3 + 19 * t1.toInt.toNat)).toInt = 1 ∨ (0 ≤ t2.toInt ∧ t2.toInt ≤ x16.toInt)) := g26
    try have g28 : (0 : Int) ≤ (fv Po 302 (3 + 19 * t1.toInt.toNat)).toInt ∧ (fv Po 302 (3 + 19 * t1.toInt.toNat)).toInt ≤ 1 := s3_rng hT (by omega)
    show MEvP _ none q_210 20 [(0, .ref 301), (1, .int t1), (2, .int t2)] [.int x25] _ _ _ _
    refine mp_Tb (t := 27) (j_if_eq dX7_place_20) (by decide) (fun c29 => ?_) (fun c29 => mpp 23 rfl ?_)
    · have c29 : x25.toInt = 0 := ti_eq c29
      refine mp_a (a_aload_n dX7_place_27 rfl) (mpp 28 rfl ?_)
      refine mp_a (a_iload_n dX7_place_28 rfl) (mpp 29 rfl ?_)
      have p30 : 0 ≤ t1.toInt := by omega
      have p31 : t1.toInt ≤ 7 := by omega
      refine mt_callv (i := 81) (q' := q_138) (As := [.int t1]) (rest := []) hT dX7_place_29 rfl qm_138 (by decide) rfl rl_301 (by decide) rfl (Nat.le_of_ble_eq_true rfl) rfl ⟨rfl, rfl⟩ ⟨Nat.le_of_ble_eq_true rfl, Nat.le_of_ble_eq_true rfl⟩ (EvP.mono (by decide) (c_M_isCorner hT p30 p31 )) (fun r32 P33 g34 => mpp 32 rfl ?_)
      obtain ⟨⟨x35, rfl, g36⟩, e37⟩ := g34
      have e37 := e37.symm
      subst e37
      have wx35 := ti_full x35
      replace g36 : 0 ≤ x35.toInt ∧ x35.toInt ≤ 1 ∧ ((x35.toInt = 1 ∧ (fv Po 302 (3 + 19 * t1.toInt.toNat)).toInt = 1) ∨ (x35.toInt = 0 ∧ (fv Po 302 (3 + 19 * t1.toInt.toNat)).toInt = 0)) := g36
      show MEvP _ none q_210 32 [(0, .ref 301), (1, .int t1), (2, .int t2)] [.int x35] _ _ _ _
      refine mp_Tb (t := 41) (j_if_eq dX7_place_32) (by decide) (fun c38 => ?_) (fun c38 => mpp 35 rfl ?_)
      · have c38 : x35.toInt = 0 := ti_eq c38
        refine mp_a (a_aload_n dX7_place_41 rfl) (mpp 42 rfl ?_)
        refine mp_a (a_iload_n dX7_place_42 rfl) (mpp 43 rfl ?_)
        refine mp_a (a_iload_n dX7_place_43 rfl) (mpp 44 rfl ?_)
        have p39 : 0 ≤ t1.toInt := by omega
        have p40 : t1.toInt ≤ 7 := by omega
        have p41 : t2.toInt ≤ 8 := by omega
        refine mt_callv (i := 225) (q' := q_186) (As := [.int t1, .int t2]) (rest := []) hT dX7_place_44 rfl qm_186 (by decide) rfl rl_301 (by decide) rfl (Nat.le_of_ble_eq_true rfl) rfl ⟨rfl, rfl⟩ ⟨Nat.le_of_ble_eq_true rfl, Nat.le_of_ble_eq_true rfl⟩ (EvP.mono (by decide) (c_M_placeOf hT p39 p40 p41 )) (fun r42 P43 g44 => mpp 47 rfl ?_)
        obtain ⟨⟨x45, rfl, g46⟩, e47⟩ := g44
        have e47 := e47.symm
        subst e47
        have wx45 := ti_full x45
        replace g46 : x45.toInt = (plF (fun j : Nat => fv Po 302 (6 + 19 * t1.toInt.toNat + j)) t2.toInt.toNat).toInt := g46
        show MEvP _ none q_210 47 [(0, .ref 301), (1, .int t1), (2, .int t2)] [.int x45] _ _ _ _
        exact mp_iret ⟨⟨_, rfl, trivial⟩, rfl⟩ dX7_place_47 (Or.inl rfl)
      · have c38 : x35.toInt ≠ 0 := ti_eq_n c38
        refine mp_a (a_sipush (v := -1002) dX7_place_35 rfl) (mpp 38 rfl ?_)
        refine mp_a (a_goto (t := 47) dX7_place_38 (by decide)) ?_
        exact mp_iret ⟨⟨_, rfl, trivial⟩, rfl⟩ dX7_place_47 (Or.inl rfl)
    · have c29 : x25.toInt ≠ 0 := ti_eq_n c29
      refine mp_a (a_sipush (v := -1001) dX7_place_23 rfl) (mpp 26 rfl ?_)
      exact mp_iret ⟨⟨_, rfl, trivial⟩, rfl⟩ dX7_place_26 (Or.inl rfl)

set_option maxHeartbeats 4000000 in
theorem c_M_layer {Po : mP} {t1 : Int32} {t2 : Int32} (hT : Typ Po) (hR : Rel Po)  : EvP 14 208 [.ref 301, .int t1, .int t2] Po (fun r P' => (∃ x : Int32, r = some (.int x) ∧ (True)) ∧ Typ P' ∧ KW [1107, 1108, 1109, 1664, 1728, 1792, 1856] Po P' ∧ Rel P') := by
  refine EvP.of qm_208 (Nat.le_of_ble_eq_true rfl) rfl ?_
  show MEvP _ none q_208 0 [(0, .ref 301), (1, .int t1), (2, .int t2)] [] _ 0 0 _
  have w_t1 := ti_full t1
  have w_t2 := ti_full t2
  refine mp_a (a_aload_n dX7_layer_0 rfl) (mpp 1 rfl ?_)
  refine mp_a (a_iload_n dX7_layer_1 rfl) (mpp 2 rfl ?_)
  refine mt_callv (i := 85) (q' := q_144) (As := [.int t1]) (rest := []) hT dX7_layer_2 rfl qm_144 (by decide) rfl rl_301 (by decide) rfl (Nat.le_of_ble_eq_true rfl) rfl ⟨rfl, rfl⟩ ⟨Nat.le_of_ble_eq_true rfl, Nat.le_of_ble_eq_true rfl⟩ (EvP.mono (by decide) (c_M_isPiece hT )) (fun r1 P2 g3 => mpp 5 rfl ?_)
  obtain ⟨⟨x4, rfl, g5⟩, e6⟩ := g3
  have e6 := e6.symm
  subst e6
  have wx4 := ti_full x4
  replace g5 : 0 ≤ x4.toInt ∧ x4.toInt ≤ 1 ∧ ((x4.toInt = 1 ∧ 0 ≤ t1.toInt ∧ t1.toInt + 1 ≤ (fv Po 302 0).toInt ∧ t1.toInt ≤ 7) ∨ (x4.toInt = 0 ∧ (t1.toInt < 0 ∨ (fv Po 302 0).toInt ≤ t1.toInt))) := g5
  have g7 : (0 : Int) ≤ (fv Po 302 0).toInt ∧ (fv Po 302 0).toInt ≤ 8 := Typ.rng hT rl_302 (by decide) (by decide) rfl
  show MEvP _ none q_208 5 [(0, .ref 301), (1, .int t1), (2, .int t2)] [.int x4] _ _ _ _
  refine mp_Tb (t := 25) (j_if_eq dX7_layer_5) (by decide) (fun c8 => ?_) (fun c8 => mpp 8 rfl ?_)
  · have c8 : x4.toInt = 0 := ti_eq c8
    refine mp_a (a_sipush (v := -1001) dX7_layer_25 rfl) (mpp 28 rfl ?_)
    exact mp_iret ⟨⟨_, rfl, trivial⟩, hT, KW.refl, hR⟩ dX7_layer_28 (Or.inl rfl)
  · have c8 : x4.toInt ≠ 0 := ti_eq_n c8
    refine mp_a (a_aload_n dX7_layer_8 rfl) (mpp 9 rfl ?_)
    refine mp_a (a_iload_n dX7_layer_9 rfl) (mpp 10 rfl ?_)
    refine mp_a (a_iload_n dX7_layer_10 rfl) (mpp 11 rfl ?_)
    refine mp_a (a_aload_n dX7_layer_11 rfl) (mpp 12 rfl ?_)
    refine mp_a (a_iload_n dX7_layer_12 rfl) (mpp 13 rfl ?_)
    refine mp_a (a_iconst (v := 1) dX7_layer_13 rfl) (mpp 14 rfl ?_)
    have p9 : 0 ≤ t1.toInt := by omega
    have p10 : t1.toInt ≤ 7 := by omega
    have p11 : 0 ≤ (1 : Int) := by omega
    have p12 : (1 : Int) ≤ 18 := by omega
    refine mt_callv (i := 78) (q' := q_137) (As := [.int t1, .int 1]) (rest := [.int t2, .int t1, .ref 301]) hT dX7_layer_14 rfl qm_137 (by decide) rfl rl_301 (by decide) rfl (Nat.le_of_ble_eq_true rfl) rfl ⟨rfl, rfl⟩ ⟨Nat.le_of_ble_eq_true rfl, Nat.le_of_ble_eq_true rfl⟩ (EvP.mono (by decide) (c_M_of_c1 hT p9 p10 p11 p12 )) (fun r13 P14 g15 => mpp 17 rfl ?_)
    obtain ⟨⟨x16, rfl, g17⟩, e18⟩ := g15
    have e18 := e18.symm
    subst e18
    have wx16 := ti_full x16
    replace g17 : x16.toInt = (fv Po 302 (4 + 19 * t1.toInt.toNat)).toInt ∧ 0 ≤ x16.toInt ∧ x16.toInt ≤ 8 := g17
    try have g19 : (0 : Int) ≤ (fv Po 302 (4 + 19 * t1.toInt.toNat)).toInt ∧ (fv Po 302 (4 + 19 * t1.toInt.toNat)).toInt ≤ 8 := s4_rng hT (by omega)
    show MEvP _ none q_208 17 [(0, .ref 301), (1, .int t1), (2, .int t2)] [.int x16, .int t2, .int t1, .ref 301] _ _ _ _
    refine mp_a (a_iconst (v := 1) dX7_layer_17 rfl) (mpp 18 rfl ?_)
    obtain ⟨z20, h21⟩ := ti_ex (x16 - 1 : Int32)
    have wz20 := ti_full z20
    refine mp_t (s_isub (v := z20) dX7_layer_18 h21) (mpp 19 rfl ?_)
    try have e22 : z20.toInt = x16.toInt - 1 := ti_subz h21 rfl rfl (by omega) (by omega)
    have p23 : 0 ≤ t1.toInt := by omega
    have p24 : t1.toInt ≤ 7 := by omega
    refine mt_callv (i := 285) (q' := q_209) (As := [.int t1, .int t2, .int z20]) (rest := []) hT dX7_layer_19 rfl qm_209 (by decide) rfl rl_301 (by decide) rfl (Nat.le_of_ble_eq_true rfl) rfl ⟨rfl, rfl⟩ ⟨Nat.le_of_ble_eq_true rfl, Nat.le_of_ble_eq_true rfl⟩ (EvP.mono (by decide) (c_M_isStripWithout hT p23 p24 )) (fun r25 P26 g27 => mpp 22 rfl ?_)
    obtain ⟨⟨x28, rfl, g29⟩, e30⟩ := g27
    have e30 := e30.symm
    subst e30
    have wx28 := ti_full x28
    replace g29 : 0 ≤ x28.toInt ∧ x28.toInt ≤ 1 ∧ (x28.toInt = 1 ∨ (fv Po 302 (3 + 19 * t1.toInt.toNat)).toInt = 1 ∨ (0 ≤ t2.toInt ∧ t2.toInt ≤ z20.toInt)) := g29
    try have g31 : (0 : Int) ≤ (fv Po 302 (3 + 19 * t1.toInt.toNat)).toInt ∧ (fv Po 302 (3 + 19 * t1.toInt.toNat)).toInt ≤ 1 := s3_rng hT (by omega)
    show MEvP _ none q_208 22 [(0, .ref 301), (1, .int t1), (2, .int t2)] [.int x28] _ _ _ _
    refine mp_Tb (t := 29) (j_if_eq dX7_layer_22) (by decide) (fun c32 => ?_) (fun c32 => mpp 25 rfl ?_)
    · have c32 : x28.toInt = 0 := ti_eq c32
      refine mp_a (a_aload_n dX7_layer_29 rfl) (mpp 30 rfl ?_)
      refine mp_a (a_iload_n dX7_layer_30 rfl) (mpp 31 rfl ?_)
      refine mt_callv (i := 279) (q' := q_199) (As := [.int t1]) (rest := []) hT dX7_layer_31 rfl qm_199 (by decide) rfl rl_301 (by decide) rfl (Nat.le_of_ble_eq_true rfl) rfl ⟨rfl, rfl⟩ ⟨Nat.le_of_ble_eq_true rfl, Nat.le_of_ble_eq_true rfl⟩ (EvP.mono (by decide) (c_M_wrongStrip hT )) (fun r33 P34 g35 => mpp 34 rfl ?_)
      obtain ⟨⟨x36, rfl, g37⟩, e38⟩ := g35
      have e38 := e38.symm
      subst e38
      have wx36 := ti_full x36
      replace g37 : x36.toInt ≠ 0 ∨ (0 ≤ t1.toInt ∧ t1.toInt + 1 ≤ (fv Po 302 0).toInt ∧ t1.toInt ≤ 7 ∧ (fv Po 302 (3 + 19 * t1.toInt.toNat)).toInt = 0) := g37
      show MEvP _ none q_208 34 [(0, .ref 301), (1, .int t1), (2, .int t2)] [.int x36] _ _ _ _
      refine mp_a (a_istore_n (L' := [(3, .int x36), (0, .ref 301), (1, .int t1), (2, .int t2)]) dX7_layer_34 (by decide) rfl) (mpp 35 rfl ?_)
      refine mp_a (a_iload_n dX7_layer_35 rfl) (mpp 36 rfl ?_)
      refine mp_Tb (t := 41) (j_if_eq dX7_layer_36) (by decide) (fun c39 => ?_) (fun c39 => mpp 39 rfl ?_)
      · have c39 : x36.toInt = 0 := ti_eq c39
        refine mp_a (a_aload_n dX7_layer_41 rfl) (mpp 42 rfl ?_)
        refine mp_a (a_iload_n dX7_layer_42 rfl) (mpp 43 rfl ?_)
        have p40 : 0 ≤ t1.toInt := by omega
        have p41 : t1.toInt ≤ 7 := by omega
        have p42 : (fv Po 302 (4 + 19 * t1.toInt.toNat)).toInt ≤ 7 := Rel.use hR (p := t1.toInt.toNat) (by omega) (by omega)
        refine mt_callv (i := 282) (q' := q_200) (As := [.int t1]) (rest := []) hT dX7_layer_43 rfl qm_200 (by decide) rfl rl_301 (by decide) rfl (Nat.le_of_ble_eq_true rfl) rfl ⟨rfl, rfl⟩ ⟨Nat.le_of_ble_eq_true rfl, Nat.le_of_ble_eq_true rfl⟩ (EvP.mono (by decide) (c_M_ordersOf hT p40 p41 p42 )) (fun r43 P44 g45 => mpp 46 rfl ?_)
        obtain ⟨⟨x46, rfl, g47⟩, hT48, k49, R50⟩ := g45
        have k51 : KW [1107, 1108, 1109, 1664, 1728, 1792, 1856] Po P44 := KW.trans KW.refl k49 rfl
        have R53 := Rel.kw hR k49 rfl
        have wx46 := ti_full x46
        show MEvP _ none q_208 46 [(3, .int x36), (0, .ref 301), (1, .int t1), (2, .int t2)] [.int x46] _ _ _ _
        refine mp_Tb (t := 58) (j_if_le dX7_layer_46) (by decide) (fun c54 => ?_) (fun c54 => mpp 49 rfl ?_)
        · have c54 : x46.toInt ≤ 0 := ti_le c54
          refine mp_a (a_sipush (v := -1004) dX7_layer_58 rfl) (mpp 61 rfl ?_)
          exact mp_iret ⟨⟨_, rfl, trivial⟩, hT48, k51, R53⟩ dX7_layer_61 (Or.inl rfl)
        · have c54 : x46.toInt > 0 := ti_le_n c54
          refine mp_a (a_aload_n dX7_layer_49 rfl) (mpp 50 rfl ?_)
          refine mt_getU (i := 37) (k := 16) (A := 311) hT48 dX7_layer_50 rfl rl_301 (by decide) rfl (by decide) rfl un_27 (mpp 53 rfl ?_)
          refine mp_a (a_iload_n dX7_layer_53 rfl) (mpp 54 rfl ?_)
          refine mt_ial (n := 7) hT48 dX7_layer_54 rl_311 (by decide) rfl rfl (by omega) (by omega) rfl (fun g55 g56 => mpp 55 rfl ?_)
          refine mp_a (a_goto (t := 61) dX7_layer_55 (by decide)) ?_
          exact mp_iret ⟨⟨_, rfl, trivial⟩, hT48, k51, R53⟩ dX7_layer_61 (Or.inl rfl)
      · have c39 : x36.toInt ≠ 0 := ti_eq_n c39
        refine mp_a (a_iload_n dX7_layer_39 rfl) (mpp 40 rfl ?_)
        exact mp_iret ⟨⟨_, rfl, trivial⟩, hT, KW.refl, hR⟩ dX7_layer_40 (Or.inl rfl)
    · have c32 : x28.toInt ≠ 0 := ti_eq_n c32
      refine mp_a (a_sipush (v := -1001) dX7_layer_25 rfl) (mpp 28 rfl ?_)
      exact mp_iret ⟨⟨_, rfl, trivial⟩, hT, KW.refl, hR⟩ dX7_layer_28 (Or.inl rfl)

set_option maxHeartbeats 4000000 in
theorem c_M_orders {Po : mP} {t1 : Int32} (hT : Typ Po) (hR : Rel Po)  : EvP 14 207 [.ref 301, .int t1] Po (fun r P' => (∃ x : Int32, r = some (.int x) ∧ (True)) ∧ Typ P' ∧ KW [1107, 1108, 1109, 1664, 1728, 1792, 1856] Po P' ∧ Rel P') := by
  refine EvP.of qm_207 (Nat.le_of_ble_eq_true rfl) rfl ?_
  show MEvP _ none q_207 0 [(0, .ref 301), (1, .int t1)] [] _ 0 0 _
  have w_t1 := ti_full t1
  refine mp_a (a_aload_n dX7_orders_0 rfl) (mpp 1 rfl ?_)
  refine mp_a (a_iload_n dX7_orders_1 rfl) (mpp 2 rfl ?_)
  refine mt_callv (i := 279) (q' := q_199) (As := [.int t1]) (rest := []) hT dX7_orders_2 rfl qm_199 (by decide) rfl rl_301 (by decide) rfl (Nat.le_of_ble_eq_true rfl) rfl ⟨rfl, rfl⟩ ⟨Nat.le_of_ble_eq_true rfl, Nat.le_of_ble_eq_true rfl⟩ (EvP.mono (by decide) (c_M_wrongStrip hT )) (fun r1 P2 g3 => mpp 5 rfl ?_)
  obtain ⟨⟨x4, rfl, g5⟩, e6⟩ := g3
  have e6 := e6.symm
  subst e6
  have wx4 := ti_full x4
  replace g5 : x4.toInt ≠ 0 ∨ (0 ≤ t1.toInt ∧ t1.toInt + 1 ≤ (fv Po 302 0).toInt ∧ t1.toInt ≤ 7 ∧ (fv Po 302 (3 + 19 * t1.toInt.toNat)).toInt = 0) := g5
  have g7 : (0 : Int) ≤ (fv Po 302 0).toInt ∧ (fv Po 302 0).toInt ≤ 8 := Typ.rng hT rl_302 (by decide) (by decide) rfl
  try have g8 : (0 : Int) ≤ (fv Po 302 (3 + 19 * t1.toInt.toNat)).toInt ∧ (fv Po 302 (3 + 19 * t1.toInt.toNat)).toInt ≤ 1 := s3_rng hT (by omega)
  show MEvP _ none q_207 5 [(0, .ref 301), (1, .int t1)] [.int x4] _ _ _ _
  refine mp_a (a_istore_n (L' := [(2, .int x4), (0, .ref 301), (1, .int t1)]) dX7_orders_5 (by decide) rfl) (mpp 6 rfl ?_)
  refine mp_a (a_iload_n dX7_orders_6 rfl) (mpp 7 rfl ?_)
  refine mp_Tb (t := 14) (j_if_eq dX7_orders_7) (by decide) (fun c9 => ?_) (fun c9 => mpp 10 rfl ?_)
  · have c9 : x4.toInt = 0 := ti_eq c9
    refine mp_a (a_aload_n dX7_orders_14 rfl) (mpp 15 rfl ?_)
    refine mp_a (a_iload_n dX7_orders_15 rfl) (mpp 16 rfl ?_)
    try have g10 : (0 : Int) ≤ (fv Po 302 (4 + 19 * t1.toInt.toNat)).toInt ∧ (fv Po 302 (4 + 19 * t1.toInt.toNat)).toInt ≤ 8 := s4_rng hT (by omega)
    have p11 : 0 ≤ t1.toInt := by omega
    have p12 : t1.toInt ≤ 7 := by omega
    have p13 : (fv Po 302 (4 + 19 * t1.toInt.toNat)).toInt ≤ 7 := Rel.use hR (p := t1.toInt.toNat) (by omega) (by omega)
    refine mt_callv (i := 282) (q' := q_200) (As := [.int t1]) (rest := []) hT dX7_orders_16 rfl qm_200 (by decide) rfl rl_301 (by decide) rfl (Nat.le_of_ble_eq_true rfl) rfl ⟨rfl, rfl⟩ ⟨Nat.le_of_ble_eq_true rfl, Nat.le_of_ble_eq_true rfl⟩ (EvP.mono (by decide) (c_M_ordersOf hT p11 p12 p13 )) (fun r14 P15 g16 => mpp 19 rfl ?_)
    obtain ⟨⟨x17, rfl, g18⟩, hT19, k20, R21⟩ := g16
    have k22 : KW [1107, 1108, 1109, 1664, 1728, 1792, 1856] Po P15 := KW.trans KW.refl k20 rfl
    have R24 := Rel.kw hR k20 rfl
    have wx17 := ti_full x17
    show MEvP _ none q_207 19 [(2, .int x4), (0, .ref 301), (1, .int t1)] [.int x17] _ _ _ _
    exact mp_iret ⟨⟨_, rfl, trivial⟩, hT19, k22, R24⟩ dX7_orders_19 (Or.inl rfl)
  · have c9 : x4.toInt ≠ 0 := ti_eq_n c9
    refine mp_a (a_iload_n dX7_orders_10 rfl) (mpp 11 rfl ?_)
    refine mp_a (a_goto (t := 19) dX7_orders_11 (by decide)) ?_
    exact mp_iret ⟨⟨_, rfl, trivial⟩, hT, KW.refl, hR⟩ dX7_orders_19 (Or.inl rfl)

set_option maxHeartbeats 4000000 in
theorem c_M_overAt_l5 {Po : mP} {t1 : Int32} {t2 : Int32} (hT : Typ Po)  (hp0 : 0 ≤ t1.toInt) (hp1 : t1.toInt ≤ 7)  : ∀ (n : Nat) (v3 : Int32) (v4 : Int32), (0 ≤ v4.toInt) → (2147483647 - v4.toInt).toNat = n → MEvP 4 none q_212 5 [(0, .ref 301), (1, .int t1), (2, .int t2), (3, .int v3), (4, .int v4)] [] Po 0 0 (fun r P' => (∃ x : Int32, r = some (.int x) ∧ (True)) ∧ P' = Po) := by
  intro n
  induction n using Nat.strongRecOn with | _ n ih => ?_
  intro v3 v4 i_0 hm
  have w_t1 := ti_full t1
  have w_t2 := ti_full t2
  have w_v3 := ti_full v3
  have w_v4 := ti_full v4
  refine mp_a (a_iload dX7_overAt_5 rfl) (mpp 7 rfl ?_)
  refine mp_a (a_aload_n dX7_overAt_7 rfl) (mpp 8 rfl ?_)
  refine mp_a (a_iload_n dX7_overAt_8 rfl) (mpp 9 rfl ?_)
  refine mp_a (a_iconst (v := 1) dX7_overAt_9 rfl) (mpp 10 rfl ?_)
  have p1 : 0 ≤ t1.toInt := by omega
  have p2 : t1.toInt ≤ 7 := by omega
  have p3 : 0 ≤ (1 : Int) := by omega
  have p4 : (1 : Int) ≤ 18 := by omega
  refine mt_callv (i := 78) (q' := q_137) (As := [.int t1, .int 1]) (rest := [.int v4]) hT dX7_overAt_10 rfl qm_137 (by decide) rfl rl_301 (by decide) rfl (Nat.le_of_ble_eq_true rfl) rfl ⟨rfl, rfl⟩ ⟨Nat.le_of_ble_eq_true rfl, Nat.le_of_ble_eq_true rfl⟩ (EvP.mono (by decide) (c_M_of_c1 hT p1 p2 p3 p4 )) (fun r5 P6 g7 => mpp 13 rfl ?_)
  obtain ⟨⟨x8, rfl, g9⟩, e10⟩ := g7
  have e10 := e10.symm
  subst e10
  have wx8 := ti_full x8
  replace g9 : x8.toInt = (fv Po 302 (4 + 19 * t1.toInt.toNat)).toInt ∧ 0 ≤ x8.toInt ∧ x8.toInt ≤ 8 := g9
  try have g11 : (0 : Int) ≤ (fv Po 302 (4 + 19 * t1.toInt.toNat)).toInt ∧ (fv Po 302 (4 + 19 * t1.toInt.toNat)).toInt ≤ 8 := s4_rng hT (by omega)
  show MEvP _ none q_212 13 [(0, .ref 301), (1, .int t1), (2, .int t2), (3, .int v3), (4, .int v4)] [.int x8, .int v4] _ _ _ _
  refine mp_Tb (t := 74) (j_icmp_ge dX7_overAt_13) (by decide) (fun c12 => ?_) (fun c12 => mpp 16 rfl ?_)
  · have c12 : v4.toInt ≥ x8.toInt := ti_ge c12
    refine mp_a (a_iload_n dX7_overAt_74 rfl) (mpp 75 rfl ?_)
    exact mp_iret ⟨⟨_, rfl, trivial⟩, rfl⟩ dX7_overAt_75 (Or.inl rfl)
  · have c12 : v4.toInt < x8.toInt := ti_ge_n c12
    refine mp_a (a_aload_n dX7_overAt_16 rfl) (mpp 17 rfl ?_)
    refine mp_a (a_iload_n dX7_overAt_17 rfl) (mpp 18 rfl ?_)
    refine mp_a (a_iload dX7_overAt_18 rfl) (mpp 20 rfl ?_)
    have p13 : 0 ≤ t1.toInt := by omega
    have p14 : t1.toInt ≤ 7 := by omega
    have p15 : v4.toInt ≤ 8 := by omega
    refine mt_callv (i := 225) (q' := q_186) (As := [.int t1, .int v4]) (rest := []) hT dX7_overAt_20 rfl qm_186 (by decide) rfl rl_301 (by decide) rfl (Nat.le_of_ble_eq_true rfl) rfl ⟨rfl, rfl⟩ ⟨Nat.le_of_ble_eq_true rfl, Nat.le_of_ble_eq_true rfl⟩ (EvP.mono (by decide) (c_M_placeOf hT p13 p14 p15 )) (fun r16 P17 g18 => mpp 23 rfl ?_)
    obtain ⟨⟨x19, rfl, g20⟩, e21⟩ := g18
    have e21 := e21.symm
    subst e21
    have wx19 := ti_full x19
    replace g20 : x19.toInt = (plF (fun j : Nat => fv Po 302 (6 + 19 * t1.toInt.toNat + j)) v4.toInt.toNat).toInt := g20
    show MEvP _ none q_212 23 [(0, .ref 301), (1, .int t1), (2, .int t2), (3, .int v3), (4, .int v4)] [.int x19] _ _ _ _
    refine mp_a (a_istore (L' := [(5, .int x19), (0, .ref 301), (1, .int t1), (2, .int t2), (3, .int v3), (4, .int v4)]) dX7_overAt_23 (by decide) rfl) (mpp 25 rfl ?_)
    refine mp_a (a_aload_n dX7_overAt_25 rfl) (mpp 26 rfl ?_)
    refine mp_a (a_iload_n dX7_overAt_26 rfl) (mpp 27 rfl ?_)
    refine mp_a (a_iload dX7_overAt_27 rfl) (mpp 29 rfl ?_)
    refine mp_a (a_iconst (v := 1) dX7_overAt_29 rfl) (mpp 30 rfl ?_)
    obtain ⟨z22, h23⟩ := ti_ex (v4 + 1 : Int32)
    have wz22 := ti_full z22
    refine mp_t (s_iadd (v := z22) dX7_overAt_30 h23) (mpp 31 rfl ?_)
    try have e24 : z22.toInt = v4.toInt + 1 := ti_addz h23 rfl rfl (by omega) (by omega)
    have p25 : 0 ≤ t1.toInt := by omega
    have p26 : t1.toInt ≤ 7 := by omega
    have p27 : z22.toInt ≤ 8 := by omega
    refine mt_callv (i := 225) (q' := q_186) (As := [.int t1, .int z22]) (rest := []) hT dX7_overAt_31 rfl qm_186 (by decide) rfl rl_301 (by decide) rfl (Nat.le_of_ble_eq_true rfl) rfl ⟨rfl, rfl⟩ ⟨Nat.le_of_ble_eq_true rfl, Nat.le_of_ble_eq_true rfl⟩ (EvP.mono (by decide) (c_M_placeOf hT p25 p26 p27 )) (fun r28 P29 g30 => mpp 34 rfl ?_)
    obtain ⟨⟨x31, rfl, g32⟩, e33⟩ := g30
    have e33 := e33.symm
    subst e33
    have wx31 := ti_full x31
    replace g32 : x31.toInt = (plF (fun j : Nat => fv Po 302 (6 + 19 * t1.toInt.toNat + j)) z22.toInt.toNat).toInt := g32
    show MEvP _ none q_212 34 [(5, .int x19), (0, .ref 301), (1, .int t1), (2, .int t2), (3, .int v3), (4, .int v4)] [.int x31] _ _ _ _
    refine mp_a (a_istore (L' := [(6, .int x31), (5, .int x19), (0, .ref 301), (1, .int t1), (2, .int t2), (3, .int v3), (4, .int v4)]) dX7_overAt_34 (by decide) rfl) (mpp 36 rfl ?_)
    refine mp_a (a_iload_n dX7_overAt_36 rfl) (mpp 37 rfl ?_)
    refine mp_a (a_iload dX7_overAt_37 rfl) (mpp 39 rfl ?_)
    refine mp_a (a_iload dX7_overAt_39 rfl) (mpp 41 rfl ?_)
    refine mp_calls (i := 155) (q' := q_158) (As := [.int x19, .int x31]) (rest := [.int v3]) dX7_overAt_41 rfl qm_158 (by decide) rfl (Nat.le_of_ble_eq_true rfl) rfl ⟨rfl, rfl⟩ ⟨Nat.le_of_ble_eq_true rfl, Nat.le_of_ble_eq_true rfl⟩ (EvP.mono (by decide) (c_M_lesser hT )) (fun r34 P35 g36 => mpp 44 rfl ?_)
    obtain ⟨⟨x37, rfl, g38⟩, e39⟩ := g36
    have e39 := e39.symm
    subst e39
    have wx37 := ti_full x37
    replace g38 : (x37.toInt = x19.toInt ∧ x19.toInt ≤ x31.toInt) ∨ (x37.toInt = x31.toInt ∧ x31.toInt ≤ x19.toInt) := g38
    show MEvP _ none q_212 44 [(6, .int x31), (5, .int x19), (0, .ref 301), (1, .int t1), (2, .int t2), (3, .int v3), (4, .int v4)] [.int x37, .int v3] _ _ _ _
    refine mp_a (a_iload_n dX7_overAt_44 rfl) (mpp 45 rfl ?_)
    refine mp_Tb (t := 65) (j_icmp_gt dX7_overAt_45) (by decide) (fun c40 => ?_) (fun c40 => mpp 48 rfl ?_)
    · have c40 : x37.toInt > t2.toInt := ti_gt c40
      refine mp_a (a_iconst (v := 0) dX7_overAt_65 rfl) (mpp 66 rfl ?_)
      obtain ⟨z41, h42⟩ := ti_ex (v3 + 0 : Int32)
      have wz41 := ti_full z41
      refine mp_t (s_iadd (v := z41) dX7_overAt_66 h42) (mpp 67 rfl ?_)
      try have e43 : z41.toInt = v3.toInt + 0 := ti_addz h42 rfl rfl (by omega) (by omega)
      refine mp_a (a_istore_n (L' := [(3, .int z41), (6, .int x31), (5, .int x19), (0, .ref 301), (1, .int t1), (2, .int t2), (4, .int v4)]) dX7_overAt_67 (by decide) rfl) (mpp 68 rfl ?_)
      obtain ⟨z44, h45⟩ := ti_ex (v4 + 1 : Int32)
      have wz44 := ti_full z44
      refine mp_a (a_iinc (v := z44) (L' := [(4, .int z44), (3, .int z41), (6, .int x31), (5, .int x19), (0, .ref 301), (1, .int t1), (2, .int t2)]) dX7_overAt_68 (by decide) rfl h45 rfl) (mpp 71 rfl ?_)
      try have e46 : z44.toInt = v4.toInt + 1 := ti_addz h45 rfl rfl (by omega) (by omega)
      refine mp_a (a_goto (t := 5) dX7_overAt_71 (by decide)) ?_
      refine MEvP.less (L := [(0, .ref 301), (1, .int t1), (2, .int t2), (3, .int z41), (4, .int z44)]) rfl rfl ⟨rfl, rfl, rfl, rfl, rfl, trivial⟩ ?_
      have i47 : 0 ≤ z44.toInt := by omega
      exact ih _ (by omega) _ _ i47 rfl
    · have c40 : x37.toInt ≤ t2.toInt := ti_gt_n c40
      refine mp_a (a_iload_n dX7_overAt_48 rfl) (mpp 49 rfl ?_)
      refine mp_a (a_iconst (v := 1) dX7_overAt_49 rfl) (mpp 50 rfl ?_)
      obtain ⟨z48, h49⟩ := ti_ex (t2 + 1 : Int32)
      have wz48 := ti_full z48
      refine mp_t (s_iadd (v := z48) dX7_overAt_50 h49) (mpp 51 rfl ?_)
      try have e50 : z48.toInt = t2.toInt + 1 := ti_addz h49 rfl rfl (by omega) (by omega)
      refine mp_a (a_iload dX7_overAt_51 rfl) (mpp 53 rfl ?_)
      refine mp_a (a_iload dX7_overAt_53 rfl) (mpp 55 rfl ?_)
      refine mp_calls (i := 178) (q' := q_173) (As := [.int x19, .int x31]) (rest := [.int z48, .int v3]) dX7_overAt_55 rfl qm_173 (by decide) rfl (Nat.le_of_ble_eq_true rfl) rfl ⟨rfl, rfl⟩ ⟨Nat.le_of_ble_eq_true rfl, Nat.le_of_ble_eq_true rfl⟩ (EvP.mono (by decide) (c_M_greater hT )) (fun r51 P52 g53 => mpp 58 rfl ?_)
      obtain ⟨⟨x54, rfl, g55⟩, e56⟩ := g53
      have e56 := e56.symm
      subst e56
      have wx54 := ti_full x54
      replace g55 : (x54.toInt = x19.toInt ∧ x31.toInt ≤ x19.toInt) ∨ (x54.toInt = x31.toInt ∧ x19.toInt ≤ x31.toInt) := g55
      show MEvP _ none q_212 58 [(6, .int x31), (5, .int x19), (0, .ref 301), (1, .int t1), (2, .int t2), (3, .int v3), (4, .int v4)] [.int x54, .int z48, .int v3] _ _ _ _
      refine mp_Tb (t := 65) (j_icmp_gt dX7_overAt_58) (by decide) (fun c57 => ?_) (fun c57 => mpp 61 rfl ?_)
      · have c57 : z48.toInt > x54.toInt := ti_gt c57
        refine mp_a (a_iconst (v := 0) dX7_overAt_65 rfl) (mpp 66 rfl ?_)
        obtain ⟨z58, h59⟩ := ti_ex (v3 + 0 : Int32)
        have wz58 := ti_full z58
        refine mp_t (s_iadd (v := z58) dX7_overAt_66 h59) (mpp 67 rfl ?_)
        try have e60 : z58.toInt = v3.toInt + 0 := ti_addz h59 rfl rfl (by omega) (by omega)
        refine mp_a (a_istore_n (L' := [(3, .int z58), (6, .int x31), (5, .int x19), (0, .ref 301), (1, .int t1), (2, .int t2), (4, .int v4)]) dX7_overAt_67 (by decide) rfl) (mpp 68 rfl ?_)
        obtain ⟨z61, h62⟩ := ti_ex (v4 + 1 : Int32)
        have wz61 := ti_full z61
        refine mp_a (a_iinc (v := z61) (L' := [(4, .int z61), (3, .int z58), (6, .int x31), (5, .int x19), (0, .ref 301), (1, .int t1), (2, .int t2)]) dX7_overAt_68 (by decide) rfl h62 rfl) (mpp 71 rfl ?_)
        try have e63 : z61.toInt = v4.toInt + 1 := ti_addz h62 rfl rfl (by omega) (by omega)
        refine mp_a (a_goto (t := 5) dX7_overAt_71 (by decide)) ?_
        refine MEvP.less (L := [(0, .ref 301), (1, .int t1), (2, .int t2), (3, .int z58), (4, .int z61)]) rfl rfl ⟨rfl, rfl, rfl, rfl, rfl, trivial⟩ ?_
        have i64 : 0 ≤ z61.toInt := by omega
        exact ih _ (by omega) _ _ i64 rfl
      · have c57 : z48.toInt ≤ x54.toInt := ti_gt_n c57
        refine mp_a (a_iconst (v := 1) dX7_overAt_61 rfl) (mpp 62 rfl ?_)
        refine mp_a (a_goto (t := 66) dX7_overAt_62 (by decide)) ?_
        obtain ⟨z65, h66⟩ := ti_ex (v3 + 1 : Int32)
        have wz65 := ti_full z65
        refine mp_t (s_iadd (v := z65) dX7_overAt_66 h66) (mpp 67 rfl ?_)
        try have e67 : z65.toInt = v3.toInt + 1 := ti_addz h66 rfl rfl (by omega) (by omega)
        refine mp_a (a_istore_n (L' := [(3, .int z65), (6, .int x31), (5, .int x19), (0, .ref 301), (1, .int t1), (2, .int t2), (4, .int v4)]) dX7_overAt_67 (by decide) rfl) (mpp 68 rfl ?_)
        obtain ⟨z68, h69⟩ := ti_ex (v4 + 1 : Int32)
        have wz68 := ti_full z68
        refine mp_a (a_iinc (v := z68) (L' := [(4, .int z68), (3, .int z65), (6, .int x31), (5, .int x19), (0, .ref 301), (1, .int t1), (2, .int t2)]) dX7_overAt_68 (by decide) rfl h69 rfl) (mpp 71 rfl ?_)
        try have e70 : z68.toInt = v4.toInt + 1 := ti_addz h69 rfl rfl (by omega) (by omega)
        refine mp_a (a_goto (t := 5) dX7_overAt_71 (by decide)) ?_
        refine MEvP.less (L := [(0, .ref 301), (1, .int t1), (2, .int t2), (3, .int z65), (4, .int z68)]) rfl rfl ⟨rfl, rfl, rfl, rfl, rfl, trivial⟩ ?_
        have i71 : 0 ≤ z68.toInt := by omega
        exact ih _ (by omega) _ _ i71 rfl

set_option maxHeartbeats 4000000 in
theorem c_M_overAt {Po : mP} {t1 : Int32} {t2 : Int32} (hT : Typ Po)  (hp0 : 0 ≤ t1.toInt) (hp1 : t1.toInt ≤ 7)  : EvP 5 212 [.ref 301, .int t1, .int t2] Po (fun r P' => (∃ x : Int32, r = some (.int x) ∧ (True)) ∧ P' = Po) := by
  refine EvP.of qm_212 (Nat.le_of_ble_eq_true rfl) rfl ?_
  show MEvP _ none q_212 0 [(0, .ref 301), (1, .int t1), (2, .int t2)] [] _ 0 0 _
  have w_t1 := ti_full t1
  have w_t2 := ti_full t2
  refine mp_a (a_iconst (v := 0) dX7_overAt_0 rfl) (mpp 1 rfl ?_)
  refine mp_a (a_istore_n (L' := [(3, .int 0), (0, .ref 301), (1, .int t1), (2, .int t2)]) dX7_overAt_1 (by decide) rfl) (mpp 2 rfl ?_)
  refine mp_a (a_iconst (v := 0) dX7_overAt_2 rfl) (mpp 3 rfl ?_)
  refine mp_a (a_istore (L' := [(4, .int 0), (3, .int 0), (0, .ref 301), (1, .int t1), (2, .int t2)]) dX7_overAt_3 (by decide) rfl) (mpp 5 rfl ?_)
  refine MEvP.less (L := [(0, .ref 301), (1, .int t1), (2, .int t2), (3, .int 0), (4, .int 0)]) rfl rfl ⟨rfl, rfl, rfl, rfl, rfl, trivial⟩ ?_
  have i1 : 0 ≤ (0 : Int) := by omega
  exact c_M_overAt_l5 hT  hp0 hp1 _ _ _ i1 rfl

set_option maxHeartbeats 4000000 in
theorem c_M_thickest_l65 {Po : mP} {t1 : Int32} (hT : Typ Po)   {nO : Nat} (ihO : ∀ m : Nat, m < nO → ∀ (v2 : Int32) (v3 : Int32), (0 ≤ t1.toInt) → (t1.toInt ≤ 7) → (0 ≤ v3.toInt) → (2147483647 - v3.toInt).toNat = m → MEvP 5 none q_211 28 [(0, .ref 301), (1, .int t1), (2, .int v2), (3, .int v3)] [] Po 0 0 (fun r P' => (∃ x : Int32, r = some (.int x) ∧ (True)) ∧ P' = Po)) : ∀ (n : Nat) (v2 : Int32) (v3 : Int32) (v4 : Int32) (v5 : Int32) (v6 : Int32), (0 ≤ t1.toInt) → (t1.toInt ≤ 7) → (0 ≤ v3.toInt) → (v3.toInt ≤ 7) → (2147483647 - v3.toInt).toNat = nO → (2147483647 - v6.toInt).toNat = n → MEvP 5 none q_211 65 [(0, .ref 301), (1, .int t1), (2, .int v2), (3, .int v3), (4, .int v4), (5, .int v5), (6, .int v6)] [] Po 0 0 (fun r P' => (∃ x : Int32, r = some (.int x) ∧ (True)) ∧ P' = Po) := by
  intro n
  induction n using Nat.strongRecOn with | _ n ih => ?_
  intro v2 v3 v4 v5 v6 i_0 i_1 i_2 i_3 hmO hm
  have w_t1 := ti_full t1
  have w_v2 := ti_full v2
  have w_v3 := ti_full v3
  have w_v4 := ti_full v4
  have w_v5 := ti_full v5
  have w_v6 := ti_full v6
  refine mp_a (a_iload dX7_thickest_65 rfl) (mpp 67 rfl ?_)
  refine mp_a (a_iload dX7_thickest_67 rfl) (mpp 69 rfl ?_)
  refine mp_a (a_iload dX7_thickest_69 rfl) (mpp 71 rfl ?_)
  refine mp_calls (i := 178) (q' := q_173) (As := [.int v4, .int v5]) (rest := [.int v6]) dX7_thickest_71 rfl qm_173 (by decide) rfl (Nat.le_of_ble_eq_true rfl) rfl ⟨rfl, rfl⟩ ⟨Nat.le_of_ble_eq_true rfl, Nat.le_of_ble_eq_true rfl⟩ (EvP.mono (by decide) (c_M_greater hT )) (fun r1 P2 g3 => mpp 74 rfl ?_)
  obtain ⟨⟨x4, rfl, g5⟩, e6⟩ := g3
  have e6 := e6.symm
  subst e6
  have wx4 := ti_full x4
  replace g5 : (x4.toInt = v4.toInt ∧ v5.toInt ≤ v4.toInt) ∨ (x4.toInt = v5.toInt ∧ v4.toInt ≤ v5.toInt) := g5
  show MEvP _ none q_211 74 [(0, .ref 301), (1, .int t1), (2, .int v2), (3, .int v3), (4, .int v4), (5, .int v5), (6, .int v6)] [.int x4, .int v6] _ _ _ _
  refine mp_Tb (t := 95) (j_icmp_ge dX7_thickest_74) (by decide) (fun c7 => ?_) (fun c7 => mpp 77 rfl ?_)
  · have c7 : v6.toInt ≥ x4.toInt := ti_ge c7
    obtain ⟨z8, h9⟩ := ti_ex (v3 + 1 : Int32)
    have wz8 := ti_full z8
    refine mp_a (a_iinc (v := z8) (L' := [(3, .int z8), (0, .ref 301), (1, .int t1), (2, .int v2), (4, .int v4), (5, .int v5), (6, .int v6)]) dX7_thickest_95 (by decide) rfl h9 rfl) (mpp 98 rfl ?_)
    try have e10 : z8.toInt = v3.toInt + 1 := ti_addz h9 rfl rfl (by omega) (by omega)
    refine mp_a (a_goto (t := 28) dX7_thickest_98 (by decide)) ?_
    refine MEvP.less (L := [(0, .ref 301), (1, .int t1), (2, .int v2), (3, .int z8)]) rfl rfl ⟨rfl, rfl, rfl, rfl, trivial⟩ ?_
    have i11 : 0 ≤ t1.toInt := by omega
    have i12 : t1.toInt ≤ 7 := by omega
    have i13 : 0 ≤ z8.toInt := by omega
    exact ihO _ (by omega) _ _ i11 i12 i13 rfl
  · have c7 : v6.toInt < x4.toInt := ti_ge_n c7
    refine mp_a (a_iload_n dX7_thickest_77 rfl) (mpp 78 rfl ?_)
    refine mp_a (a_aload_n dX7_thickest_78 rfl) (mpp 79 rfl ?_)
    refine mp_a (a_iload_n dX7_thickest_79 rfl) (mpp 80 rfl ?_)
    refine mp_a (a_iload dX7_thickest_80 rfl) (mpp 82 rfl ?_)
    have p14 : 0 ≤ t1.toInt := by omega
    have p15 : t1.toInt ≤ 7 := by omega
    refine mt_callv (i := 288) (q' := q_212) (As := [.int t1, .int v6]) (rest := [.int v2]) hT dX7_thickest_82 rfl qm_212 (by decide) rfl rl_301 (by decide) rfl (Nat.le_of_ble_eq_true rfl) rfl ⟨rfl, rfl⟩ ⟨Nat.le_of_ble_eq_true rfl, Nat.le_of_ble_eq_true rfl⟩ (EvP.mono (by decide) (c_M_overAt hT p14 p15 )) (fun r16 P17 g18 => mpp 85 rfl ?_)
    obtain ⟨⟨x19, rfl, g20⟩, e21⟩ := g18
    have e21 := e21.symm
    subst e21
    have wx19 := ti_full x19
    show MEvP _ none q_211 85 [(0, .ref 301), (1, .int t1), (2, .int v2), (3, .int v3), (4, .int v4), (5, .int v5), (6, .int v6)] [.int x19, .int v2] _ _ _ _
    refine mp_calls (i := 178) (q' := q_173) (As := [.int v2, .int x19]) (rest := []) dX7_thickest_85 rfl qm_173 (by decide) rfl (Nat.le_of_ble_eq_true rfl) rfl ⟨rfl, rfl⟩ ⟨Nat.le_of_ble_eq_true rfl, Nat.le_of_ble_eq_true rfl⟩ (EvP.mono (by decide) (c_M_greater hT )) (fun r22 P23 g24 => mpp 88 rfl ?_)
    obtain ⟨⟨x25, rfl, g26⟩, e27⟩ := g24
    have e27 := e27.symm
    subst e27
    have wx25 := ti_full x25
    replace g26 : (x25.toInt = v2.toInt ∧ x19.toInt ≤ v2.toInt) ∨ (x25.toInt = x19.toInt ∧ v2.toInt ≤ x19.toInt) := g26
    show MEvP _ none q_211 88 [(0, .ref 301), (1, .int t1), (2, .int v2), (3, .int v3), (4, .int v4), (5, .int v5), (6, .int v6)] [.int x25] _ _ _ _
    refine mp_a (a_istore_n (L' := [(2, .int x25), (0, .ref 301), (1, .int t1), (3, .int v3), (4, .int v4), (5, .int v5), (6, .int v6)]) dX7_thickest_88 (by decide) rfl) (mpp 89 rfl ?_)
    obtain ⟨z28, h29⟩ := ti_ex (v6 + 1 : Int32)
    have wz28 := ti_full z28
    refine mp_a (a_iinc (v := z28) (L' := [(6, .int z28), (2, .int x25), (0, .ref 301), (1, .int t1), (3, .int v3), (4, .int v4), (5, .int v5)]) dX7_thickest_89 (by decide) rfl h29 rfl) (mpp 92 rfl ?_)
    try have e30 : z28.toInt = v6.toInt + 1 := ti_addz h29 rfl rfl (by omega) (by omega)
    refine mp_a (a_goto (t := 65) dX7_thickest_92 (by decide)) ?_
    refine MEvP.less (L := [(0, .ref 301), (1, .int t1), (2, .int x25), (3, .int v3), (4, .int v4), (5, .int v5), (6, .int z28)]) rfl rfl ⟨rfl, rfl, rfl, rfl, rfl, rfl, rfl, trivial⟩ ?_
    have i31 : 0 ≤ t1.toInt := by omega
    have i32 : t1.toInt ≤ 7 := by omega
    have i33 : 0 ≤ v3.toInt := by omega
    have i34 : v3.toInt ≤ 7 := by omega
    exact ih _ (by omega) _ _ _ _ _ i31 i32 i33 i34 hmO rfl

