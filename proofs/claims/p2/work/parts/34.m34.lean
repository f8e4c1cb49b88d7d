/-! methods on typed pools, 34 (written by a program) -/
set_option maxHeartbeats 4000000 in
theorem c_M_otherwise_l5 {Po : mP} {t1 : Int32} {t2 : Int32} (hT : Typ Po)  (hp0 : 0 ≤ t1.toInt) (hp1 : t1.toInt ≤ 7)  : ∀ (n : Nat) (v3 : Int32) (v4 : Int32), (0 ≤ v4.toInt) → (2147483647 - v4.toInt).toNat = n → MEvP 4 none q_178 5 [(0, .ref 301), (1, .int t1), (2, .int t2), (3, .int v3), (4, .int v4)] [] Po 0 0 (fun r P' => (∃ x : Int32, r = some (.int x) ∧ (True)) ∧ P' = Po) := by
  intro n
  induction n using Nat.strongRecOn with | _ n ih => ?_
  intro v3 v4 i_0 hm
  have w_t1 := ti_full t1
  have w_t2 := ti_full t2
  have w_v3 := ti_full v3
  have w_v4 := ti_full v4
  refine mp_a (a_iload dX7_otherwise_5 rfl) (mpp 7 rfl ?_)
  refine mp_a (a_aload_n dX7_otherwise_7 rfl) (mpp 8 rfl ?_)
  refine mp_a (a_iload_n dX7_otherwise_8 rfl) (mpp 9 rfl ?_)
  have p1 : 0 ≤ t1.toInt := by omega
  have p2 : t1.toInt ≤ 7 := by omega
  refine mt_callv (i := 88) (q' := q_136) (As := [.int t1]) (rest := [.int v4]) hT dX7_otherwise_9 rfl qm_136 (by decide) rfl rl_301 (by decide) rfl (Nat.le_of_ble_eq_true rfl) rfl ⟨rfl, rfl⟩ ⟨Nat.le_of_ble_eq_true rfl, Nat.le_of_ble_eq_true rfl⟩ (EvP.mono (by decide) (c_M_creases hT p1 p2 )) (fun r3 P4 g5 => mpp 12 rfl ?_)
  obtain ⟨⟨x6, rfl, g7⟩, e8⟩ := g5
  have e8 := e8.symm
  subst e8
  have wx6 := ti_full x6
  have g7 : -1 ≤ x6.toInt ∧ x6.toInt ≤ 8 ∧ x6.toInt ≤ (fv Po 302 (4 + 19 * t1.toInt.toNat)).toInt ∧ (fv Po 302 (4 + 19 * t1.toInt.toNat)).toInt - 1 ≤ x6.toInt := g7
  have g9 := ti_full (fv Po 302 (4 + 19 * t1.toInt.toNat))
  show MEvP _ none q_178 12 [(0, .ref 301), (1, .int t1), (2, .int t2), (3, .int v3), (4, .int v4)] [.int x6, .int v4] _ _ _ _
  refine mp_Tb (t := 68) (j_icmp_ge dX7_otherwise_12) (by decide) (fun c10 => ?_) (fun c10 => mpp 15 rfl ?_)
  · have c10 : v4.toInt ≥ x6.toInt := ti_ge c10
    refine mp_a (a_iload_n dX7_otherwise_68 rfl) (mpp 69 rfl ?_)
    exact mp_iret ⟨⟨_, rfl, trivial⟩, rfl⟩ dX7_otherwise_69 (Or.inl rfl)
  · have c10 : v4.toInt < x6.toInt := ti_ge_n c10
    refine mp_a (a_iload_n dX7_otherwise_15 rfl) (mpp 16 rfl ?_)
    refine mp_a (a_iload dX7_otherwise_16 rfl) (mpp 18 rfl ?_)
    obtain ⟨z11, h12⟩ := ti_ex (t2 >>> (v4 &&& 31) : Int32)
    have wz11 := ti_full z11
    refine mp_t (s_ishr (v := z11) dX7_otherwise_18 h12) (mpp 19 rfl ?_)
    refine mp_a (a_iconst (v := 1) dX7_otherwise_19 rfl) (mpp 20 rfl ?_)
    obtain ⟨z13, h14⟩ := ti_ex (z11 &&& 1 : Int32)
    have wz13 := ti_full z13
    refine mp_t (s_iand (v := z13) dX7_otherwise_20 h14) (mpp 21 rfl ?_)
    refine mp_a (a_iconst (v := 1) dX7_otherwise_21 rfl) (mpp 22 rfl ?_)
    refine mp_Tb (t := 29) (j_icmp_ne dX7_otherwise_22) (by decide) (fun c15 => ?_) (fun c15 => mpp 25 rfl ?_)
    · have c15 : z13.toInt ≠ 1 := ti_ne c15
      refine mp_a (a_iconst (v := 1) dX7_otherwise_29 rfl) (mpp 30 rfl ?_)
      refine mp_a (a_istore (L' := [(5, .int 1), (0, .ref 301), (1, .int t1), (2, .int t2), (3, .int v3), (4, .int v4)]) dX7_otherwise_30 (by decide) rfl) (mpp 32 rfl ?_)
      refine mp_a (a_iload_n dX7_otherwise_32 rfl) (mpp 33 rfl ?_)
      refine mp_a (a_aload_n dX7_otherwise_33 rfl) (mpp 34 rfl ?_)
      refine mp_a (a_iload_n dX7_otherwise_34 rfl) (mpp 35 rfl ?_)
      refine mp_a (a_iload dX7_otherwise_35 rfl) (mpp 37 rfl ?_)
      have p16 : 0 ≤ t1.toInt := by omega
      have p17 : t1.toInt ≤ 7 := by omega
      have p18 : 0 ≤ v4.toInt := by omega
      have p19 : v4.toInt ≤ 7 := by omega
      refine mt_callv (i := 92) (q' := q_146) (As := [.int t1, .int v4]) (rest := [.int v3]) hT dX7_otherwise_37 rfl qm_146 (by decide) rfl rl_301 (by decide) rfl (Nat.le_of_ble_eq_true rfl) rfl ⟨rfl, rfl⟩ ⟨Nat.le_of_ble_eq_true rfl, Nat.le_of_ble_eq_true rfl⟩ (EvP.mono (by decide) (c_M_creaseOf hT p16 p17 p18 p19 )) (fun r20 P21 g22 => mpp 40 rfl ?_)
      obtain ⟨⟨x23, rfl, g24⟩, e25⟩ := g22
      have e25 := e25.symm
      subst e25
      have wx23 := ti_full x23
      have g24 : x23.toInt = (fv Po 302 (14 + 19 * t1.toInt.toNat + v4.toInt.toNat)).toInt := g24
      show MEvP _ none q_178 40 [(5, .int 1), (0, .ref 301), (1, .int t1), (2, .int t2), (3, .int v3), (4, .int v4)] [.int x23, .int v3] _ _ _ _
      refine mp_Tb (t := 59) (j_if_eq dX7_otherwise_40) (by decide) (fun c26 => ?_) (fun c26 => mpp 43 rfl ?_)
      · have c26 : x23.toInt = 0 := ti_eq c26
        refine mp_a (a_iconst (v := 0) dX7_otherwise_59 rfl) (mpp 60 rfl ?_)
        obtain ⟨z27, h28⟩ := ti_ex (v3 + 0 : Int32)
        have wz27 := ti_full z27
        refine mp_t (s_iadd (v := z27) dX7_otherwise_60 h28) (mpp 61 rfl ?_)
        try have e29 : z27.toInt = v3.toInt + 0 := ti_addz h28 rfl rfl (by omega) (by omega)
        refine mp_a (a_istore_n (L' := [(3, .int z27), (5, .int 1), (0, .ref 301), (1, .int t1), (2, .int t2), (4, .int v4)]) dX7_otherwise_61 (by decide) rfl) (mpp 62 rfl ?_)
        obtain ⟨z30, h31⟩ := ti_ex (v4 + 1 : Int32)
        have wz30 := ti_full z30
        refine mp_a (a_iinc (v := z30) (L' := [(4, .int z30), (3, .int z27), (5, .int 1), (0, .ref 301), (1, .int t1), (2, .int t2)]) dX7_otherwise_62 (by decide) rfl h31 rfl) (mpp 65 rfl ?_)
        try have e32 : z30.toInt = v4.toInt + 1 := ti_addz h31 rfl rfl (by omega) (by omega)
        refine mp_a (a_goto (t := 5) dX7_otherwise_65 (by decide)) ?_
        refine MEvP.less (L := [(0, .ref 301), (1, .int t1), (2, .int t2), (3, .int z27), (4, .int z30)]) rfl rfl ⟨rfl, rfl, rfl, rfl, rfl, trivial⟩ ?_
        have i33 : 0 ≤ z30.toInt := by omega
        exact ih _ (by omega) _ _ i33 rfl
      · have c26 : x23.toInt ≠ 0 := ti_eq_n c26
        refine mp_a (a_aload_n dX7_otherwise_43 rfl) (mpp 44 rfl ?_)
        refine mp_a (a_iload_n dX7_otherwise_44 rfl) (mpp 45 rfl ?_)
        refine mp_a (a_iload dX7_otherwise_45 rfl) (mpp 47 rfl ?_)
        have p34 : 0 ≤ t1.toInt := by omega
        have p35 : t1.toInt ≤ 7 := by omega
        have p36 : 0 ≤ v4.toInt := by omega
        have p37 : v4.toInt ≤ 7 := by omega
        refine mt_callv (i := 92) (q' := q_146) (As := [.int t1, .int v4]) (rest := [.int v3]) hT dX7_otherwise_47 rfl qm_146 (by decide) rfl rl_301 (by decide) rfl (Nat.le_of_ble_eq_true rfl) rfl ⟨rfl, rfl⟩ ⟨Nat.le_of_ble_eq_true rfl, Nat.le_of_ble_eq_true rfl⟩ (EvP.mono (by decide) (c_M_creaseOf hT p34 p35 p36 p37 )) (fun r38 P39 g40 => mpp 50 rfl ?_)
        obtain ⟨⟨x41, rfl, g42⟩, e43⟩ := g40
        have e43 := e43.symm
        subst e43
        have wx41 := ti_full x41
        have g42 : x41.toInt = (fv Po 302 (14 + 19 * t1.toInt.toNat + v4.toInt.toNat)).toInt := g42
        show MEvP _ none q_178 50 [(5, .int 1), (0, .ref 301), (1, .int t1), (2, .int t2), (3, .int v3), (4, .int v4)] [.int x41, .int v3] _ _ _ _
        refine mp_a (a_iload dX7_otherwise_50 rfl) (mpp 52 rfl ?_)
        refine mp_Tb (t := 59) (j_icmp_eq dX7_otherwise_52) (by decide) (fun c44 => ?_) (fun c44 => mpp 55 rfl ?_)
        · have c44 : x41.toInt = 1 := ti_eq c44
          refine mp_a (a_iconst (v := 0) dX7_otherwise_59 rfl) (mpp 60 rfl ?_)
          obtain ⟨z45, h46⟩ := ti_ex (v3 + 0 : Int32)
          have wz45 := ti_full z45
          refine mp_t (s_iadd (v := z45) dX7_otherwise_60 h46) (mpp 61 rfl ?_)
          try have e47 : z45.toInt = v3.toInt + 0 := ti_addz h46 rfl rfl (by omega) (by omega)
          refine mp_a (a_istore_n (L' := [(3, .int z45), (5, .int 1), (0, .ref 301), (1, .int t1), (2, .int t2), (4, .int v4)]) dX7_otherwise_61 (by decide) rfl) (mpp 62 rfl ?_)
          obtain ⟨z48, h49⟩ := ti_ex (v4 + 1 : Int32)
          have wz48 := ti_full z48
          refine mp_a (a_iinc (v := z48) (L' := [(4, .int z48), (3, .int z45), (5, .int 1), (0, .ref 301), (1, .int t1), (2, .int t2)]) dX7_otherwise_62 (by decide) rfl h49 rfl) (mpp 65 rfl ?_)
          try have e50 : z48.toInt = v4.toInt + 1 := ti_addz h49 rfl rfl (by omega) (by omega)
          refine mp_a (a_goto (t := 5) dX7_otherwise_65 (by decide)) ?_
          refine MEvP.less (L := [(0, .ref 301), (1, .int t1), (2, .int t2), (3, .int z45), (4, .int z48)]) rfl rfl ⟨rfl, rfl, rfl, rfl, rfl, trivial⟩ ?_
          have i51 : 0 ≤ z48.toInt := by omega
          exact ih _ (by omega) _ _ i51 rfl
        · have c44 : x41.toInt ≠ 1 := ti_eq_n c44
          refine mp_a (a_iconst (v := 1) dX7_otherwise_55 rfl) (mpp 56 rfl ?_)
          refine mp_a (a_goto (t := 60) dX7_otherwise_56 (by decide)) ?_
          obtain ⟨z52, h53⟩ := ti_ex (v3 + 1 : Int32)
          have wz52 := ti_full z52
          refine mp_t (s_iadd (v := z52) dX7_otherwise_60 h53) (mpp 61 rfl ?_)
          try have e54 : z52.toInt = v3.toInt + 1 := ti_addz h53 rfl rfl (by omega) (by omega)
          refine mp_a (a_istore_n (L' := [(3, .int z52), (5, .int 1), (0, .ref 301), (1, .int t1), (2, .int t2), (4, .int v4)]) dX7_otherwise_61 (by decide) rfl) (mpp 62 rfl ?_)
          obtain ⟨z55, h56⟩ := ti_ex (v4 + 1 : Int32)
          have wz55 := ti_full z55
          refine mp_a (a_iinc (v := z55) (L' := [(4, .int z55), (3, .int z52), (5, .int 1), (0, .ref 301), (1, .int t1), (2, .int t2)]) dX7_otherwise_62 (by decide) rfl h56 rfl) (mpp 65 rfl ?_)
          try have e57 : z55.toInt = v4.toInt + 1 := ti_addz h56 rfl rfl (by omega) (by omega)
          refine mp_a (a_goto (t := 5) dX7_otherwise_65 (by decide)) ?_
          refine MEvP.less (L := [(0, .ref 301), (1, .int t1), (2, .int t2), (3, .int z52), (4, .int z55)]) rfl rfl ⟨rfl, rfl, rfl, rfl, rfl, trivial⟩ ?_
          have i58 : 0 ≤ z55.toInt := by omega
          exact ih _ (by omega) _ _ i58 rfl
    · have c15 : z13.toInt = 1 := ti_ne_n c15
      refine mp_a (a_iconst (v := 2) dX7_otherwise_25 rfl) (mpp 26 rfl ?_)
      refine mp_a (a_goto (t := 30) dX7_otherwise_26 (by decide)) ?_
      refine mp_a (a_istore (L' := [(5, .int 2), (0, .ref 301), (1, .int t1), (2, .int t2), (3, .int v3), (4, .int v4)]) dX7_otherwise_30 (by decide) rfl) (mpp 32 rfl ?_)
      refine mp_a (a_iload_n dX7_otherwise_32 rfl) (mpp 33 rfl ?_)
      refine mp_a (a_aload_n dX7_otherwise_33 rfl) (mpp 34 rfl ?_)
      refine mp_a (a_iload_n dX7_otherwise_34 rfl) (mpp 35 rfl ?_)
      refine mp_a (a_iload dX7_otherwise_35 rfl) (mpp 37 rfl ?_)
      have p59 : 0 ≤ t1.toInt := by omega
      have p60 : t1.toInt ≤ 7 := by omega
      have p61 : 0 ≤ v4.toInt := by omega
      have p62 : v4.toInt ≤ 7 := by omega
      refine mt_callv (i := 92) (q' := q_146) (As := [.int t1, .int v4]) (rest := [.int v3]) hT dX7_otherwise_37 rfl qm_146 (by decide) rfl rl_301 (by decide) rfl (Nat.le_of_ble_eq_true rfl) rfl ⟨rfl, rfl⟩ ⟨Nat.le_of_ble_eq_true rfl, Nat.le_of_ble_eq_true rfl⟩ (EvP.mono (by decide) (c_M_creaseOf hT p59 p60 p61 p62 )) (fun r63 P64 g65 => mpp 40 rfl ?_)
      obtain ⟨⟨x66, rfl, g67⟩, e68⟩ := g65
      have e68 := e68.symm
      subst e68
      have wx66 := ti_full x66
      have g67 : x66.toInt = (fv Po 302 (14 + 19 * t1.toInt.toNat + v4.toInt.toNat)).toInt := g67
      show MEvP _ none q_178 40 [(5, .int 2), (0, .ref 301), (1, .int t1), (2, .int t2), (3, .int v3), (4, .int v4)] [.int x66, .int v3] _ _ _ _
      refine mp_Tb (t := 59) (j_if_eq dX7_otherwise_40) (by decide) (fun c69 => ?_) (fun c69 => mpp 43 rfl ?_)
      · have c69 : x66.toInt = 0 := ti_eq c69
        refine mp_a (a_iconst (v := 0) dX7_otherwise_59 rfl) (mpp 60 rfl ?_)
        obtain ⟨z70, h71⟩ := ti_ex (v3 + 0 : Int32)
        have wz70 := ti_full z70
        refine mp_t (s_iadd (v := z70) dX7_otherwise_60 h71) (mpp 61 rfl ?_)
        try have e72 : z70.toInt = v3.toInt + 0 := ti_addz h71 rfl rfl (by omega) (by omega)
        refine mp_a (a_istore_n (L' := [(3, .int z70), (5, .int 2), (0, .ref 301), (1, .int t1), (2, .int t2), (4, .int v4)]) dX7_otherwise_61 (by decide) rfl) (mpp 62 rfl ?_)
        obtain ⟨z73, h74⟩ := ti_ex (v4 + 1 : Int32)
        have wz73 := ti_full z73
        refine mp_a (a_iinc (v := z73) (L' := [(4, .int z73), (3, .int z70), (5, .int 2), (0, .ref 301), (1, .int t1), (2, .int t2)]) dX7_otherwise_62 (by decide) rfl h74 rfl) (mpp 65 rfl ?_)
        try have e75 : z73.toInt = v4.toInt + 1 := ti_addz h74 rfl rfl (by omega) (by omega)
        refine mp_a (a_goto (t := 5) dX7_otherwise_65 (by decide)) ?_
        refine MEvP.less (L := [(0, .ref 301), (1, .int t1), (2, .int t2), (3, .int z70), (4, .int z73)]) rfl rfl ⟨rfl, rfl, rfl, rfl, rfl, trivial⟩ ?_
        have i76 : 0 ≤ z73.toInt := by omega
        exact ih _ (by omega) _ _ i76 rfl
      · have c69 : x66.toInt ≠ 0 := ti_eq_n c69
        refine mp_a (a_aload_n dX7_otherwise_43 rfl) (mpp 44 rfl ?_)
        refine mp_a (a_iload_n dX7_otherwise_44 rfl) (mpp 45 rfl ?_)
        refine mp_a (a_iload dX7_otherwise_45 rfl) (mpp 47 rfl ?_)
        have p77 : 0 ≤ t1.toInt := by omega
        have p78 : t1.toInt ≤ 7 := by omega
        have p79 : 0 ≤ v4.toInt := by omega
        have p80 : v4.toInt ≤ 7 := by omega
        refine mt_callv (i := 92) (q' := q_146) (As := [.int t1, .int v4]) (rest := [.int v3]) hT dX7_otherwise_47 rfl qm_146 (by decide) rfl rl_301 (by decide) rfl (Nat.le_of_ble_eq_true rfl) rfl ⟨rfl, rfl⟩ ⟨Nat.le_of_ble_eq_true rfl, Nat.le_of_ble_eq_true rfl⟩ (EvP.mono (by decide) (c_M_creaseOf hT p77 p78 p79 p80 )) (fun r81 P82 g83 => mpp 50 rfl ?_)
        obtain ⟨⟨x84, rfl, g85⟩, e86⟩ := g83
        have e86 := e86.symm
        subst e86
        have wx84 := ti_full x84
        have g85 : x84.toInt = (fv Po 302 (14 + 19 * t1.toInt.toNat + v4.toInt.toNat)).toInt := g85
        show MEvP _ none q_178 50 [(5, .int 2), (0, .ref 301), (1, .int t1), (2, .int t2), (3, .int v3), (4, .int v4)] [.int x84, .int v3] _ _ _ _
        refine mp_a (a_iload dX7_otherwise_50 rfl) (mpp 52 rfl ?_)
        refine mp_Tb (t := 59) (j_icmp_eq dX7_otherwise_52) (by decide) (fun c87 => ?_) (fun c87 => mpp 55 rfl ?_)
        · have c87 : x84.toInt = 2 := ti_eq c87
          refine mp_a (a_iconst (v := 0) dX7_otherwise_59 rfl) (mpp 60 rfl ?_)
          obtain ⟨z88, h89⟩ := ti_ex (v3 + 0 : Int32)
          have wz88 := ti_full z88
          refine mp_t (s_iadd (v := z88) dX7_otherwise_60 h89) (mpp 61 rfl ?_)
          try have e90 : z88.toInt = v3.toInt + 0 := ti_addz h89 rfl rfl (by omega) (by omega)
          refine mp_a (a_istore_n (L' := [(3, .int z88), (5, .int 2), (0, .ref 301), (1, .int t1), (2, .int t2), (4, .int v4)]) dX7_otherwise_61 (by decide) rfl) (mpp 62 rfl ?_)
          obtain ⟨z91, h92⟩ := ti_ex (v4 + 1 : Int32)
          have wz91 := ti_full z91
          refine mp_a (a_iinc (v := z91) (L' := [(4, .int z91), (3, .int z88), (5, .int 2), (0, .ref 301), (1, .int t1), (2, .int t2)]) dX7_otherwise_62 (by decide) rfl h92 rfl) (mpp 65 rfl ?_)
          try have e93 : z91.toInt = v4.toInt + 1 := ti_addz h92 rfl rfl (by omega) (by omega)
          refine mp_a (a_goto (t := 5) dX7_otherwise_65 (by decide)) ?_
          refine MEvP.less (L := [(0, .ref 301), (1, .int t1), (2, .int t2), (3, .int z88), (4, .int z91)]) rfl rfl ⟨rfl, rfl, rfl, rfl, rfl, trivial⟩ ?_
          have i94 : 0 ≤ z91.toInt := by omega
          exact ih _ (by omega) _ _ i94 rfl
        · have c87 : x84.toInt ≠ 2 := ti_eq_n c87
          refine mp_a (a_iconst (v := 1) dX7_otherwise_55 rfl) (mpp 56 rfl ?_)
          refine mp_a (a_goto (t := 60) dX7_otherwise_56 (by decide)) ?_
          obtain ⟨z95, h96⟩ := ti_ex (v3 + 1 : Int32)
          have wz95 := ti_full z95
          refine mp_t (s_iadd (v := z95) dX7_otherwise_60 h96) (mpp 61 rfl ?_)
          try have e97 : z95.toInt = v3.toInt + 1 := ti_addz h96 rfl rfl (by omega) (by omega)
          refine mp_a (a_istore_n (L' := [(3, .int z95), (5, .int 2), (0, .ref 301), (1, .int t1), (2, .int t2), (4, .int v4)]) dX7_otherwise_61 (by decide) rfl) (mpp 62 rfl ?_)
          obtain ⟨z98, h99⟩ := ti_ex (v4 + 1 : Int32)
          have wz98 := ti_full z98
          refine mp_a (a_iinc (v := z98) (L' := [(4, .int z98), (3, .int z95), (5, .int 2), (0, .ref 301), (1, .int t1), (2, .int t2)]) dX7_otherwise_62 (by decide) rfl h99 rfl) (mpp 65 rfl ?_)
          try have e100 : z98.toInt = v4.toInt + 1 := ti_addz h99 rfl rfl (by omega) (by omega)
          refine mp_a (a_goto (t := 5) dX7_otherwise_65 (by decide)) ?_
          refine MEvP.less (L := [(0, .ref 301), (1, .int t1), (2, .int t2), (3, .int z95), (4, .int z98)]) rfl rfl ⟨rfl, rfl, rfl, rfl, rfl, trivial⟩ ?_
          have i101 : 0 ≤ z98.toInt := by omega
          exact ih _ (by omega) _ _ i101 rfl

set_option maxHeartbeats 4000000 in
theorem c_M_otherwise {Po : mP} {t1 : Int32} {t2 : Int32} (hT : Typ Po)  (hp0 : 0 ≤ t1.toInt) (hp1 : t1.toInt ≤ 7)  : EvP 5 178 [.ref 301, .int t1, .int t2] Po (fun r P' => (∃ x : Int32, r = some (.int x) ∧ (True)) ∧ P' = Po) := by
  refine EvP.of qm_178 (Nat.le_of_ble_eq_true rfl) rfl ?_
  show MEvP _ none q_178 0 [(0, .ref 301), (1, .int t1), (2, .int t2)] [] _ 0 0 _
  refine mp_a (a_iconst (v := 0) dX7_otherwise_0 rfl) (mpp 1 rfl ?_)
  refine mp_a (a_istore_n (L' := [(3, .int 0), (0, .ref 301), (1, .int t1), (2, .int t2)]) dX7_otherwise_1 (by decide) rfl) (mpp 2 rfl ?_)
  refine mp_a (a_iconst (v := 0) dX7_otherwise_2 rfl) (mpp 3 rfl ?_)
  refine mp_a (a_istore (L' := [(4, .int 0), (3, .int 0), (0, .ref 301), (1, .int t1), (2, .int t2)]) dX7_otherwise_3 (by decide) rfl) (mpp 5 rfl ?_)
  refine MEvP.less (L := [(0, .ref 301), (1, .int t1), (2, .int t2), (3, .int 0), (4, .int 0)]) rfl rfl ⟨rfl, rfl, rfl, rfl, rfl, trivial⟩ ?_
  have i1 : 0 ≤ (0 : Int) := by omega
  exact c_M_otherwise_l5 hT  hp0 hp1 _ _ _ i1 rfl

set_option maxHeartbeats 4000000 in
theorem c_M_laysBy_l7 {Po : mP} {t1 : Int32} {t2 : Int32} (hp0 : 0 ≤ t1.toInt) (hp1 : t1.toInt ≤ 7)  : ∀ (n : Nat) (v3 : Int32), ∀ (P : mP), Typ P → KW [1101, 1102, 1536, 1600] Po P → (0 ≤ v3.toInt) → (2147483647 - v3.toInt).toNat = n → MEvP 4 none q_180 7 [(0, .ref 301), (1, .int t1), (2, .int t2), (3, .int v3)] [] P 0 0 (fun r P' => (r = none ∧ (True)) ∧ Typ P' ∧ KW [1101, 1102, 1536, 1600] Po P' ∧ True) := by
  intro n
  induction n using Nat.strongRecOn with | _ n ih => ?_
  intro v3 P hT hK i_0 hm
  have w_t1 := ti_full t1
  have w_t2 := ti_full t2
  have w_v3 := ti_full v3
  refine mp_a (a_iload_n dX7_laysBy_7 rfl) (mpp 8 rfl ?_)
  refine mp_a (a_aload_n dX7_laysBy_8 rfl) (mpp 9 rfl ?_)
  refine mp_a (a_iload_n dX7_laysBy_9 rfl) (mpp 10 rfl ?_)
  have p1 : 0 ≤ t1.toInt := by omega
  have p2 : t1.toInt ≤ 7 := by omega
  refine mt_callv (i := 88) (q' := q_136) (As := [.int t1]) (rest := [.int v3]) hT dX7_laysBy_10 rfl qm_136 (by decide) rfl rl_301 (by decide) rfl (Nat.le_of_ble_eq_true rfl) rfl ⟨rfl, rfl⟩ ⟨Nat.le_of_ble_eq_true rfl, Nat.le_of_ble_eq_true rfl⟩ (EvP.mono (by decide) (c_M_creases hT p1 p2 )) (fun r3 P4 g5 => mpp 13 rfl ?_)
  obtain ⟨⟨x6, rfl, g7⟩, e8⟩ := g5
  have e8 := e8.symm
  subst e8
  have wx6 := ti_full x6
  have g7 : -1 ≤ x6.toInt ∧ x6.toInt ≤ 8 ∧ x6.toInt ≤ (fv P 302 (4 + 19 * t1.toInt.toNat)).toInt ∧ (fv P 302 (4 + 19 * t1.toInt.toNat)).toInt - 1 ≤ x6.toInt := g7
  have g9 := ti_full (fv P 302 (4 + 19 * t1.toInt.toNat))
  show MEvP _ none q_180 13 [(0, .ref 301), (1, .int t1), (2, .int t2), (3, .int v3)] [.int x6, .int v3] _ _ _ _
  refine mp_Tb (t := 42) (j_icmp_ge dX7_laysBy_13) (by decide) (fun c10 => ?_) (fun c10 => mpp 16 rfl ?_)
  · have c10 : v3.toInt ≥ x6.toInt := ti_ge c10
    exact mp_ret ⟨⟨rfl, trivial⟩, hT, hK, trivial⟩ dX7_laysBy_42 rfl
  · have c10 : v3.toInt < x6.toInt := ti_ge_n c10
    refine mp_a (a_aload_n dX7_laysBy_16 rfl) (mpp 17 rfl ?_)
    refine mt_getU (i := 31) (k := 12) (A := 309) hT dX7_laysBy_17 rfl rl_301 (by decide) rfl (by decide) rfl un_25 (mpp 20 rfl ?_)
    refine mp_a (a_iload_n dX7_laysBy_20 rfl) (mpp 21 rfl ?_)
    refine mp_a (a_iload_n dX7_laysBy_21 rfl) (mpp 22 rfl ?_)
    refine mp_a (a_iload_n dX7_laysBy_22 rfl) (mpp 23 rfl ?_)
    obtain ⟨z11, h12⟩ := ti_ex (t2 >>> (v3 &&& 31) : Int32)
    have wz11 := ti_full z11
    refine mp_t (s_ishr (v := z11) dX7_laysBy_23 h12) (mpp 24 rfl ?_)
    refine mp_a (a_iconst (v := 1) dX7_laysBy_24 rfl) (mpp 25 rfl ?_)
    obtain ⟨z13, h14⟩ := ti_ex (z11 &&& 1 : Int32)
    have wz13 := ti_full z13
    refine mp_t (s_iand (v := z13) dX7_laysBy_25 h14) (mpp 26 rfl ?_)
    refine mp_a (a_iconst (v := 1) dX7_laysBy_26 rfl) (mpp 27 rfl ?_)
    refine mp_Tb (t := 34) (j_icmp_ne dX7_laysBy_27) (by decide) (fun c15 => ?_) (fun c15 => mpp 30 rfl ?_)
    · have c15 : z13.toInt ≠ 1 := ti_ne c15
      refine mp_a (a_iconst (v := 1) dX7_laysBy_34 rfl) (mpp 35 rfl ?_)
      refine mt_ias (n := 8) hT dX7_laysBy_35 rl_309 (by decide) rfl rfl (by omega) (by omega) rfl (by decide) (fun P16 hT17 f18 f19 f20 => mpp 36 rfl ?_)
      have k21 : KW [1101, 1102, 1536, 1600] Po P16 := KW.step hK rl_309 rfl f19 f20
      obtain ⟨z22, h23⟩ := ti_ex (v3 + 1 : Int32)
      have wz22 := ti_full z22
      refine mp_a (a_iinc (v := z22) (L' := [(3, .int z22), (0, .ref 301), (1, .int t1), (2, .int t2)]) dX7_laysBy_36 (by decide) rfl h23 rfl) (mpp 39 rfl ?_)
      try have e24 : z22.toInt = v3.toInt + 1 := ti_addz h23 rfl rfl (by omega) (by omega)
      refine mp_a (a_goto (t := 7) dX7_laysBy_39 (by decide)) ?_
      refine MEvP.less (L := [(0, .ref 301), (1, .int t1), (2, .int t2), (3, .int z22)]) rfl rfl ⟨rfl, rfl, rfl, rfl, trivial⟩ ?_
      have i25 : 0 ≤ z22.toInt := by omega
      exact ih _ (by omega) _ P16 hT17 k21 i25 rfl
    · have c15 : z13.toInt = 1 := ti_ne_n c15
      refine mp_a (a_iconst (v := 2) dX7_laysBy_30 rfl) (mpp 31 rfl ?_)
      refine mp_a (a_goto (t := 35) dX7_laysBy_31 (by decide)) ?_
      refine mt_ias (n := 8) hT dX7_laysBy_35 rl_309 (by decide) rfl rfl (by omega) (by omega) rfl (by decide) (fun P26 hT27 f28 f29 f30 => mpp 36 rfl ?_)
      have k31 : KW [1101, 1102, 1536, 1600] Po P26 := KW.step hK rl_309 rfl f29 f30
      obtain ⟨z32, h33⟩ := ti_ex (v3 + 1 : Int32)
      have wz32 := ti_full z32
      refine mp_a (a_iinc (v := z32) (L' := [(3, .int z32), (0, .ref 301), (1, .int t1), (2, .int t2)]) dX7_laysBy_36 (by decide) rfl h33 rfl) (mpp 39 rfl ?_)
      try have e34 : z32.toInt = v3.toInt + 1 := ti_addz h33 rfl rfl (by omega) (by omega)
      refine mp_a (a_goto (t := 7) dX7_laysBy_39 (by decide)) ?_
      refine MEvP.less (L := [(0, .ref 301), (1, .int t1), (2, .int t2), (3, .int z32)]) rfl rfl ⟨rfl, rfl, rfl, rfl, trivial⟩ ?_
      have i35 : 0 ≤ z32.toInt := by omega
      exact ih _ (by omega) _ P26 hT27 k31 i35 rfl

set_option maxHeartbeats 4000000 in
theorem c_M_laysBy {Po : mP} {t1 : Int32} {t2 : Int32} (hT : Typ Po)  (hp0 : 0 ≤ t1.toInt) (hp1 : t1.toInt ≤ 7)  : EvP 5 180 [.ref 301, .int t1, .int t2] Po (fun r P' => (r = none ∧ (True)) ∧ Typ P' ∧ KW [1101, 1102, 1536, 1600] Po P' ∧ True) := by
  refine EvP.of qm_180 (Nat.le_of_ble_eq_true rfl) rfl ?_
  show MEvP _ none q_180 0 [(0, .ref 301), (1, .int t1), (2, .int t2)] [] _ 0 0 _
  refine mp_a (a_aload_n dX7_laysBy_0 rfl) (mpp 1 rfl ?_)
  refine mp_a (a_iload_n dX7_laysBy_1 rfl) (mpp 2 rfl ?_)
  have p1 : 0 ≤ t1.toInt := by omega
  have p2 : t1.toInt ≤ 7 := by omega
  refine mt_callv (i := 196) (q' := q_164) (As := [.int t1]) (rest := []) hT dX7_laysBy_2 rfl qm_164 (by decide) rfl rl_301 (by decide) rfl (Nat.le_of_ble_eq_true rfl) rfl ⟨rfl, rfl⟩ ⟨Nat.le_of_ble_eq_true rfl, Nat.le_of_ble_eq_true rfl⟩ (EvP.mono (by decide) (c_M_lays hT p1 p2 )) (fun r3 P4 g5 => mpp 5 rfl ?_)
  obtain ⟨⟨rfl, g7⟩, hT8, k9, R10⟩ := g5
  have k11 : KW [1101, 1102, 1536, 1600] Po P4 := KW.trans KW.refl k9 rfl
  show MEvP _ none q_180 5 [(0, .ref 301), (1, .int t1), (2, .int t2)] [] _ _ _ _
  refine mp_a (a_iconst (v := 0) dX7_laysBy_5 rfl) (mpp 6 rfl ?_)
  refine mp_a (a_istore_n (L' := [(3, .int 0), (0, .ref 301), (1, .int t1), (2, .int t2)]) dX7_laysBy_6 (by decide) rfl) (mpp 7 rfl ?_)
  refine MEvP.less (L := [(0, .ref 301), (1, .int t1), (2, .int t2), (3, .int 0)]) rfl rfl ⟨rfl, rfl, rfl, rfl, trivial⟩ ?_
  have i13 : 0 ≤ (0 : Int) := by omega
  exact c_M_laysBy_l7   hp0 hp1 _ _ P4 hT8 k11 i13 rfl

set_option maxHeartbeats 4000000 in
theorem c_M_foldsBy {Po : mP} {t1 : Int32} {t2 : Int32} (hT : Typ Po)  (hp0 : 0 ≤ t1.toInt) (hp1 : t1.toInt ≤ 7)  : EvP 6 179 [.ref 301, .int t1, .int t2] Po (fun r P' => (∃ x : Int32, r = some (.int x) ∧ (0 ≤ x.toInt ∧ x.toInt ≤ 1)) ∧ Typ P' ∧ KW [1101, 1102, 1536, 1600] Po P' ∧ True) := by
  refine EvP.of qm_179 (Nat.le_of_ble_eq_true rfl) rfl ?_
  show MEvP _ none q_179 0 [(0, .ref 301), (1, .int t1), (2, .int t2)] [] _ 0 0 _
  refine mp_a (a_aload_n dX7_foldsBy_0 rfl) (mpp 1 rfl ?_)
  refine mp_a (a_iload_n dX7_foldsBy_1 rfl) (mpp 2 rfl ?_)
  refine mp_a (a_iload_n dX7_foldsBy_2 rfl) (mpp 3 rfl ?_)
  have p1 : 0 ≤ t1.toInt := by omega
  have p2 : t1.toInt ≤ 7 := by omega
  refine mt_callv (i := 215) (q' := q_180) (As := [.int t1, .int t2]) (rest := []) hT dX7_foldsBy_3 rfl qm_180 (by decide) rfl rl_301 (by decide) rfl (Nat.le_of_ble_eq_true rfl) rfl ⟨rfl, rfl⟩ ⟨Nat.le_of_ble_eq_true rfl, Nat.le_of_ble_eq_true rfl⟩ (EvP.mono (by decide) (c_M_laysBy hT p1 p2 )) (fun r3 P4 g5 => mpp 6 rfl ?_)
  obtain ⟨⟨rfl, g7⟩, hT8, k9, R10⟩ := g5
  have k11 : KW [1101, 1102, 1536, 1600] Po P4 := KW.trans KW.refl k9 rfl
  show MEvP _ none q_179 6 [(0, .ref 301), (1, .int t1), (2, .int t2)] [] _ _ _ _
  refine mp_a (a_aload_n dX7_foldsBy_6 rfl) (mpp 7 rfl ?_)
  refine mt_callv (i := 199) (q' := q_165) (As := []) (rest := []) hT8 dX7_foldsBy_7 rfl qm_165 (by decide) rfl rl_301 (by decide) rfl (Nat.le_of_ble_eq_true rfl) rfl ⟨rfl, rfl⟩ ⟨Nat.le_of_ble_eq_true rfl, Nat.le_of_ble_eq_true rfl⟩ (EvP.mono (by decide) (c_M_folds hT8 )) (fun r13 P14 g15 => mpp 10 rfl ?_)
  obtain ⟨⟨x16, rfl, g17⟩, hT18, k19, R20⟩ := g15
  have k21 : KW [1101, 1102, 1536, 1600] Po P14 := KW.trans k11 k19 rfl
  have wx16 := ti_full x16
  have g17 : 0 ≤ x16.toInt ∧ x16.toInt ≤ 1 := g17
  show MEvP _ none q_179 10 [(0, .ref 301), (1, .int t1), (2, .int t2)] [.int x16] _ _ _ _
  have u23 : 0 ≤ x16.toInt ∧ x16.toInt ≤ 1 := by omega
  exact mp_iret ⟨⟨_, rfl, u23⟩, hT18, k21, trivial⟩ dX7_foldsBy_10 (Or.inr ⟨rfl, ti_01 (by omega)⟩)

set_option maxHeartbeats 4000000 in
theorem c_M_ways_l16 {Po : mP} {t1 : Int32}  : ∀ (n : Nat) (v2 : Int32) (v3 : Int32), ∀ (P : mP), Typ P → KW [1101, 1102, 1536, 1600] Po P → (0 ≤ t1.toInt) → (t1.toInt ≤ 7) → (0 ≤ v3.toInt) → (2147483647 - v3.toInt).toNat = n → MEvP 6 none q_177 16 [(0, .ref 301), (1, .int t1), (2, .int v2), (3, .int v3)] [] P 0 0 (fun r P' => (∃ x : Int32, r = some (.int x) ∧ (True)) ∧ Typ P' ∧ KW [1101, 1102, 1536, 1600] Po P' ∧ True) := by
  intro n
  induction n using Nat.strongRecOn with | _ n ih => ?_
  intro v2 v3 P hT hK i_0 i_1 i_2 hm
  have w_t1 := ti_full t1
  have w_v2 := ti_full v2
  have w_v3 := ti_full v3
  refine mp_a (a_iload_n dX7_ways_16 rfl) (mpp 17 rfl ?_)
  refine mp_a (a_iconst (v := 1) dX7_ways_17 rfl) (mpp 18 rfl ?_)
  refine mp_a (a_aload_n dX7_ways_18 rfl) (mpp 19 rfl ?_)
  refine mp_a (a_iload_n dX7_ways_19 rfl) (mpp 20 rfl ?_)
  have p1 : 0 ≤ t1.toInt := by omega
  have p2 : t1.toInt ≤ 7 := by omega
  refine mt_callv (i := 88) (q' := q_136) (As := [.int t1]) (rest := [.int 1, .int v3]) hT dX7_ways_20 rfl qm_136 (by decide) rfl rl_301 (by decide) rfl (Nat.le_of_ble_eq_true rfl) rfl ⟨rfl, rfl⟩ ⟨Nat.le_of_ble_eq_true rfl, Nat.le_of_ble_eq_true rfl⟩ (EvP.mono (by decide) (c_M_creases hT p1 p2 )) (fun r3 P4 g5 => mpp 23 rfl ?_)
  obtain ⟨⟨x6, rfl, g7⟩, e8⟩ := g5
  have e8 := e8.symm
  subst e8
  have wx6 := ti_full x6
  have g7 : -1 ≤ x6.toInt ∧ x6.toInt ≤ 8 ∧ x6.toInt ≤ (fv P 302 (4 + 19 * t1.toInt.toNat)).toInt ∧ (fv P 302 (4 + 19 * t1.toInt.toNat)).toInt - 1 ≤ x6.toInt := g7
  have g9 := ti_full (fv P 302 (4 + 19 * t1.toInt.toNat))
  show MEvP _ none q_177 23 [(0, .ref 301), (1, .int t1), (2, .int v2), (3, .int v3)] [.int x6, .int 1, .int v3] _ _ _ _
  obtain ⟨z10, h11⟩ := ti_ex (1 <<< (x6 &&& 31) : Int32)
  have wz10 := ti_full z10
  refine mp_t (s_ishl (v := z10) dX7_ways_23 h11) (mpp 24 rfl ?_)
  refine mp_Tb (t := 59) (j_icmp_ge dX7_ways_24) (by decide) (fun c12 => ?_) (fun c12 => mpp 27 rfl ?_)
  · have c12 : v3.toInt ≥ z10.toInt := ti_ge c12
    refine mp_a (a_iload_n dX7_ways_59 rfl) (mpp 60 rfl ?_)
    exact mp_iret ⟨⟨_, rfl, trivial⟩, hT, hK, trivial⟩ dX7_ways_60 (Or.inl rfl)
  · have c12 : v3.toInt < z10.toInt := ti_ge_n c12
    refine mp_a (a_iload_n dX7_ways_27 rfl) (mpp 28 rfl ?_)
    refine mp_a (a_aload_n dX7_ways_28 rfl) (mpp 29 rfl ?_)
    refine mp_a (a_iload_n dX7_ways_29 rfl) (mpp 30 rfl ?_)
    refine mp_a (a_iload_n dX7_ways_30 rfl) (mpp 31 rfl ?_)
    have p13 : 0 ≤ t1.toInt := by omega
    have p14 : t1.toInt ≤ 7 := by omega
    refine mt_callv (i := 219) (q' := q_178) (As := [.int t1, .int v3]) (rest := [.int v2]) hT dX7_ways_31 rfl qm_178 (by decide) rfl rl_301 (by decide) rfl (Nat.le_of_ble_eq_true rfl) rfl ⟨rfl, rfl⟩ ⟨Nat.le_of_ble_eq_true rfl, Nat.le_of_ble_eq_true rfl⟩ (EvP.mono (by decide) (c_M_otherwise hT p13 p14 )) (fun r15 P16 g17 => mpp 34 rfl ?_)
    obtain ⟨⟨x18, rfl, g19⟩, e20⟩ := g17
    have e20 := e20.symm
    subst e20
    have wx18 := ti_full x18
    show MEvP _ none q_177 34 [(0, .ref 301), (1, .int t1), (2, .int v2), (3, .int v3)] [.int x18, .int v2] _ _ _ _
    refine mp_Tb (t := 50) (j_if_ne dX7_ways_34) (by decide) (fun c21 => ?_) (fun c21 => mpp 37 rfl ?_)
    · have c21 : x18.toInt ≠ 0 := ti_ne c21
      refine mp_a (a_iconst (v := 0) dX7_ways_50 rfl) (mpp 51 rfl ?_)
      obtain ⟨z22, h23⟩ := ti_ex (v2 + 0 : Int32)
      have wz22 := ti_full z22
      refine mp_t (s_iadd (v := z22) dX7_ways_51 h23) (mpp 52 rfl ?_)
      try have e24 : z22.toInt = v2.toInt + 0 := ti_addz h23 rfl rfl (by omega) (by omega)
      refine mp_a (a_istore_n (L' := [(2, .int z22), (0, .ref 301), (1, .int t1), (3, .int v3)]) dX7_ways_52 (by decide) rfl) (mpp 53 rfl ?_)
      obtain ⟨z25, h26⟩ := ti_ex (v3 + 1 : Int32)
      have wz25 := ti_full z25
      refine mp_a (a_iinc (v := z25) (L' := [(3, .int z25), (2, .int z22), (0, .ref 301), (1, .int t1)]) dX7_ways_53 (by decide) rfl h26 rfl) (mpp 56 rfl ?_)
      try have e27 : z25.toInt = v3.toInt + 1 := ti_addz h26 rfl rfl (by omega) (by omega)
      refine mp_a (a_goto (t := 16) dX7_ways_56 (by decide)) ?_
      refine MEvP.less (L := [(0, .ref 301), (1, .int t1), (2, .int z22), (3, .int z25)]) rfl rfl ⟨rfl, rfl, rfl, rfl, trivial⟩ ?_
      have i28 : 0 ≤ t1.toInt := by omega
      have i29 : t1.toInt ≤ 7 := by omega
      have i30 : 0 ≤ z25.toInt := by omega
      exact ih _ (by omega) _ _ P hT hK i28 i29 i30 rfl
    · have c21 : x18.toInt = 0 := ti_ne_n c21
      refine mp_a (a_aload_n dX7_ways_37 rfl) (mpp 38 rfl ?_)
      refine mp_a (a_iload_n dX7_ways_38 rfl) (mpp 39 rfl ?_)
      refine mp_a (a_iload_n dX7_ways_39 rfl) (mpp 40 rfl ?_)
      have p31 : 0 ≤ t1.toInt := by omega
      have p32 : t1.toInt ≤ 7 := by omega
      refine mt_callv (i := 222) (q' := q_179) (As := [.int t1, .int v3]) (rest := [.int v2]) hT dX7_ways_40 rfl qm_179 (by decide) rfl rl_301 (by decide) rfl (Nat.le_of_ble_eq_true rfl) rfl ⟨rfl, rfl⟩ ⟨Nat.le_of_ble_eq_true rfl, Nat.le_of_ble_eq_true rfl⟩ (EvP.mono (by decide) (c_M_foldsBy hT p31 p32 )) (fun r33 P34 g35 => mpp 43 rfl ?_)
      obtain ⟨⟨x36, rfl, g37⟩, hT38, k39, R40⟩ := g35
      have k41 : KW [1101, 1102, 1536, 1600] Po P34 := KW.trans hK k39 rfl
      have wx36 := ti_full x36
      have g37 : 0 ≤ x36.toInt ∧ x36.toInt ≤ 1 := g37
      show MEvP _ none q_177 43 [(0, .ref 301), (1, .int t1), (2, .int v2), (3, .int v3)] [.int x36, .int v2] _ _ _ _
      refine mp_Tb (t := 50) (j_if_eq dX7_ways_43) (by decide) (fun c43 => ?_) (fun c43 => mpp 46 rfl ?_)
      · have c43 : x36.toInt = 0 := ti_eq c43
        refine mp_a (a_iconst (v := 0) dX7_ways_50 rfl) (mpp 51 rfl ?_)
        obtain ⟨z44, h45⟩ := ti_ex (v2 + 0 : Int32)
        have wz44 := ti_full z44
        refine mp_t (s_iadd (v := z44) dX7_ways_51 h45) (mpp 52 rfl ?_)
        try have e46 : z44.toInt = v2.toInt + 0 := ti_addz h45 rfl rfl (by omega) (by omega)
        refine mp_a (a_istore_n (L' := [(2, .int z44), (0, .ref 301), (1, .int t1), (3, .int v3)]) dX7_ways_52 (by decide) rfl) (mpp 53 rfl ?_)
        obtain ⟨z47, h48⟩ := ti_ex (v3 + 1 : Int32)
        have wz47 := ti_full z47
        refine mp_a (a_iinc (v := z47) (L' := [(3, .int z47), (2, .int z44), (0, .ref 301), (1, .int t1)]) dX7_ways_53 (by decide) rfl h48 rfl) (mpp 56 rfl ?_)
        try have e49 : z47.toInt = v3.toInt + 1 := ti_addz h48 rfl rfl (by omega) (by omega)
        refine mp_a (a_goto (t := 16) dX7_ways_56 (by decide)) ?_
        refine MEvP.less (L := [(0, .ref 301), (1, .int t1), (2, .int z44), (3, .int z47)]) rfl rfl ⟨rfl, rfl, rfl, rfl, trivial⟩ ?_
        have i50 : 0 ≤ t1.toInt := by omega
        have i51 : t1.toInt ≤ 7 := by omega
        have i52 : 0 ≤ z47.toInt := by omega
        exact ih _ (by omega) _ _ P34 hT38 k41 i50 i51 i52 rfl
      · have c43 : x36.toInt ≠ 0 := ti_eq_n c43
        refine mp_a (a_iconst (v := 1) dX7_ways_46 rfl) (mpp 47 rfl ?_)
        refine mp_a (a_goto (t := 51) dX7_ways_47 (by decide)) ?_
        obtain ⟨z53, h54⟩ := ti_ex (v2 + 1 : Int32)
        have wz53 := ti_full z53
        refine mp_t (s_iadd (v := z53) dX7_ways_51 h54) (mpp 52 rfl ?_)
        try have e55 : z53.toInt = v2.toInt + 1 := ti_addz h54 rfl rfl (by omega) (by omega)
        refine mp_a (a_istore_n (L' := [(2, .int z53), (0, .ref 301), (1, .int t1), (3, .int v3)]) dX7_ways_52 (by decide) rfl) (mpp 53 rfl ?_)
        obtain ⟨z56, h57⟩ := ti_ex (v3 + 1 : Int32)
        have wz56 := ti_full z56
        refine mp_a (a_iinc (v := z56) (L' := [(3, .int z56), (2, .int z53), (0, .ref 301), (1, .int t1)]) dX7_ways_53 (by decide) rfl h57 rfl) (mpp 56 rfl ?_)
        try have e58 : z56.toInt = v3.toInt + 1 := ti_addz h57 rfl rfl (by omega) (by omega)
        refine mp_a (a_goto (t := 16) dX7_ways_56 (by decide)) ?_
        refine MEvP.less (L := [(0, .ref 301), (1, .int t1), (2, .int z53), (3, .int z56)]) rfl rfl ⟨rfl, rfl, rfl, rfl, trivial⟩ ?_
        have i59 : 0 ≤ t1.toInt := by omega
        have i60 : t1.toInt ≤ 7 := by omega
        have i61 : 0 ≤ z56.toInt := by omega
        exact ih _ (by omega) _ _ P34 hT38 k41 i59 i60 i61 rfl

set_option maxHeartbeats 4000000 in
theorem c_M_ways {Po : mP} {t1 : Int32} (hT : Typ Po)   : EvP 7 177 [.ref 301, .int t1] Po (fun r P' => (∃ x : Int32, r = some (.int x) ∧ (True)) ∧ Typ P' ∧ KW [1101, 1102, 1536, 1600] Po P' ∧ True) := by
  refine EvP.of qm_177 (Nat.le_of_ble_eq_true rfl) rfl ?_
  show MEvP _ none q_177 0 [(0, .ref 301), (1, .int t1)] [] _ 0 0 _
  refine mp_a (a_aload_n dX7_ways_0 rfl) (mpp 1 rfl ?_)
  refine mp_a (a_iload_n dX7_ways_1 rfl) (mpp 2 rfl ?_)
  refine mt_callv (i := 85) (q' := q_144) (As := [.int t1]) (rest := []) hT dX7_ways_2 rfl qm_144 (by decide) rfl rl_301 (by decide) rfl (Nat.le_of_ble_eq_true rfl) rfl ⟨rfl, rfl⟩ ⟨Nat.le_of_ble_eq_true rfl, Nat.le_of_ble_eq_true rfl⟩ (EvP.mono (by decide) (c_M_isPiece hT )) (fun r1 P2 g3 => mpp 5 rfl ?_)
  obtain ⟨⟨x4, rfl, g5⟩, e6⟩ := g3
  have e6 := e6.symm
  subst e6
  have wx4 := ti_full x4
  have g5 : 0 ≤ x4.toInt ∧ x4.toInt ≤ 1 ∧ ((x4.toInt = 1 ∧ 0 ≤ t1.toInt ∧ t1.toInt + 1 ≤ (fv Po 302 0).toInt ∧ t1.toInt ≤ 7) ∨ (x4.toInt = 0 ∧ (t1.toInt < 0 ∨ (fv Po 302 0).toInt ≤ t1.toInt))) := g5
  have g7 : (0 : Int) ≤ (fv Po 302 0).toInt ∧ (fv Po 302 0).toInt ≤ 8 := Typ.rng hT rl_302 (by decide) (by decide) rfl
  show MEvP _ none q_177 5 [(0, .ref 301), (1, .int t1)] [.int x4] _ _ _ _
  refine mp_Tb (t := 12) (j_if_ne dX7_ways_5) (by decide) (fun c8 => ?_) (fun c8 => mpp 8 rfl ?_)
  · have c8 : x4.toInt ≠ 0 := ti_ne c8
    refine mp_a (a_iconst (v := 0) dX7_ways_12 rfl) (mpp 13 rfl ?_)
    refine mp_a (a_istore_n (L' := [(2, .int 0), (0, .ref 301), (1, .int t1)]) dX7_ways_13 (by decide) rfl) (mpp 14 rfl ?_)
    refine mp_a (a_iconst (v := 0) dX7_ways_14 rfl) (mpp 15 rfl ?_)
    refine mp_a (a_istore_n (L' := [(3, .int 0), (2, .int 0), (0, .ref 301), (1, .int t1)]) dX7_ways_15 (by decide) rfl) (mpp 16 rfl ?_)
    refine MEvP.less (L := [(0, .ref 301), (1, .int t1), (2, .int 0), (3, .int 0)]) rfl rfl ⟨rfl, rfl, rfl, rfl, trivial⟩ ?_
    have i9 : 0 ≤ t1.toInt := by omega
    have i10 : t1.toInt ≤ 7 := by omega
    have i11 : 0 ≤ (0 : Int) := by omega
    exact c_M_ways_l16    _ _ _ Po hT KW.refl i9 i10 i11 rfl
  · have c8 : x4.toInt = 0 := ti_ne_n c8
    refine mp_a (a_sipush (v := -1001) dX7_ways_8 rfl) (mpp 11 rfl ?_)
    exact mp_iret ⟨⟨_, rfl, trivial⟩, hT, KW.refl, trivial⟩ dX7_ways_11 (Or.inl rfl)

set_option maxHeartbeats 4000000 in
theorem c_M_fewest_l18 {Po : mP} {t1 : Int32}  : ∀ (n : Nat) (v2 : Int32) (v3 : Int32), ∀ (P : mP), Typ P → KW [1101, 1102, 1536, 1600] Po P → (0 ≤ t1.toInt) → (t1.toInt ≤ 7) → (0 ≤ v3.toInt) → (2147483647 - v3.toInt).toNat = n → MEvP 6 none q_181 18 [(0, .ref 301), (1, .int t1), (2, .int v2), (3, .int v3)] [] P 0 0 (fun r P' => (∃ x : Int32, r = some (.int x) ∧ (True)) ∧ Typ P' ∧ KW [1101, 1102, 1536, 1600] Po P' ∧ True) := by
  intro n
  induction n using Nat.strongRecOn with | _ n ih => ?_
  intro v2 v3 P hT hK i_0 i_1 i_2 hm
  have w_t1 := ti_full t1
  have w_v2 := ti_full v2
  have w_v3 := ti_full v3
  refine mp_a (a_iload_n dX7_fewest_18 rfl) (mpp 19 rfl ?_)
  refine mp_a (a_iconst (v := 1) dX7_fewest_19 rfl) (mpp 20 rfl ?_)
  refine mp_a (a_aload_n dX7_fewest_20 rfl) (mpp 21 rfl ?_)
  refine mp_a (a_iload_n dX7_fewest_21 rfl) (mpp 22 rfl ?_)
  have p1 : 0 ≤ t1.toInt := by omega
  have p2 : t1.toInt ≤ 7 := by omega
  refine mt_callv (i := 88) (q' := q_136) (As := [.int t1]) (rest := [.int 1, .int v3]) hT dX7_fewest_22 rfl qm_136 (by decide) rfl rl_301 (by decide) rfl (Nat.le_of_ble_eq_true rfl) rfl ⟨rfl, rfl⟩ ⟨Nat.le_of_ble_eq_true rfl, Nat.le_of_ble_eq_true rfl⟩ (EvP.mono (by decide) (c_M_creases hT p1 p2 )) (fun r3 P4 g5 => mpp 25 rfl ?_)
  obtain ⟨⟨x6, rfl, g7⟩, e8⟩ := g5
  have e8 := e8.symm
  subst e8
  have wx6 := ti_full x6
  have g7 : -1 ≤ x6.toInt ∧ x6.toInt ≤ 8 ∧ x6.toInt ≤ (fv P 302 (4 + 19 * t1.toInt.toNat)).toInt ∧ (fv P 302 (4 + 19 * t1.toInt.toNat)).toInt - 1 ≤ x6.toInt := g7
  have g9 := ti_full (fv P 302 (4 + 19 * t1.toInt.toNat))
  show MEvP _ none q_181 25 [(0, .ref 301), (1, .int t1), (2, .int v2), (3, .int v3)] [.int x6, .int 1, .int v3] _ _ _ _
  obtain ⟨z10, h11⟩ := ti_ex (1 <<< (x6 &&& 31) : Int32)
  have wz10 := ti_full z10
  refine mp_t (s_ishl (v := z10) dX7_fewest_25 h11) (mpp 26 rfl ?_)
  refine mp_Tb (t := 68) (j_icmp_ge dX7_fewest_26) (by decide) (fun c12 => ?_) (fun c12 => mpp 29 rfl ?_)
  · have c12 : v3.toInt ≥ z10.toInt := ti_ge c12
    refine mp_a (a_iload_n dX7_fewest_68 rfl) (mpp 69 rfl ?_)
    exact mp_iret ⟨⟨_, rfl, trivial⟩, hT, hK, trivial⟩ dX7_fewest_69 (Or.inl rfl)
  · have c12 : v3.toInt < z10.toInt := ti_ge_n c12
    refine mp_a (a_aload_n dX7_fewest_29 rfl) (mpp 30 rfl ?_)
    refine mp_a (a_iload_n dX7_fewest_30 rfl) (mpp 31 rfl ?_)
    refine mp_a (a_iload_n dX7_fewest_31 rfl) (mpp 32 rfl ?_)
    have p13 : 0 ≤ t1.toInt := by omega
    have p14 : t1.toInt ≤ 7 := by omega
    refine mt_callv (i := 219) (q' := q_178) (As := [.int t1, .int v3]) (rest := []) hT dX7_fewest_32 rfl qm_178 (by decide) rfl rl_301 (by decide) rfl (Nat.le_of_ble_eq_true rfl) rfl ⟨rfl, rfl⟩ ⟨Nat.le_of_ble_eq_true rfl, Nat.le_of_ble_eq_true rfl⟩ (EvP.mono (by decide) (c_M_otherwise hT p13 p14 )) (fun r15 P16 g17 => mpp 35 rfl ?_)
    obtain ⟨⟨x18, rfl, g19⟩, e20⟩ := g17
    have e20 := e20.symm
    subst e20
    have wx18 := ti_full x18
    show MEvP _ none q_181 35 [(0, .ref 301), (1, .int t1), (2, .int v2), (3, .int v3)] [.int x18] _ _ _ _
    refine mp_a (a_istore (L' := [(4, .int x18), (0, .ref 301), (1, .int t1), (2, .int v2), (3, .int v3)]) dX7_fewest_35 (by decide) rfl) (mpp 37 rfl ?_)
    refine mp_a (a_iload_n dX7_fewest_37 rfl) (mpp 38 rfl ?_)
    refine mp_a (a_sipush (v := -1004) dX7_fewest_38 rfl) (mpp 41 rfl ?_)
    refine mp_Tb (t := 50) (j_icmp_eq dX7_fewest_41) (by decide) (fun c21 => ?_) (fun c21 => mpp 44 rfl ?_)
    · have c21 : v2.toInt = (-1004) := ti_eq c21
      refine mp_a (a_aload_n dX7_fewest_50 rfl) (mpp 51 rfl ?_)
      refine mp_a (a_iload_n dX7_fewest_51 rfl) (mpp 52 rfl ?_)
      refine mp_a (a_iload_n dX7_fewest_52 rfl) (mpp 53 rfl ?_)
      have p22 : 0 ≤ t1.toInt := by omega
      have p23 : t1.toInt ≤ 7 := by omega
      refine mt_callv (i := 222) (q' := q_179) (As := [.int t1, .int v3]) (rest := []) hT dX7_fewest_53 rfl qm_179 (by decide) rfl rl_301 (by decide) rfl (Nat.le_of_ble_eq_true rfl) rfl ⟨rfl, rfl⟩ ⟨Nat.le_of_ble_eq_true rfl, Nat.le_of_ble_eq_true rfl⟩ (EvP.mono (by decide) (c_M_foldsBy hT p22 p23 )) (fun r24 P25 g26 => mpp 56 rfl ?_)
      obtain ⟨⟨x27, rfl, g28⟩, hT29, k30, R31⟩ := g26
      have k32 : KW [1101, 1102, 1536, 1600] Po P25 := KW.trans hK k30 rfl
      have wx27 := ti_full x27
      have g28 : 0 ≤ x27.toInt ∧ x27.toInt ≤ 1 := g28
      show MEvP _ none q_181 56 [(4, .int x18), (0, .ref 301), (1, .int t1), (2, .int v2), (3, .int v3)] [.int x27] _ _ _ _
      refine mp_Tb (t := 62) (j_if_eq dX7_fewest_56) (by decide) (fun c34 => ?_) (fun c34 => mpp 59 rfl ?_)
      · have c34 : x27.toInt = 0 := ti_eq c34
        obtain ⟨z35, h36⟩ := ti_ex (v3 + 1 : Int32)
        have wz35 := ti_full z35
        refine mp_a (a_iinc (v := z35) (L' := [(3, .int z35), (4, .int x18), (0, .ref 301), (1, .int t1), (2, .int v2)]) dX7_fewest_62 (by decide) rfl h36 rfl) (mpp 65 rfl ?_)
        try have e37 : z35.toInt = v3.toInt + 1 := ti_addz h36 rfl rfl (by omega) (by omega)
        refine mp_a (a_goto (t := 18) dX7_fewest_65 (by decide)) ?_
        refine MEvP.less (L := [(0, .ref 301), (1, .int t1), (2, .int v2), (3, .int z35)]) rfl rfl ⟨rfl, rfl, rfl, rfl, trivial⟩ ?_
        have i38 : 0 ≤ t1.toInt := by omega
        have i39 : t1.toInt ≤ 7 := by omega
        have i40 : 0 ≤ z35.toInt := by omega
        exact ih _ (by omega) _ _ P25 hT29 k32 i38 i39 i40 rfl
      · have c34 : x27.toInt ≠ 0 := ti_eq_n c34
        refine mp_a (a_iload dX7_fewest_59 rfl) (mpp 61 rfl ?_)
        refine mp_a (a_istore_n (L' := [(2, .int x18), (4, .int x18), (0, .ref 301), (1, .int t1), (3, .int v3)]) dX7_fewest_61 (by decide) rfl) (mpp 62 rfl ?_)
        obtain ⟨z41, h42⟩ := ti_ex (v3 + 1 : Int32)
        have wz41 := ti_full z41
        refine mp_a (a_iinc (v := z41) (L' := [(3, .int z41), (2, .int x18), (4, .int x18), (0, .ref 301), (1, .int t1)]) dX7_fewest_62 (by decide) rfl h42 rfl) (mpp 65 rfl ?_)
        try have e43 : z41.toInt = v3.toInt + 1 := ti_addz h42 rfl rfl (by omega) (by omega)
        refine mp_a (a_goto (t := 18) dX7_fewest_65 (by decide)) ?_
        refine MEvP.less (L := [(0, .ref 301), (1, .int t1), (2, .int x18), (3, .int z41)]) rfl rfl ⟨rfl, rfl, rfl, rfl, trivial⟩ ?_
        have i44 : 0 ≤ t1.toInt := by omega
        have i45 : t1.toInt ≤ 7 := by omega
        have i46 : 0 ≤ z41.toInt := by omega
        exact ih _ (by omega) _ _ P25 hT29 k32 i44 i45 i46 rfl
    · have c21 : v2.toInt ≠ (-1004) := ti_eq_n c21
      refine mp_a (a_iload dX7_fewest_44 rfl) (mpp 46 rfl ?_)
      refine mp_a (a_iload_n dX7_fewest_46 rfl) (mpp 47 rfl ?_)
      refine mp_Tb (t := 62) (j_icmp_ge dX7_fewest_47) (by decide) (fun c47 => ?_) (fun c47 => mpp 50 rfl ?_)
      · have c47 : x18.toInt ≥ v2.toInt := ti_ge c47
        obtain ⟨z48, h49⟩ := ti_ex (v3 + 1 : Int32)
        have wz48 := ti_full z48
        refine mp_a (a_iinc (v := z48) (L' := [(3, .int z48), (4, .int x18), (0, .ref 301), (1, .int t1), (2, .int v2)]) dX7_fewest_62 (by decide) rfl h49 rfl) (mpp 65 rfl ?_)
        try have e50 : z48.toInt = v3.toInt + 1 := ti_addz h49 rfl rfl (by omega) (by omega)
        refine mp_a (a_goto (t := 18) dX7_fewest_65 (by decide)) ?_
        refine MEvP.less (L := [(0, .ref 301), (1, .int t1), (2, .int v2), (3, .int z48)]) rfl rfl ⟨rfl, rfl, rfl, rfl, trivial⟩ ?_
        have i51 : 0 ≤ t1.toInt := by omega
        have i52 : t1.toInt ≤ 7 := by omega
        have i53 : 0 ≤ z48.toInt := by omega
        exact ih _ (by omega) _ _ P hT hK i51 i52 i53 rfl
      · have c47 : x18.toInt < v2.toInt := ti_ge_n c47
        refine mp_a (a_aload_n dX7_fewest_50 rfl) (mpp 51 rfl ?_)
        refine mp_a (a_iload_n dX7_fewest_51 rfl) (mpp 52 rfl ?_)
        refine mp_a (a_iload_n dX7_fewest_52 rfl) (mpp 53 rfl ?_)
        have p54 : 0 ≤ t1.toInt := by omega
        have p55 : t1.toInt ≤ 7 := by omega
        refine mt_callv (i := 222) (q' := q_179) (As := [.int t1, .int v3]) (rest := []) hT dX7_fewest_53 rfl qm_179 (by decide) rfl rl_301 (by decide) rfl (Nat.le_of_ble_eq_true rfl) rfl ⟨rfl, rfl⟩ ⟨Nat.le_of_ble_eq_true rfl, Nat.le_of_ble_eq_true rfl⟩ (EvP.mono (by decide) (c_M_foldsBy hT p54 p55 )) (fun r56 P57 g58 => mpp 56 rfl ?_)
        obtain ⟨⟨x59, rfl, g60⟩, hT61, k62, R63⟩ := g58
        have k64 : KW [1101, 1102, 1536, 1600] Po P57 := KW.trans hK k62 rfl
        have wx59 := ti_full x59
        have g60 : 0 ≤ x59.toInt ∧ x59.toInt ≤ 1 := g60
        show MEvP _ none q_181 56 [(4, .int x18), (0, .ref 301), (1, .int t1), (2, .int v2), (3, .int v3)] [.int x59] _ _ _ _
        refine mp_Tb (t := 62) (j_if_eq dX7_fewest_56) (by decide) (fun c66 => ?_) (fun c66 => mpp 59 rfl ?_)
        · have c66 : x59.toInt = 0 := ti_eq c66
          obtain ⟨z67, h68⟩ := ti_ex (v3 + 1 : Int32)
          have wz67 := ti_full z67
          refine mp_a (a_iinc (v := z67) (L' := [(3, .int z67), (4, .int x18), (0, .ref 301), (1, .int t1), (2, .int v2)]) dX7_fewest_62 (by decide) rfl h68 rfl) (mpp 65 rfl ?_)
          try have e69 : z67.toInt = v3.toInt + 1 := ti_addz h68 rfl rfl (by omega) (by omega)
          refine mp_a (a_goto (t := 18) dX7_fewest_65 (by decide)) ?_
          refine MEvP.less (L := [(0, .ref 301), (1, .int t1), (2, .int v2), (3, .int z67)]) rfl rfl ⟨rfl, rfl, rfl, rfl, trivial⟩ ?_
          have i70 : 0 ≤ t1.toInt := by omega
          have i71 : t1.toInt ≤ 7 := by omega
          have i72 : 0 ≤ z67.toInt := by omega
          exact ih _ (by omega) _ _ P57 hT61 k64 i70 i71 i72 rfl
        · have c66 : x59.toInt ≠ 0 := ti_eq_n c66
          refine mp_a (a_iload dX7_fewest_59 rfl) (mpp 61 rfl ?_)
          refine mp_a (a_istore_n (L' := [(2, .int x18), (4, .int x18), (0, .ref 301), (1, .int t1), (3, .int v3)]) dX7_fewest_61 (by decide) rfl) (mpp 62 rfl ?_)
          obtain ⟨z73, h74⟩ := ti_ex (v3 + 1 : Int32)
          have wz73 := ti_full z73
          refine mp_a (a_iinc (v := z73) (L' := [(3, .int z73), (2, .int x18), (4, .int x18), (0, .ref 301), (1, .int t1)]) dX7_fewest_62 (by decide) rfl h74 rfl) (mpp 65 rfl ?_)
          try have e75 : z73.toInt = v3.toInt + 1 := ti_addz h74 rfl rfl (by omega) (by omega)
          refine mp_a (a_goto (t := 18) dX7_fewest_65 (by decide)) ?_
          refine MEvP.less (L := [(0, .ref 301), (1, .int t1), (2, .int x18), (3, .int z73)]) rfl rfl ⟨rfl, rfl, rfl, rfl, trivial⟩ ?_
          have i76 : 0 ≤ t1.toInt := by omega
          have i77 : t1.toInt ≤ 7 := by omega
          have i78 : 0 ≤ z73.toInt := by omega
          exact ih _ (by omega) _ _ P57 hT61 k64 i76 i77 i78 rfl

set_option maxHeartbeats 4000000 in
theorem c_M_fewest {Po : mP} {t1 : Int32} (hT : Typ Po)   : EvP 7 181 [.ref 301, .int t1] Po (fun r P' => (∃ x : Int32, r = some (.int x) ∧ (True)) ∧ Typ P' ∧ KW [1101, 1102, 1536, 1600] Po P' ∧ True) := by
  refine EvP.of qm_181 (Nat.le_of_ble_eq_true rfl) rfl ?_
  show MEvP _ none q_181 0 [(0, .ref 301), (1, .int t1)] [] _ 0 0 _
  refine mp_a (a_aload_n dX7_fewest_0 rfl) (mpp 1 rfl ?_)
  refine mp_a (a_iload_n dX7_fewest_1 rfl) (mpp 2 rfl ?_)
  refine mt_callv (i := 85) (q' := q_144) (As := [.int t1]) (rest := []) hT dX7_fewest_2 rfl qm_144 (by decide) rfl rl_301 (by decide) rfl (Nat.le_of_ble_eq_true rfl) rfl ⟨rfl, rfl⟩ ⟨Nat.le_of_ble_eq_true rfl, Nat.le_of_ble_eq_true rfl⟩ (EvP.mono (by decide) (c_M_isPiece hT )) (fun r1 P2 g3 => mpp 5 rfl ?_)
  obtain ⟨⟨x4, rfl, g5⟩, e6⟩ := g3
  have e6 := e6.symm
  subst e6
  have wx4 := ti_full x4
  have g5 : 0 ≤ x4.toInt ∧ x4.toInt ≤ 1 ∧ ((x4.toInt = 1 ∧ 0 ≤ t1.toInt ∧ t1.toInt + 1 ≤ (fv Po 302 0).toInt ∧ t1.toInt ≤ 7) ∨ (x4.toInt = 0 ∧ (t1.toInt < 0 ∨ (fv Po 302 0).toInt ≤ t1.toInt))) := g5
  have g7 : (0 : Int) ≤ (fv Po 302 0).toInt ∧ (fv Po 302 0).toInt ≤ 8 := Typ.rng hT rl_302 (by decide) (by decide) rfl
  show MEvP _ none q_181 5 [(0, .ref 301), (1, .int t1)] [.int x4] _ _ _ _
  refine mp_Tb (t := 12) (j_if_ne dX7_fewest_5) (by decide) (fun c8 => ?_) (fun c8 => mpp 8 rfl ?_)
  · have c8 : x4.toInt ≠ 0 := ti_ne c8
    refine mp_a (a_sipush (v := -1004) dX7_fewest_12 rfl) (mpp 15 rfl ?_)
    refine mp_a (a_istore_n (L' := [(2, .int (-1004)), (0, .ref 301), (1, .int t1)]) dX7_fewest_15 (by decide) rfl) (mpp 16 rfl ?_)
    refine mp_a (a_iconst (v := 0) dX7_fewest_16 rfl) (mpp 17 rfl ?_)
    refine mp_a (a_istore_n (L' := [(3, .int 0), (2, .int (-1004)), (0, .ref 301), (1, .int t1)]) dX7_fewest_17 (by decide) rfl) (mpp 18 rfl ?_)
    refine MEvP.less (L := [(0, .ref 301), (1, .int t1), (2, .int (-1004)), (3, .int 0)]) rfl rfl ⟨rfl, rfl, rfl, rfl, trivial⟩ ?_
    have i9 : 0 ≤ t1.toInt := by omega
    have i10 : t1.toInt ≤ 7 := by omega
    have i11 : 0 ≤ (0 : Int) := by omega
    exact c_M_fewest_l18    _ _ _ Po hT KW.refl i9 i10 i11 rfl
  · have c8 : x4.toInt = 0 := ti_ne_n c8
    refine mp_a (a_sipush (v := -1001) dX7_fewest_8 rfl) (mpp 11 rfl ?_)
    exact mp_iret ⟨⟨_, rfl, trivial⟩, hT, KW.refl, trivial⟩ dX7_fewest_11 (Or.inl rfl)

set_option maxHeartbeats 4000000 in
theorem c_M_isStripWithout {Po : mP} {t1 : Int32} {t2 : Int32} {t3 : Int32} (hT : Typ Po)  (hp0 : 0 ≤ t1.toInt) (hp1 : t1.toInt ≤ 7)  : EvP 4 209 [.ref 301, .int t1, .int t2, .int t3] Po (fun r P' => (∃ x : Int32, r = some (.int x) ∧ (0 ≤ x.toInt ∧ x.toInt ≤ 1 ∧ (x.toInt = 1 ∨ (fv Po 302 (3 + 19 * t1.toInt.toNat)).toInt = 1 ∨ (0 ≤ t2.toInt ∧ t2.toInt ≤ t3.toInt)))) ∧ P' = Po) := by
  refine EvP.of qm_209 (Nat.le_of_ble_eq_true rfl) rfl ?_
  show MEvP _ none q_209 0 [(0, .ref 301), (1, .int t1), (2, .int t2), (3, .int t3)] [] _ 0 0 _
  have g1 := ti_full (fv Po 302 (3 + 19 * t1.toInt.toNat))
  refine mp_a (a_aload_n dX7_isStripWithout_0 rfl) (mpp 1 rfl ?_)
  refine mp_a (a_iload_n dX7_isStripWithout_1 rfl) (mpp 2 rfl ?_)
  have p2 : 0 ≤ t1.toInt := by omega
  have p3 : t1.toInt ≤ 7 := by omega
  refine mt_callv (i := 81) (q' := q_138) (As := [.int t1]) (rest := []) hT dX7_isStripWithout_2 rfl qm_138 (by decide) rfl rl_301 (by decide) rfl (Nat.le_of_ble_eq_true rfl) rfl ⟨rfl, rfl⟩ ⟨Nat.le_of_ble_eq_true rfl, Nat.le_of_ble_eq_true rfl⟩ (EvP.mono (by decide) (c_M_isCorner hT p2 p3 )) (fun r4 P5 g6 => mpp 5 rfl ?_)
  obtain ⟨⟨x7, rfl, g8⟩, e9⟩ := g6
  have e9 := e9.symm
  subst e9
  have wx7 := ti_full x7
  have g8 : 0 ≤ x7.toInt ∧ x7.toInt ≤ 1 ∧ ((x7.toInt = 1 ∧ (fv Po 302 (3 + 19 * t1.toInt.toNat)).toInt = 1) ∨ (x7.toInt = 0 ∧ (fv Po 302 (3 + 19 * t1.toInt.toNat)).toInt = 0)) := g8
  show MEvP _ none q_209 5 [(0, .ref 301), (1, .int t1), (2, .int t2), (3, .int t3)] [.int x7] _ _ _ _
  refine mp_Tb (t := 21) (j_if_ne dX7_isStripWithout_5) (by decide) (fun c10 => ?_) (fun c10 => mpp 8 rfl ?_)
  · have c10 : x7.toInt ≠ 0 := ti_ne c10
    refine mp_a (a_iconst (v := 0) dX7_isStripWithout_21 rfl) (mpp 22 rfl ?_)
    have u11 : 0 ≤ (0 : Int) ∧ (0 : Int) ≤ 1 ∧ ((0 : Int) = 1 ∨ (fv Po 302 (3 + 19 * t1.toInt.toNat)).toInt = 1 ∨ (0 ≤ t2.toInt ∧ t2.toInt ≤ t3.toInt)) := by omega
    exact mp_iret ⟨⟨_, rfl, u11⟩, rfl⟩ dX7_isStripWithout_22 (Or.inr ⟨rfl, by decide⟩)
  · have c10 : x7.toInt = 0 := ti_ne_n c10
    refine mp_a (a_iload_n dX7_isStripWithout_8 rfl) (mpp 9 rfl ?_)
    refine mp_a (a_iconst (v := 0) dX7_isStripWithout_9 rfl) (mpp 10 rfl ?_)
    refine mp_a (a_iload_n dX7_isStripWithout_10 rfl) (mpp 11 rfl ?_)
    refine mp_calls (i := 61) (q' := q_127) (As := [.int t2, .int 0, .int t3]) (rest := []) dX7_isStripWithout_11 rfl qm_127 (by decide) rfl (Nat.le_of_ble_eq_true rfl) rfl ⟨rfl, rfl⟩ ⟨Nat.le_of_ble_eq_true rfl, Nat.le_of_ble_eq_true rfl⟩ (EvP.mono (by decide) (c_M_isIn hT )) (fun r12 P13 g14 => mpp 14 rfl ?_)
    obtain ⟨⟨x15, rfl, g16⟩, e17⟩ := g14
    have e17 := e17.symm
    subst e17
    have wx15 := ti_full x15
    have g16 : 0 ≤ x15.toInt ∧ x15.toInt ≤ 1 ∧ ((x15.toInt = 1 ∧ (0 : Int) ≤ t2.toInt ∧ t2.toInt ≤ t3.toInt) ∨ (x15.toInt = 0 ∧ (t2.toInt < (0 : Int) ∨ t3.toInt < t2.toInt))) := g16
    show MEvP _ none q_209 14 [(0, .ref 301), (1, .int t1), (2, .int t2), (3, .int t3)] [.int x15] _ _ _ _
    refine mp_Tb (t := 21) (j_if_ne dX7_isStripWithout_14) (by decide) (fun c18 => ?_) (fun c18 => mpp 17 rfl ?_)
    · have c18 : x15.toInt ≠ 0 := ti_ne c18
      refine mp_a (a_iconst (v := 0) dX7_isStripWithout_21 rfl) (mpp 22 rfl ?_)
      have u19 : 0 ≤ (0 : Int) ∧ (0 : Int) ≤ 1 ∧ ((0 : Int) = 1 ∨ (fv Po 302 (3 + 19 * t1.toInt.toNat)).toInt = 1 ∨ (0 ≤ t2.toInt ∧ t2.toInt ≤ t3.toInt)) := by omega
      exact mp_iret ⟨⟨_, rfl, u19⟩, rfl⟩ dX7_isStripWithout_22 (Or.inr ⟨rfl, by decide⟩)
    · have c18 : x15.toInt = 0 := ti_ne_n c18
      refine mp_a (a_iconst (v := 1) dX7_isStripWithout_17 rfl) (mpp 18 rfl ?_)
      refine mp_a (a_goto (t := 22) dX7_isStripWithout_18 (by decide)) ?_
      have u20 : 0 ≤ (1 : Int) ∧ (1 : Int) ≤ 1 ∧ ((1 : Int) = 1 ∨ (fv Po 302 (3 + 19 * t1.toInt.toNat)).toInt = 1 ∨ (0 ≤ t2.toInt ∧ t2.toInt ≤ t3.toInt)) := by omega
      exact mp_iret ⟨⟨_, rfl, u20⟩, rfl⟩ dX7_isStripWithout_22 (Or.inr ⟨rfl, by decide⟩)

