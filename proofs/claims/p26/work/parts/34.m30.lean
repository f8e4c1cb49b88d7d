/-! methods on typed pools, 30 (written by a program) -/
set_option maxHeartbeats 4000000 in
theorem c_M_otherwise_l5 {Po : mP} {t1 : Int32} {t2 : Int32} (hT : Typ Po)  (hp0 : 0 ≤ t1.toInt) (hp1 : t1.toInt ≤ 7)  : ∀ (n : Nat) (v3 : Int32) (v4 : Int32), (0 ≤ v4.toInt) → (2147483647 - v4.toInt).toNat = n → MEvP 4 none q_178 5 [(0, .ref 301), (1, .int t1), (2, .int t2), (3, .int v3), (4, .int v4)] [] Po 0 0 (fun r P' => (∃ x : Int32, r = some (.int x) ∧ (True)) ∧ P' = Po) := by
  intro n
  induction n using Nat.strongRecOn with | _ n ih => ?_
  intro v3 v4 i_0 hm
  have w_v3 := ti_full v3
  have w_v4 := ti_full v4
  refine mp_a (a_iload dX7_otherwise_5 rfl) (mpp 7 rfl ?_)
  refine mp_a (a_aload_n dX7_otherwise_7 rfl) (mpp 8 rfl ?_)
  refine mp_a (a_iload_n dX7_otherwise_8 rfl) (mpp 9 rfl ?_)
  have p1 : 0 ≤ t1.toInt := by omega
  have p2 : t1.toInt ≤ 7 := by omega
  refine mt_callv (i := 88) (q' := q_136) (As := [.int t1]) (rest := [.int v4]) hT dX7_otherwise_9 rfl qm_136 (by decide) rfl rl_301 (by decide) rfl (Nat.le_of_ble_eq_true rfl) rfl ⟨rfl, rfl⟩ ⟨Nat.le_of_ble_eq_true rfl, Nat.le_of_ble_eq_true rfl⟩ (EvP.mono (by decide) (c_M_creases hT p1 p2 )) (fun r3 P4 g5 => mpp 12 rfl ?_)
  obtain ⟨⟨x6, rfl, g7⟩, e8⟩ := g5
  have e8 := e8.symm
  subst e8
  have wx6 := ti_full x6
  have g7 : -1 ≤ x6.toInt ∧ x6.toInt ≤ 8 ∧ x6.toInt ≤ (fv Po 302 (4 + 19 * t1.toInt.toNat)).toInt := g7
  show MEvP _ none q_178 12 [(0, .ref 301), (1, .int t1), (2, .int t2), (3, .int v3), (4, .int v4)] [.int x6, .int v4] _ _ _ _
  refine mp_Tb (t := 68) (j_icmp_ge dX7_otherwise_12) (by decide) (fun c9 => ?_) (fun c9 => mpp 15 rfl ?_)
  · have c9 : v4.toInt ≥ x6.toInt := ti_ge c9
    refine mp_a (a_iload_n dX7_otherwise_68 rfl) (mpp 69 rfl ?_)
    exact mp_iret ⟨⟨_, rfl, trivial⟩, rfl⟩ dX7_otherwise_69 (Or.inl rfl)
  · have c9 : v4.toInt < x6.toInt := ti_ge_n c9
    refine mp_a (a_iload_n dX7_otherwise_15 rfl) (mpp 16 rfl ?_)
    refine mp_a (a_iload dX7_otherwise_16 rfl) (mpp 18 rfl ?_)
    obtain ⟨z10, h11⟩ := ti_ex (t2 >>> (v4 &&& 31) : Int32)
    have wz10 := ti_full z10
    refine mp_t (s_ishr (v := z10) dX7_otherwise_18 h11) (mpp 19 rfl ?_)
    refine mp_a (a_iconst (v := 1) dX7_otherwise_19 rfl) (mpp 20 rfl ?_)
    obtain ⟨z12, h13⟩ := ti_ex (z10 &&& 1 : Int32)
    have wz12 := ti_full z12
    refine mp_t (s_iand (v := z12) dX7_otherwise_20 h13) (mpp 21 rfl ?_)
    refine mp_a (a_iconst (v := 1) dX7_otherwise_21 rfl) (mpp 22 rfl ?_)
    refine mp_Tb (t := 29) (j_icmp_ne dX7_otherwise_22) (by decide) (fun c14 => ?_) (fun c14 => mpp 25 rfl ?_)
    · have c14 : z12.toInt ≠ 1 := ti_ne c14
      refine mp_a (a_iconst (v := 1) dX7_otherwise_29 rfl) (mpp 30 rfl ?_)
      refine mp_a (a_istore (L' := [(5, .int 1), (0, .ref 301), (1, .int t1), (2, .int t2), (3, .int v3), (4, .int v4)]) dX7_otherwise_30 (by decide) rfl) (mpp 32 rfl ?_)
      refine mp_a (a_iload_n dX7_otherwise_32 rfl) (mpp 33 rfl ?_)
      refine mp_a (a_aload_n dX7_otherwise_33 rfl) (mpp 34 rfl ?_)
      refine mp_a (a_iload_n dX7_otherwise_34 rfl) (mpp 35 rfl ?_)
      refine mp_a (a_iload dX7_otherwise_35 rfl) (mpp 37 rfl ?_)
      have p15 : 0 ≤ t1.toInt := by omega
      have p16 : t1.toInt ≤ 7 := by omega
      have p17 : 0 ≤ v4.toInt := by omega
      have p18 : v4.toInt ≤ 7 := by omega
      refine mt_callv (i := 92) (q' := q_146) (As := [.int t1, .int v4]) (rest := [.int v3]) hT dX7_otherwise_37 rfl qm_146 (by decide) rfl rl_301 (by decide) rfl (Nat.le_of_ble_eq_true rfl) rfl ⟨rfl, rfl⟩ ⟨Nat.le_of_ble_eq_true rfl, Nat.le_of_ble_eq_true rfl⟩ (EvP.mono (by decide) (c_M_creaseOf hT p15 p16 p17 p18 )) (fun r19 P20 g21 => mpp 40 rfl ?_)
      obtain ⟨⟨x22, rfl, g23⟩, e24⟩ := g21
      have e24 := e24.symm
      subst e24
      have wx22 := ti_full x22
      have g23 : x22.toInt = (fv Po 302 (14 + 19 * t1.toInt.toNat + v4.toInt.toNat)).toInt := g23
      show MEvP _ none q_178 40 [(5, .int 1), (0, .ref 301), (1, .int t1), (2, .int t2), (3, .int v3), (4, .int v4)] [.int x22, .int v3] _ _ _ _
      refine mp_Tb (t := 59) (j_if_eq dX7_otherwise_40) (by decide) (fun c25 => ?_) (fun c25 => mpp 43 rfl ?_)
      · have c25 : x22.toInt = 0 := ti_eq c25
        refine mp_a (a_iconst (v := 0) dX7_otherwise_59 rfl) (mpp 60 rfl ?_)
        obtain ⟨z26, h27⟩ := ti_ex (v3 + 0 : Int32)
        have wz26 := ti_full z26
        refine mp_t (s_iadd (v := z26) dX7_otherwise_60 h27) (mpp 61 rfl ?_)
        try have e28 : z26.toInt = v3.toInt + 0 := ti_addz h27 rfl rfl (by omega) (by omega)
        refine mp_a (a_istore_n (L' := [(3, .int z26), (5, .int 1), (0, .ref 301), (1, .int t1), (2, .int t2), (4, .int v4)]) dX7_otherwise_61 (by decide) rfl) (mpp 62 rfl ?_)
        obtain ⟨z29, h30⟩ := ti_ex (v4 + 1 : Int32)
        have wz29 := ti_full z29
        refine mp_a (a_iinc (v := z29) (L' := [(4, .int z29), (3, .int z26), (5, .int 1), (0, .ref 301), (1, .int t1), (2, .int t2)]) dX7_otherwise_62 (by decide) rfl h30 rfl) (mpp 65 rfl ?_)
        try have e31 : z29.toInt = v4.toInt + 1 := ti_addz h30 rfl rfl (by omega) (by omega)
        refine mp_a (a_goto (t := 5) dX7_otherwise_65 (by decide)) ?_
        refine MEvP.less (L := [(0, .ref 301), (1, .int t1), (2, .int t2), (3, .int z26), (4, .int z29)]) rfl rfl ⟨rfl, rfl, rfl, rfl, rfl, trivial⟩ ?_
        have i32 : 0 ≤ z29.toInt := by omega
        exact ih _ (by omega) _ _ i32 rfl
      · have c25 : x22.toInt ≠ 0 := ti_eq_n c25
        refine mp_a (a_aload_n dX7_otherwise_43 rfl) (mpp 44 rfl ?_)
        refine mp_a (a_iload_n dX7_otherwise_44 rfl) (mpp 45 rfl ?_)
        refine mp_a (a_iload dX7_otherwise_45 rfl) (mpp 47 rfl ?_)
        have p33 : 0 ≤ t1.toInt := by omega
        have p34 : t1.toInt ≤ 7 := by omega
        have p35 : 0 ≤ v4.toInt := by omega
        have p36 : v4.toInt ≤ 7 := by omega
        refine mt_callv (i := 92) (q' := q_146) (As := [.int t1, .int v4]) (rest := [.int v3]) hT dX7_otherwise_47 rfl qm_146 (by decide) rfl rl_301 (by decide) rfl (Nat.le_of_ble_eq_true rfl) rfl ⟨rfl, rfl⟩ ⟨Nat.le_of_ble_eq_true rfl, Nat.le_of_ble_eq_true rfl⟩ (EvP.mono (by decide) (c_M_creaseOf hT p33 p34 p35 p36 )) (fun r37 P38 g39 => mpp 50 rfl ?_)
        obtain ⟨⟨x40, rfl, g41⟩, e42⟩ := g39
        have e42 := e42.symm
        subst e42
        have wx40 := ti_full x40
        have g41 : x40.toInt = (fv Po 302 (14 + 19 * t1.toInt.toNat + v4.toInt.toNat)).toInt := g41
        show MEvP _ none q_178 50 [(5, .int 1), (0, .ref 301), (1, .int t1), (2, .int t2), (3, .int v3), (4, .int v4)] [.int x40, .int v3] _ _ _ _
        refine mp_a (a_iload dX7_otherwise_50 rfl) (mpp 52 rfl ?_)
        refine mp_Tb (t := 59) (j_icmp_eq dX7_otherwise_52) (by decide) (fun c43 => ?_) (fun c43 => mpp 55 rfl ?_)
        · have c43 : x40.toInt = 1 := ti_eq c43
          refine mp_a (a_iconst (v := 0) dX7_otherwise_59 rfl) (mpp 60 rfl ?_)
          obtain ⟨z44, h45⟩ := ti_ex (v3 + 0 : Int32)
          have wz44 := ti_full z44
          refine mp_t (s_iadd (v := z44) dX7_otherwise_60 h45) (mpp 61 rfl ?_)
          try have e46 : z44.toInt = v3.toInt + 0 := ti_addz h45 rfl rfl (by omega) (by omega)
          refine mp_a (a_istore_n (L' := [(3, .int z44), (5, .int 1), (0, .ref 301), (1, .int t1), (2, .int t2), (4, .int v4)]) dX7_otherwise_61 (by decide) rfl) (mpp 62 rfl ?_)
          obtain ⟨z47, h48⟩ := ti_ex (v4 + 1 : Int32)
          have wz47 := ti_full z47
          refine mp_a (a_iinc (v := z47) (L' := [(4, .int z47), (3, .int z44), (5, .int 1), (0, .ref 301), (1, .int t1), (2, .int t2)]) dX7_otherwise_62 (by decide) rfl h48 rfl) (mpp 65 rfl ?_)
          try have e49 : z47.toInt = v4.toInt + 1 := ti_addz h48 rfl rfl (by omega) (by omega)
          refine mp_a (a_goto (t := 5) dX7_otherwise_65 (by decide)) ?_
          refine MEvP.less (L := [(0, .ref 301), (1, .int t1), (2, .int t2), (3, .int z44), (4, .int z47)]) rfl rfl ⟨rfl, rfl, rfl, rfl, rfl, trivial⟩ ?_
          have i50 : 0 ≤ z47.toInt := by omega
          exact ih _ (by omega) _ _ i50 rfl
        · have c43 : x40.toInt ≠ 1 := ti_eq_n c43
          refine mp_a (a_iconst (v := 1) dX7_otherwise_55 rfl) (mpp 56 rfl ?_)
          refine mp_a (a_goto (t := 60) dX7_otherwise_56 (by decide)) ?_
          obtain ⟨z51, h52⟩ := ti_ex (v3 + 1 : Int32)
          have wz51 := ti_full z51
          refine mp_t (s_iadd (v := z51) dX7_otherwise_60 h52) (mpp 61 rfl ?_)
          try have e53 : z51.toInt = v3.toInt + 1 := ti_addz h52 rfl rfl (by omega) (by omega)
          refine mp_a (a_istore_n (L' := [(3, .int z51), (5, .int 1), (0, .ref 301), (1, .int t1), (2, .int t2), (4, .int v4)]) dX7_otherwise_61 (by decide) rfl) (mpp 62 rfl ?_)
          obtain ⟨z54, h55⟩ := ti_ex (v4 + 1 : Int32)
          have wz54 := ti_full z54
          refine mp_a (a_iinc (v := z54) (L' := [(4, .int z54), (3, .int z51), (5, .int 1), (0, .ref 301), (1, .int t1), (2, .int t2)]) dX7_otherwise_62 (by decide) rfl h55 rfl) (mpp 65 rfl ?_)
          try have e56 : z54.toInt = v4.toInt + 1 := ti_addz h55 rfl rfl (by omega) (by omega)
          refine mp_a (a_goto (t := 5) dX7_otherwise_65 (by decide)) ?_
          refine MEvP.less (L := [(0, .ref 301), (1, .int t1), (2, .int t2), (3, .int z51), (4, .int z54)]) rfl rfl ⟨rfl, rfl, rfl, rfl, rfl, trivial⟩ ?_
          have i57 : 0 ≤ z54.toInt := by omega
          exact ih _ (by omega) _ _ i57 rfl
    · have c14 : z12.toInt = 1 := ti_ne_n c14
      refine mp_a (a_iconst (v := 2) dX7_otherwise_25 rfl) (mpp 26 rfl ?_)
      refine mp_a (a_goto (t := 30) dX7_otherwise_26 (by decide)) ?_
      refine mp_a (a_istore (L' := [(5, .int 2), (0, .ref 301), (1, .int t1), (2, .int t2), (3, .int v3), (4, .int v4)]) dX7_otherwise_30 (by decide) rfl) (mpp 32 rfl ?_)
      refine mp_a (a_iload_n dX7_otherwise_32 rfl) (mpp 33 rfl ?_)
      refine mp_a (a_aload_n dX7_otherwise_33 rfl) (mpp 34 rfl ?_)
      refine mp_a (a_iload_n dX7_otherwise_34 rfl) (mpp 35 rfl ?_)
      refine mp_a (a_iload dX7_otherwise_35 rfl) (mpp 37 rfl ?_)
      have p58 : 0 ≤ t1.toInt := by omega
      have p59 : t1.toInt ≤ 7 := by omega
      have p60 : 0 ≤ v4.toInt := by omega
      have p61 : v4.toInt ≤ 7 := by omega
      refine mt_callv (i := 92) (q' := q_146) (As := [.int t1, .int v4]) (rest := [.int v3]) hT dX7_otherwise_37 rfl qm_146 (by decide) rfl rl_301 (by decide) rfl (Nat.le_of_ble_eq_true rfl) rfl ⟨rfl, rfl⟩ ⟨Nat.le_of_ble_eq_true rfl, Nat.le_of_ble_eq_true rfl⟩ (EvP.mono (by decide) (c_M_creaseOf hT p58 p59 p60 p61 )) (fun r62 P63 g64 => mpp 40 rfl ?_)
      obtain ⟨⟨x65, rfl, g66⟩, e67⟩ := g64
      have e67 := e67.symm
      subst e67
      have wx65 := ti_full x65
      have g66 : x65.toInt = (fv Po 302 (14 + 19 * t1.toInt.toNat + v4.toInt.toNat)).toInt := g66
      show MEvP _ none q_178 40 [(5, .int 2), (0, .ref 301), (1, .int t1), (2, .int t2), (3, .int v3), (4, .int v4)] [.int x65, .int v3] _ _ _ _
      refine mp_Tb (t := 59) (j_if_eq dX7_otherwise_40) (by decide) (fun c68 => ?_) (fun c68 => mpp 43 rfl ?_)
      · have c68 : x65.toInt = 0 := ti_eq c68
        refine mp_a (a_iconst (v := 0) dX7_otherwise_59 rfl) (mpp 60 rfl ?_)
        obtain ⟨z69, h70⟩ := ti_ex (v3 + 0 : Int32)
        have wz69 := ti_full z69
        refine mp_t (s_iadd (v := z69) dX7_otherwise_60 h70) (mpp 61 rfl ?_)
        try have e71 : z69.toInt = v3.toInt + 0 := ti_addz h70 rfl rfl (by omega) (by omega)
        refine mp_a (a_istore_n (L' := [(3, .int z69), (5, .int 2), (0, .ref 301), (1, .int t1), (2, .int t2), (4, .int v4)]) dX7_otherwise_61 (by decide) rfl) (mpp 62 rfl ?_)
        obtain ⟨z72, h73⟩ := ti_ex (v4 + 1 : Int32)
        have wz72 := ti_full z72
        refine mp_a (a_iinc (v := z72) (L' := [(4, .int z72), (3, .int z69), (5, .int 2), (0, .ref 301), (1, .int t1), (2, .int t2)]) dX7_otherwise_62 (by decide) rfl h73 rfl) (mpp 65 rfl ?_)
        try have e74 : z72.toInt = v4.toInt + 1 := ti_addz h73 rfl rfl (by omega) (by omega)
        refine mp_a (a_goto (t := 5) dX7_otherwise_65 (by decide)) ?_
        refine MEvP.less (L := [(0, .ref 301), (1, .int t1), (2, .int t2), (3, .int z69), (4, .int z72)]) rfl rfl ⟨rfl, rfl, rfl, rfl, rfl, trivial⟩ ?_
        have i75 : 0 ≤ z72.toInt := by omega
        exact ih _ (by omega) _ _ i75 rfl
      · have c68 : x65.toInt ≠ 0 := ti_eq_n c68
        refine mp_a (a_aload_n dX7_otherwise_43 rfl) (mpp 44 rfl ?_)
        refine mp_a (a_iload_n dX7_otherwise_44 rfl) (mpp 45 rfl ?_)
        refine mp_a (a_iload dX7_otherwise_45 rfl) (mpp 47 rfl ?_)
        have p76 : 0 ≤ t1.toInt := by omega
        have p77 : t1.toInt ≤ 7 := by omega
        have p78 : 0 ≤ v4.toInt := by omega
        have p79 : v4.toInt ≤ 7 := by omega
        refine mt_callv (i := 92) (q' := q_146) (As := [.int t1, .int v4]) (rest := [.int v3]) hT dX7_otherwise_47 rfl qm_146 (by decide) rfl rl_301 (by decide) rfl (Nat.le_of_ble_eq_true rfl) rfl ⟨rfl, rfl⟩ ⟨Nat.le_of_ble_eq_true rfl, Nat.le_of_ble_eq_true rfl⟩ (EvP.mono (by decide) (c_M_creaseOf hT p76 p77 p78 p79 )) (fun r80 P81 g82 => mpp 50 rfl ?_)
        obtain ⟨⟨x83, rfl, g84⟩, e85⟩ := g82
        have e85 := e85.symm
        subst e85
        have wx83 := ti_full x83
        have g84 : x83.toInt = (fv Po 302 (14 + 19 * t1.toInt.toNat + v4.toInt.toNat)).toInt := g84
        show MEvP _ none q_178 50 [(5, .int 2), (0, .ref 301), (1, .int t1), (2, .int t2), (3, .int v3), (4, .int v4)] [.int x83, .int v3] _ _ _ _
        refine mp_a (a_iload dX7_otherwise_50 rfl) (mpp 52 rfl ?_)
        refine mp_Tb (t := 59) (j_icmp_eq dX7_otherwise_52) (by decide) (fun c86 => ?_) (fun c86 => mpp 55 rfl ?_)
        · have c86 : x83.toInt = 2 := ti_eq c86
          refine mp_a (a_iconst (v := 0) dX7_otherwise_59 rfl) (mpp 60 rfl ?_)
          obtain ⟨z87, h88⟩ := ti_ex (v3 + 0 : Int32)
          have wz87 := ti_full z87
          refine mp_t (s_iadd (v := z87) dX7_otherwise_60 h88) (mpp 61 rfl ?_)
          try have e89 : z87.toInt = v3.toInt + 0 := ti_addz h88 rfl rfl (by omega) (by omega)
          refine mp_a (a_istore_n (L' := [(3, .int z87), (5, .int 2), (0, .ref 301), (1, .int t1), (2, .int t2), (4, .int v4)]) dX7_otherwise_61 (by decide) rfl) (mpp 62 rfl ?_)
          obtain ⟨z90, h91⟩ := ti_ex (v4 + 1 : Int32)
          have wz90 := ti_full z90
          refine mp_a (a_iinc (v := z90) (L' := [(4, .int z90), (3, .int z87), (5, .int 2), (0, .ref 301), (1, .int t1), (2, .int t2)]) dX7_otherwise_62 (by decide) rfl h91 rfl) (mpp 65 rfl ?_)
          try have e92 : z90.toInt = v4.toInt + 1 := ti_addz h91 rfl rfl (by omega) (by omega)
          refine mp_a (a_goto (t := 5) dX7_otherwise_65 (by decide)) ?_
          refine MEvP.less (L := [(0, .ref 301), (1, .int t1), (2, .int t2), (3, .int z87), (4, .int z90)]) rfl rfl ⟨rfl, rfl, rfl, rfl, rfl, trivial⟩ ?_
          have i93 : 0 ≤ z90.toInt := by omega
          exact ih _ (by omega) _ _ i93 rfl
        · have c86 : x83.toInt ≠ 2 := ti_eq_n c86
          refine mp_a (a_iconst (v := 1) dX7_otherwise_55 rfl) (mpp 56 rfl ?_)
          refine mp_a (a_goto (t := 60) dX7_otherwise_56 (by decide)) ?_
          obtain ⟨z94, h95⟩ := ti_ex (v3 + 1 : Int32)
          have wz94 := ti_full z94
          refine mp_t (s_iadd (v := z94) dX7_otherwise_60 h95) (mpp 61 rfl ?_)
          try have e96 : z94.toInt = v3.toInt + 1 := ti_addz h95 rfl rfl (by omega) (by omega)
          refine mp_a (a_istore_n (L' := [(3, .int z94), (5, .int 2), (0, .ref 301), (1, .int t1), (2, .int t2), (4, .int v4)]) dX7_otherwise_61 (by decide) rfl) (mpp 62 rfl ?_)
          obtain ⟨z97, h98⟩ := ti_ex (v4 + 1 : Int32)
          have wz97 := ti_full z97
          refine mp_a (a_iinc (v := z97) (L' := [(4, .int z97), (3, .int z94), (5, .int 2), (0, .ref 301), (1, .int t1), (2, .int t2)]) dX7_otherwise_62 (by decide) rfl h98 rfl) (mpp 65 rfl ?_)
          try have e99 : z97.toInt = v4.toInt + 1 := ti_addz h98 rfl rfl (by omega) (by omega)
          refine mp_a (a_goto (t := 5) dX7_otherwise_65 (by decide)) ?_
          refine MEvP.less (L := [(0, .ref 301), (1, .int t1), (2, .int t2), (3, .int z94), (4, .int z97)]) rfl rfl ⟨rfl, rfl, rfl, rfl, rfl, trivial⟩ ?_
          have i100 : 0 ≤ z97.toInt := by omega
          exact ih _ (by omega) _ _ i100 rfl

set_option maxHeartbeats 4000000 in
theorem c_M_otherwise {Po : mP} {t1 : Int32} {t2 : Int32} (hT : Typ Po)  (hp0 : 0 ≤ t1.toInt) (hp1 : t1.toInt ≤ 7)  : EvP 5 178 [.ref 301, .int t1, .int t2] Po (fun r P' => (∃ x : Int32, r = some (.int x) ∧ (True)) ∧ P' = Po) := by
  refine EvP.of qm_178 (Nat.le_of_ble_eq_true rfl) rfl ?_
  show MEvP _ none q_178 0 [(0, .ref 301), (1, .int t1), (2, .int t2)] [] _ 0 0 _
  refine mp_a (a_iconst (v := 0) dX7_otherwise_0 rfl) (mpp 1 rfl ?_)
  refine mp_a (a_istore_n (L' := [(3, .int 0), (0, .ref 301), (1, .int t1), (2, .int t2)]) dX7_otherwise_1 (by decide) rfl) (mpp 2 rfl ?_)
  refine mp_a (a_iconst (v := 0) dX7_otherwise_2 rfl) (mpp 3 rfl ?_)
  refine mp_a (a_istore (L' := [(4, .int 0), (3, .int 0), (0, .ref 301), (1, .int t1), (2, .int t2)]) dX7_otherwise_3 (by decide) rfl) (mpp 5 rfl ?_)
  refine MEvP.less (L := [(0, .ref 301), (1, .int t1), (2, .int t2), (3, .int 0), (4, .int 0)]) rfl rfl ⟨rfl, rfl, rfl, rfl, rfl, trivial⟩ ?_
  have i1 : 0 ≤ (0 : Int) := by omega
  exact c_M_otherwise_l5 hT hp0 hp1 _ _ _ i1 rfl

set_option maxHeartbeats 4000000 in
theorem c_M_laysBy_l7 {Po : mP} {t1 : Int32} {t2 : Int32} (hp0 : 0 ≤ t1.toInt) (hp1 : t1.toInt ≤ 7)  : ∀ (n : Nat) (v3 : Int32), ∀ (P : mP), Typ P → KW [1101, 1102, 1536, 1600] Po P → (0 ≤ v3.toInt) → (2147483647 - v3.toInt).toNat = n → MEvP 4 none q_180 7 [(0, .ref 301), (1, .int t1), (2, .int t2), (3, .int v3)] [] P 0 0 (fun r P' => (r = none ∧ (True)) ∧ Typ P' ∧ KW [1101, 1102, 1536, 1600] Po P' ∧ True) := by
  intro n
  induction n using Nat.strongRecOn with | _ n ih => ?_
  intro v3 P hT hK i_0 hm
  have w_v3 := ti_full v3
  refine mp_a (a_iload_n dX7_laysBy_7 rfl) (mpp 8 rfl ?_)
  refine mp_a (a_aload_n dX7_laysBy_8 rfl) (mpp 9 rfl ?_)
  refine mp_a (a_iload_n dX7_laysBy_9 rfl) (mpp 10 rfl ?_)
  have p1 : 0 ≤ t1.toInt := by omega
  have p2 : t1.toInt ≤ 7 := by omega
  refine mt_callv (i := 88) (q' := q_136) (As := [.int t1]) (rest := [.int v3]) hT dX7_laysBy_10 rfl qm_136 (by decide) rfl rl_301 (by decide) rfl (Nat.le_of_ble_eq_true rfl) rfl ⟨rfl, rfl⟩ ⟨Nat.le_of_ble_eq_true rfl, Nat.le_of_ble_eq_true rfl⟩ (EvP.mono (by decide) (c_M_creases hT p1 p2 )) (fun r3 P4 g5 => mpp 13 rfl ?_)
  obtain ⟨⟨x6, rfl, g7⟩, e8⟩ := g5
  have e8 := e8.symm
  subst e8
  have wx6 := ti_full x6
  have g7 : -1 ≤ x6.toInt ∧ x6.toInt ≤ 8 ∧ x6.toInt ≤ (fv P 302 (4 + 19 * t1.toInt.toNat)).toInt := g7
  show MEvP _ none q_180 13 [(0, .ref 301), (1, .int t1), (2, .int t2), (3, .int v3)] [.int x6, .int v3] _ _ _ _
  refine mp_Tb (t := 42) (j_icmp_ge dX7_laysBy_13) (by decide) (fun c9 => ?_) (fun c9 => mpp 16 rfl ?_)
  · have c9 : v3.toInt ≥ x6.toInt := ti_ge c9
    exact mp_ret ⟨⟨rfl, trivial⟩, hT, hK, trivial⟩ dX7_laysBy_42 rfl
  · have c9 : v3.toInt < x6.toInt := ti_ge_n c9
    refine mp_a (a_aload_n dX7_laysBy_16 rfl) (mpp 17 rfl ?_)
    refine mt_getU (i := 31) (k := 12) (A := 309) hT dX7_laysBy_17 rfl rl_301 (by decide) rfl (by decide) rfl un_25 (mpp 20 rfl ?_)
    refine mp_a (a_iload_n dX7_laysBy_20 rfl) (mpp 21 rfl ?_)
    refine mp_a (a_iload_n dX7_laysBy_21 rfl) (mpp 22 rfl ?_)
    refine mp_a (a_iload_n dX7_laysBy_22 rfl) (mpp 23 rfl ?_)
    obtain ⟨z10, h11⟩ := ti_ex (t2 >>> (v3 &&& 31) : Int32)
    have wz10 := ti_full z10
    refine mp_t (s_ishr (v := z10) dX7_laysBy_23 h11) (mpp 24 rfl ?_)
    refine mp_a (a_iconst (v := 1) dX7_laysBy_24 rfl) (mpp 25 rfl ?_)
    obtain ⟨z12, h13⟩ := ti_ex (z10 &&& 1 : Int32)
    have wz12 := ti_full z12
    refine mp_t (s_iand (v := z12) dX7_laysBy_25 h13) (mpp 26 rfl ?_)
    refine mp_a (a_iconst (v := 1) dX7_laysBy_26 rfl) (mpp 27 rfl ?_)
    refine mp_Tb (t := 34) (j_icmp_ne dX7_laysBy_27) (by decide) (fun c14 => ?_) (fun c14 => mpp 30 rfl ?_)
    · have c14 : z12.toInt ≠ 1 := ti_ne c14
      refine mp_a (a_iconst (v := 1) dX7_laysBy_34 rfl) (mpp 35 rfl ?_)
      refine mt_ias (n := 8) hT dX7_laysBy_35 rl_309 (by decide) rfl rfl (by omega) (by omega) rfl (by decide) (fun P15 hT16 f17 f18 => mpp 36 rfl ?_)
      have k19 : KW [1101, 1102, 1536, 1600] Po P15 := KW.step hK rl_309 rfl f18
      obtain ⟨z20, h21⟩ := ti_ex (v3 + 1 : Int32)
      have wz20 := ti_full z20
      refine mp_a (a_iinc (v := z20) (L' := [(3, .int z20), (0, .ref 301), (1, .int t1), (2, .int t2)]) dX7_laysBy_36 (by decide) rfl h21 rfl) (mpp 39 rfl ?_)
      try have e22 : z20.toInt = v3.toInt + 1 := ti_addz h21 rfl rfl (by omega) (by omega)
      refine mp_a (a_goto (t := 7) dX7_laysBy_39 (by decide)) ?_
      refine MEvP.less (L := [(0, .ref 301), (1, .int t1), (2, .int t2), (3, .int z20)]) rfl rfl ⟨rfl, rfl, rfl, rfl, trivial⟩ ?_
      have i23 : 0 ≤ z20.toInt := by omega
      exact ih _ (by omega) _ P15 hT16 k19 i23 rfl
    · have c14 : z12.toInt = 1 := ti_ne_n c14
      refine mp_a (a_iconst (v := 2) dX7_laysBy_30 rfl) (mpp 31 rfl ?_)
      refine mp_a (a_goto (t := 35) dX7_laysBy_31 (by decide)) ?_
      refine mt_ias (n := 8) hT dX7_laysBy_35 rl_309 (by decide) rfl rfl (by omega) (by omega) rfl (by decide) (fun P24 hT25 f26 f27 => mpp 36 rfl ?_)
      have k28 : KW [1101, 1102, 1536, 1600] Po P24 := KW.step hK rl_309 rfl f27
      obtain ⟨z29, h30⟩ := ti_ex (v3 + 1 : Int32)
      have wz29 := ti_full z29
      refine mp_a (a_iinc (v := z29) (L' := [(3, .int z29), (0, .ref 301), (1, .int t1), (2, .int t2)]) dX7_laysBy_36 (by decide) rfl h30 rfl) (mpp 39 rfl ?_)
      try have e31 : z29.toInt = v3.toInt + 1 := ti_addz h30 rfl rfl (by omega) (by omega)
      refine mp_a (a_goto (t := 7) dX7_laysBy_39 (by decide)) ?_
      refine MEvP.less (L := [(0, .ref 301), (1, .int t1), (2, .int t2), (3, .int z29)]) rfl rfl ⟨rfl, rfl, rfl, rfl, trivial⟩ ?_
      have i32 : 0 ≤ z29.toInt := by omega
      exact ih _ (by omega) _ P24 hT25 k28 i32 rfl

set_option maxHeartbeats 4000000 in
theorem c_M_laysBy {Po : mP} {t1 : Int32} {t2 : Int32} (hT : Typ Po)  (hp0 : 0 ≤ t1.toInt) (hp1 : t1.toInt ≤ 7)  : EvP 5 180 [.ref 301, .int t1, .int t2] Po (fun r P' => (r = none ∧ (True)) ∧ Typ P' ∧ KW [1101, 1102, 1536, 1600] Po P' ∧ True) := by
  refine EvP.of qm_180 (Nat.le_of_ble_eq_true rfl) rfl ?_
  show MEvP _ none q_180 0 [(0, .ref 301), (1, .int t1), (2, .int t2)] [] _ 0 0 _
  refine mp_a (a_aload_n dX7_laysBy_0 rfl) (mpp 1 rfl ?_)
  refine mp_a (a_iload_n dX7_laysBy_1 rfl) (mpp 2 rfl ?_)
  have p1 : 0 ≤ t1.toInt := by omega
  have p2 : t1.toInt ≤ 7 := by omega
  refine mt_callv (i := 196) (q' := q_164) (As := [.int t1]) (rest := []) hT dX7_laysBy_2 rfl qm_164 (by decide) rfl rl_301 (by decide) rfl (Nat.le_of_ble_eq_true rfl) rfl ⟨rfl, rfl⟩ ⟨Nat.le_of_ble_eq_true rfl, Nat.le_of_ble_eq_true rfl⟩ (EvP.mono (by decide) (c_M_lays hT p1 p2 )) (fun r3 P4 g5 => mpp 5 rfl ?_)
  obtain ⟨⟨rfl, g7⟩, hT8, k9, R10⟩ := g5
  have k11 : KW [1101, 1102, 1536, 1600] Po P4 := KW.trans KW.refl k9 rfl
  show MEvP _ none q_180 5 [(0, .ref 301), (1, .int t1), (2, .int t2)] [] _ _ _ _
  refine mp_a (a_iconst (v := 0) dX7_laysBy_5 rfl) (mpp 6 rfl ?_)
  refine mp_a (a_istore_n (L' := [(3, .int 0), (0, .ref 301), (1, .int t1), (2, .int t2)]) dX7_laysBy_6 (by decide) rfl) (mpp 7 rfl ?_)
  refine MEvP.less (L := [(0, .ref 301), (1, .int t1), (2, .int t2), (3, .int 0)]) rfl rfl ⟨rfl, rfl, rfl, rfl, trivial⟩ ?_
  have i12 : 0 ≤ (0 : Int) := by omega
  exact c_M_laysBy_l7  hp0 hp1 _ _ P4 hT8 k11 i12 rfl

set_option maxHeartbeats 4000000 in
theorem c_M_foldsBy {Po : mP} {t1 : Int32} {t2 : Int32} (hT : Typ Po)  (hp0 : 0 ≤ t1.toInt) (hp1 : t1.toInt ≤ 7)  : EvP 6 179 [.ref 301, .int t1, .int t2] Po (fun r P' => (∃ x : Int32, r = some (.int x) ∧ (0 ≤ x.toInt ∧ x.toInt ≤ 1)) ∧ Typ P' ∧ KW [1101, 1102, 1536, 1600] Po P' ∧ True) := by
  refine EvP.of qm_179 (Nat.le_of_ble_eq_true rfl) rfl ?_
  show MEvP _ none q_179 0 [(0, .ref 301), (1, .int t1), (2, .int t2)] [] _ 0 0 _
  refine mp_a (a_aload_n dX7_foldsBy_0 rfl) (mpp 1 rfl ?_)
  refine mp_a (a_iload_n dX7_foldsBy_1 rfl) (mpp 2 rfl ?_)
  refine mp_a (a_iload_n dX7_foldsBy_2 rfl) (mpp 3 rfl ?_)
  have p1 : 0 ≤ t1.toInt := by omega
  have p2 : t1.toInt ≤ 7 := by omega
  refine mt_callv (i := 215) (q' := q_180) (As := [.int t1, .int t2]) (rest := []) hT dX7_foldsBy_3 rfl qm_180 (by decide) rfl rl_301 (by decide) rfl (Nat.le_of_ble_eq_true rfl) rfl ⟨rfl, rfl⟩ ⟨Nat.le_of_ble_eq_true rfl, Nat.le_of_ble_eq_true rfl⟩ (EvP.mono (by decide) (c_M_laysBy hT p1 p2 )) (fun r3 P4 g5 => mpp 6 rfl ?_)
  obtain ⟨⟨rfl, g7⟩, hT8, k9, R10⟩ := g5
  have k11 : KW [1101, 1102, 1536, 1600] Po P4 := KW.trans KW.refl k9 rfl
  show MEvP _ none q_179 6 [(0, .ref 301), (1, .int t1), (2, .int t2)] [] _ _ _ _
  refine mp_a (a_aload_n dX7_foldsBy_6 rfl) (mpp 7 rfl ?_)
  refine mt_callv (i := 199) (q' := q_165) (As := []) (rest := []) hT8 dX7_foldsBy_7 rfl qm_165 (by decide) rfl rl_301 (by decide) rfl (Nat.le_of_ble_eq_true rfl) rfl ⟨rfl, rfl⟩ ⟨Nat.le_of_ble_eq_true rfl, Nat.le_of_ble_eq_true rfl⟩ (EvP.mono (by decide) (c_M_folds hT8 )) (fun r12 P13 g14 => mpp 10 rfl ?_)
  obtain ⟨⟨x15, rfl, g16⟩, hT17, k18, R19⟩ := g14
  have k20 : KW [1101, 1102, 1536, 1600] Po P13 := KW.trans k11 k18 rfl
  have wx15 := ti_full x15
  have g16 : 0 ≤ x15.toInt ∧ x15.toInt ≤ 1 := g16
  show MEvP _ none q_179 10 [(0, .ref 301), (1, .int t1), (2, .int t2)] [.int x15] _ _ _ _
  have u21 : 0 ≤ x15.toInt ∧ x15.toInt ≤ 1 := by omega
  exact mp_iret ⟨⟨_, rfl, u21⟩, hT17, k20, trivial⟩ dX7_foldsBy_10 (Or.inr ⟨rfl, ti_01 (by omega)⟩)

set_option maxHeartbeats 4000000 in
theorem c_M_ways_l16 {Po : mP} {t1 : Int32}  : ∀ (n : Nat) (v2 : Int32) (v3 : Int32), ∀ (P : mP), Typ P → KW [1101, 1102, 1536, 1600] Po P → (0 ≤ t1.toInt) → (t1.toInt ≤ 7) → (0 ≤ v3.toInt) → (2147483647 - v3.toInt).toNat = n → MEvP 6 none q_177 16 [(0, .ref 301), (1, .int t1), (2, .int v2), (3, .int v3)] [] P 0 0 (fun r P' => (∃ x : Int32, r = some (.int x) ∧ (True)) ∧ Typ P' ∧ KW [1101, 1102, 1536, 1600] Po P' ∧ True) := by
  intro n
  induction n using Nat.strongRecOn with | _ n ih => ?_
  intro v2 v3 P hT hK i_0 i_1 i_2 hm
  have w_v2 := ti_full v2
  have w_v3 := ti_full v3
  refine mp_a (a_iload_n dX7_ways_16 rfl) (mpp 17 rfl ?_)
  refine mp_a (a_iconst (v := 1) dX7_ways_17 rfl) (mpp 18 rfl ?_)
  refine mp_a (a_aload_n dX7_ways_18 rfl) (mpp 19 rfl ?_)
  refine mp_a (a_iload_n dX7_ways_19 rfl) (mpp 20 rfl ?_)
  have p1 : 0 ≤ t1.toInt := by omega
  have p2 : t1.toInt ≤ 7 := by omega
  refine mt_callv (i := 88) (q' := q_136) (As := [.int t1]) (rest := [.int 1, .int v3]) hT dX7_ways_20 rfl qm_136 (by decide) rfl rl_301 (by decide) rfl (Nat.le_of_ble_eq_true rfl) rfl ⟨rfl, rfl⟩ ⟨Nat.le_of_ble_eq_true rfl, Nat.le_of_ble_eq_true rfl⟩ (EvP.mono (by decide) (c_M_creases hT p1 p2 )) (fun r3 P4 g5 => mpp 23 rfl ?_)
  obtain ⟨⟨x6, rfl, g7⟩, e8⟩ := g5
  have e8 := e8.symm
  subst e8
  have wx6 := ti_full x6
  have g7 : -1 ≤ x6.toInt ∧ x6.toInt ≤ 8 ∧ x6.toInt ≤ (fv P 302 (4 + 19 * t1.toInt.toNat)).toInt := g7
  show MEvP _ none q_177 23 [(0, .ref 301), (1, .int t1), (2, .int v2), (3, .int v3)] [.int x6, .int 1, .int v3] _ _ _ _
  obtain ⟨z9, h10⟩ := ti_ex (1 <<< (x6 &&& 31) : Int32)
  have wz9 := ti_full z9
  refine mp_t (s_ishl (v := z9) dX7_ways_23 h10) (mpp 24 rfl ?_)
  refine mp_Tb (t := 59) (j_icmp_ge dX7_ways_24) (by decide) (fun c11 => ?_) (fun c11 => mpp 27 rfl ?_)
  · have c11 : v3.toInt ≥ z9.toInt := ti_ge c11
    refine mp_a (a_iload_n dX7_ways_59 rfl) (mpp 60 rfl ?_)
    exact mp_iret ⟨⟨_, rfl, trivial⟩, hT, hK, trivial⟩ dX7_ways_60 (Or.inl rfl)
  · have c11 : v3.toInt < z9.toInt := ti_ge_n c11
    refine mp_a (a_iload_n dX7_ways_27 rfl) (mpp 28 rfl ?_)
    refine mp_a (a_aload_n dX7_ways_28 rfl) (mpp 29 rfl ?_)
    refine mp_a (a_iload_n dX7_ways_29 rfl) (mpp 30 rfl ?_)
    refine mp_a (a_iload_n dX7_ways_30 rfl) (mpp 31 rfl ?_)
    have p12 : 0 ≤ t1.toInt := by omega
    have p13 : t1.toInt ≤ 7 := by omega
    refine mt_callv (i := 219) (q' := q_178) (As := [.int t1, .int v3]) (rest := [.int v2]) hT dX7_ways_31 rfl qm_178 (by decide) rfl rl_301 (by decide) rfl (Nat.le_of_ble_eq_true rfl) rfl ⟨rfl, rfl⟩ ⟨Nat.le_of_ble_eq_true rfl, Nat.le_of_ble_eq_true rfl⟩ (EvP.mono (by decide) (c_M_otherwise hT p12 p13 )) (fun r14 P15 g16 => mpp 34 rfl ?_)
    obtain ⟨⟨x17, rfl, g18⟩, e19⟩ := g16
    have e19 := e19.symm
    subst e19
    have wx17 := ti_full x17
    show MEvP _ none q_177 34 [(0, .ref 301), (1, .int t1), (2, .int v2), (3, .int v3)] [.int x17, .int v2] _ _ _ _
    refine mp_Tb (t := 50) (j_if_ne dX7_ways_34) (by decide) (fun c20 => ?_) (fun c20 => mpp 37 rfl ?_)
    · have c20 : x17.toInt ≠ 0 := ti_ne c20
      refine mp_a (a_iconst (v := 0) dX7_ways_50 rfl) (mpp 51 rfl ?_)
      obtain ⟨z21, h22⟩ := ti_ex (v2 + 0 : Int32)
      have wz21 := ti_full z21
      refine mp_t (s_iadd (v := z21) dX7_ways_51 h22) (mpp 52 rfl ?_)
      try have e23 : z21.toInt = v2.toInt + 0 := ti_addz h22 rfl rfl (by omega) (by omega)
      refine mp_a (a_istore_n (L' := [(2, .int z21), (0, .ref 301), (1, .int t1), (3, .int v3)]) dX7_ways_52 (by decide) rfl) (mpp 53 rfl ?_)
      obtain ⟨z24, h25⟩ := ti_ex (v3 + 1 : Int32)
      have wz24 := ti_full z24
      refine mp_a (a_iinc (v := z24) (L' := [(3, .int z24), (2, .int z21), (0, .ref 301), (1, .int t1)]) dX7_ways_53 (by decide) rfl h25 rfl) (mpp 56 rfl ?_)
      try have e26 : z24.toInt = v3.toInt + 1 := ti_addz h25 rfl rfl (by omega) (by omega)
      refine mp_a (a_goto (t := 16) dX7_ways_56 (by decide)) ?_
      refine MEvP.less (L := [(0, .ref 301), (1, .int t1), (2, .int z21), (3, .int z24)]) rfl rfl ⟨rfl, rfl, rfl, rfl, trivial⟩ ?_
      have i27 : 0 ≤ t1.toInt := by omega
      have i28 : t1.toInt ≤ 7 := by omega
      have i29 : 0 ≤ z24.toInt := by omega
      exact ih _ (by omega) _ _ P hT hK i27 i28 i29 rfl
    · have c20 : x17.toInt = 0 := ti_ne_n c20
      refine mp_a (a_aload_n dX7_ways_37 rfl) (mpp 38 rfl ?_)
      refine mp_a (a_iload_n dX7_ways_38 rfl) (mpp 39 rfl ?_)
      refine mp_a (a_iload_n dX7_ways_39 rfl) (mpp 40 rfl ?_)
      have p30 : 0 ≤ t1.toInt := by omega
      have p31 : t1.toInt ≤ 7 := by omega
      refine mt_callv (i := 222) (q' := q_179) (As := [.int t1, .int v3]) (rest := [.int v2]) hT dX7_ways_40 rfl qm_179 (by decide) rfl rl_301 (by decide) rfl (Nat.le_of_ble_eq_true rfl) rfl ⟨rfl, rfl⟩ ⟨Nat.le_of_ble_eq_true rfl, Nat.le_of_ble_eq_true rfl⟩ (EvP.mono (by decide) (c_M_foldsBy hT p30 p31 )) (fun r32 P33 g34 => mpp 43 rfl ?_)
      obtain ⟨⟨x35, rfl, g36⟩, hT37, k38, R39⟩ := g34
      have k40 : KW [1101, 1102, 1536, 1600] Po P33 := KW.trans hK k38 rfl
      have wx35 := ti_full x35
      have g36 : 0 ≤ x35.toInt ∧ x35.toInt ≤ 1 := g36
      show MEvP _ none q_177 43 [(0, .ref 301), (1, .int t1), (2, .int v2), (3, .int v3)] [.int x35, .int v2] _ _ _ _
      refine mp_Tb (t := 50) (j_if_eq dX7_ways_43) (by decide) (fun c41 => ?_) (fun c41 => mpp 46 rfl ?_)
      · have c41 : x35.toInt = 0 := ti_eq c41
        refine mp_a (a_iconst (v := 0) dX7_ways_50 rfl) (mpp 51 rfl ?_)
        obtain ⟨z42, h43⟩ := ti_ex (v2 + 0 : Int32)
        have wz42 := ti_full z42
        refine mp_t (s_iadd (v := z42) dX7_ways_51 h43) (mpp 52 rfl ?_)
        try have e44 : z42.toInt = v2.toInt + 0 := ti_addz h43 rfl rfl (by omega) (by omega)
        refine mp_a (a_istore_n (L' := [(2, .int z42), (0, .ref 301), (1, .int t1), (3, .int v3)]) dX7_ways_52 (by decide) rfl) (mpp 53 rfl ?_)
        obtain ⟨z45, h46⟩ := ti_ex (v3 + 1 : Int32)
        have wz45 := ti_full z45
        refine mp_a (a_iinc (v := z45) (L' := [(3, .int z45), (2, .int z42), (0, .ref 301), (1, .int t1)]) dX7_ways_53 (by decide) rfl h46 rfl) (mpp 56 rfl ?_)
        try have e47 : z45.toInt = v3.toInt + 1 := ti_addz h46 rfl rfl (by omega) (by omega)
        refine mp_a (a_goto (t := 16) dX7_ways_56 (by decide)) ?_
        refine MEvP.less (L := [(0, .ref 301), (1, .int t1), (2, .int z42), (3, .int z45)]) rfl rfl ⟨rfl, rfl, rfl, rfl, trivial⟩ ?_
        have i48 : 0 ≤ t1.toInt := by omega
        have i49 : t1.toInt ≤ 7 := by omega
        have i50 : 0 ≤ z45.toInt := by omega
        exact ih _ (by omega) _ _ P33 hT37 k40 i48 i49 i50 rfl
      · have c41 : x35.toInt ≠ 0 := ti_eq_n c41
        refine mp_a (a_iconst (v := 1) dX7_ways_46 rfl) (mpp 47 rfl ?_)
        refine mp_a (a_goto (t := 51) dX7_ways_47 (by decide)) ?_
        obtain ⟨z51, h52⟩ := ti_ex (v2 + 1 : Int32)
        have wz51 := ti_full z51
        refine mp_t (s_iadd (v := z51) dX7_ways_51 h52) (mpp 52 rfl ?_)
        try have e53 : z51.toInt = v2.toInt + 1 := ti_addz h52 rfl rfl (by omega) (by omega)
        refine mp_a (a_istore_n (L' := [(2, .int z51), (0, .ref 301), (1, .int t1), (3, .int v3)]) dX7_ways_52 (by decide) rfl) (mpp 53 rfl ?_)
        obtain ⟨z54, h55⟩ := ti_ex (v3 + 1 : Int32)
        have wz54 := ti_full z54
        refine mp_a (a_iinc (v := z54) (L' := [(3, .int z54), (2, .int z51), (0, .ref 301), (1, .int t1)]) dX7_ways_53 (by decide) rfl h55 rfl) (mpp 56 rfl ?_)
        try have e56 : z54.toInt = v3.toInt + 1 := ti_addz h55 rfl rfl (by omega) (by omega)
        refine mp_a (a_goto (t := 16) dX7_ways_56 (by decide)) ?_
        refine MEvP.less (L := [(0, .ref 301), (1, .int t1), (2, .int z51), (3, .int z54)]) rfl rfl ⟨rfl, rfl, rfl, rfl, trivial⟩ ?_
        have i57 : 0 ≤ t1.toInt := by omega
        have i58 : t1.toInt ≤ 7 := by omega
        have i59 : 0 ≤ z54.toInt := by omega
        exact ih _ (by omega) _ _ P33 hT37 k40 i57 i58 i59 rfl

set_option maxHeartbeats 4000000 in
theorem c_M_ways {Po : mP} {t1 : Int32} (hT : Typ Po)   : EvP 7 177 [.ref 301, .int t1] Po (fun r P' => (∃ x : Int32, r = some (.int x) ∧ (True)) ∧ Typ P' ∧ KW [1101, 1102, 1536, 1600] Po P' ∧ True) := by
  refine EvP.of qm_177 (Nat.le_of_ble_eq_true rfl) rfl ?_
  show MEvP _ none q_177 0 [(0, .ref 301), (1, .int t1)] [] _ 0 0 _
  refine mp_a (a_aload_n dX7_ways_0 rfl) (mpp 1 rfl ?_)
  refine mp_a (a_iload_n dX7_ways_1 rfl) (mpp 2 rfl ?_)
  refine mt_callv (i := 85) (q' := q_144) (As := [.int t1]) (rest := []) hT dX7_ways_2 rfl qm_144 (by decide) rfl rl_301 (by decide) rfl (Nat.le_of_ble_eq_true rfl) rfl ⟨rfl, rfl⟩ ⟨Nat.le_of_ble_eq_true rfl, Nat.le_of_ble_eq_true rfl⟩ (EvP.mono (by decide) (c_M_isPiece hT )) (fun r1 P2 g3 => mpp 5 rfl ?_)
  obtain ⟨⟨x4, rfl, g5⟩, e6⟩ := g3
  have e6 := e6.symm
  subst e6
  have wx4 := ti_full x4
  have g5 : 0 ≤ x4.toInt ∧ x4.toInt ≤ 1 ∧ (x4.toInt = 0 ∨ (0 ≤ t1.toInt ∧ t1.toInt + 1 ≤ (fv Po 302 0).toInt ∧ t1.toInt ≤ 7)) := g5
  have g7 : (0 : Int) ≤ (fv Po 302 0).toInt ∧ (fv Po 302 0).toInt ≤ 8 := Typ.rng hT rl_302 (by decide) (by decide) rfl
  show MEvP _ none q_177 5 [(0, .ref 301), (1, .int t1)] [.int x4] _ _ _ _
  refine mp_Tb (t := 12) (j_if_ne dX7_ways_5) (by decide) (fun c8 => ?_) (fun c8 => mpp 8 rfl ?_)
  · have c8 : x4.toInt ≠ 0 := ti_ne c8
    refine mp_a (a_iconst (v := 0) dX7_ways_12 rfl) (mpp 13 rfl ?_)
    refine mp_a (a_istore_n (L' := [(2, .int 0), (0, .ref 301), (1, .int t1)]) dX7_ways_13 (by decide) rfl) (mpp 14 rfl ?_)
    refine mp_a (a_iconst (v := 0) dX7_ways_14 rfl) (mpp 15 rfl ?_)
    refine mp_a (a_istore_n (L' := [(3, .int 0), (2, .int 0), (0, .ref 301), (1, .int t1)]) dX7_ways_15 (by decide) rfl) (mpp 16 rfl ?_)
    refine MEvP.less (L := [(0, .ref 301), (1, .int t1), (2, .int 0), (3, .int 0)]) rfl rfl ⟨rfl, rfl, rfl, rfl, trivial⟩ ?_
    have i9 : 0 ≤ t1.toInt := by omega
    have i10 : t1.toInt ≤ 7 := by omega
    have i11 : 0 ≤ (0 : Int) := by omega
    exact c_M_ways_l16   _ _ _ Po hT KW.refl i9 i10 i11 rfl
  · have c8 : x4.toInt = 0 := ti_ne_n c8
    refine mp_a (a_sipush (v := -1001) dX7_ways_8 rfl) (mpp 11 rfl ?_)
    exact mp_iret ⟨⟨_, rfl, trivial⟩, hT, KW.refl, trivial⟩ dX7_ways_11 (Or.inl rfl)

set_option maxHeartbeats 4000000 in
theorem c_M_fewest_l18 {Po : mP} {t1 : Int32}  : ∀ (n : Nat) (v2 : Int32) (v3 : Int32), ∀ (P : mP), Typ P → KW [1101, 1102, 1536, 1600] Po P → (0 ≤ t1.toInt) → (t1.toInt ≤ 7) → (0 ≤ v3.toInt) → (2147483647 - v3.toInt).toNat = n → MEvP 6 none q_181 18 [(0, .ref 301), (1, .int t1), (2, .int v2), (3, .int v3)] [] P 0 0 (fun r P' => (∃ x : Int32, r = some (.int x) ∧ (True)) ∧ Typ P' ∧ KW [1101, 1102, 1536, 1600] Po P' ∧ True) := by
  intro n
  induction n using Nat.strongRecOn with | _ n ih => ?_
  intro v2 v3 P hT hK i_0 i_1 i_2 hm
  have w_v2 := ti_full v2
  have w_v3 := ti_full v3
  refine mp_a (a_iload_n dX7_fewest_18 rfl) (mpp 19 rfl ?_)
  refine mp_a (a_iconst (v := 1) dX7_fewest_19 rfl) (mpp 20 rfl ?_)
  refine mp_a (a_aload_n dX7_fewest_20 rfl) (mpp 21 rfl ?_)
  refine mp_a (a_iload_n dX7_fewest_21 rfl) (mpp 22 rfl ?_)
  have p1 : 0 ≤ t1.toInt := by omega
  have p2 : t1.toInt ≤ 7 := by omega
  refine mt_callv (i := 88) (q' := q_136) (As := [.int t1]) (rest := [.int 1, .int v3]) hT dX7_fewest_22 rfl qm_136 (by decide) rfl rl_301 (by decide) rfl (Nat.le_of_ble_eq_true rfl) rfl ⟨rfl, rfl⟩ ⟨Nat.le_of_ble_eq_true rfl, Nat.le_of_ble_eq_true rfl⟩ (EvP.mono (by decide) (c_M_creases hT p1 p2 )) (fun r3 P4 g5 => mpp 25 rfl ?_)
  obtain ⟨⟨x6, rfl, g7⟩, e8⟩ := g5
  have e8 := e8.symm
  subst e8
  have wx6 := ti_full x6
  have g7 : -1 ≤ x6.toInt ∧ x6.toInt ≤ 8 ∧ x6.toInt ≤ (fv P 302 (4 + 19 * t1.toInt.toNat)).toInt := g7
  show MEvP _ none q_181 25 [(0, .ref 301), (1, .int t1), (2, .int v2), (3, .int v3)] [.int x6, .int 1, .int v3] _ _ _ _
  obtain ⟨z9, h10⟩ := ti_ex (1 <<< (x6 &&& 31) : Int32)
  have wz9 := ti_full z9
  refine mp_t (s_ishl (v := z9) dX7_fewest_25 h10) (mpp 26 rfl ?_)
  refine mp_Tb (t := 68) (j_icmp_ge dX7_fewest_26) (by decide) (fun c11 => ?_) (fun c11 => mpp 29 rfl ?_)
  · have c11 : v3.toInt ≥ z9.toInt := ti_ge c11
    refine mp_a (a_iload_n dX7_fewest_68 rfl) (mpp 69 rfl ?_)
    exact mp_iret ⟨⟨_, rfl, trivial⟩, hT, hK, trivial⟩ dX7_fewest_69 (Or.inl rfl)
  · have c11 : v3.toInt < z9.toInt := ti_ge_n c11
    refine mp_a (a_aload_n dX7_fewest_29 rfl) (mpp 30 rfl ?_)
    refine mp_a (a_iload_n dX7_fewest_30 rfl) (mpp 31 rfl ?_)
    refine mp_a (a_iload_n dX7_fewest_31 rfl) (mpp 32 rfl ?_)
    have p12 : 0 ≤ t1.toInt := by omega
    have p13 : t1.toInt ≤ 7 := by omega
    refine mt_callv (i := 219) (q' := q_178) (As := [.int t1, .int v3]) (rest := []) hT dX7_fewest_32 rfl qm_178 (by decide) rfl rl_301 (by decide) rfl (Nat.le_of_ble_eq_true rfl) rfl ⟨rfl, rfl⟩ ⟨Nat.le_of_ble_eq_true rfl, Nat.le_of_ble_eq_true rfl⟩ (EvP.mono (by decide) (c_M_otherwise hT p12 p13 )) (fun r14 P15 g16 => mpp 35 rfl ?_)
    obtain ⟨⟨x17, rfl, g18⟩, e19⟩ := g16
    have e19 := e19.symm
    subst e19
    have wx17 := ti_full x17
    show MEvP _ none q_181 35 [(0, .ref 301), (1, .int t1), (2, .int v2), (3, .int v3)] [.int x17] _ _ _ _
    refine mp_a (a_istore (L' := [(4, .int x17), (0, .ref 301), (1, .int t1), (2, .int v2), (3, .int v3)]) dX7_fewest_35 (by decide) rfl) (mpp 37 rfl ?_)
    refine mp_a (a_iload_n dX7_fewest_37 rfl) (mpp 38 rfl ?_)
    refine mp_a (a_sipush (v := -1004) dX7_fewest_38 rfl) (mpp 41 rfl ?_)
    refine mp_Tb (t := 50) (j_icmp_eq dX7_fewest_41) (by decide) (fun c20 => ?_) (fun c20 => mpp 44 rfl ?_)
    · have c20 : v2.toInt = (-1004) := ti_eq c20
      refine mp_a (a_aload_n dX7_fewest_50 rfl) (mpp 51 rfl ?_)
      refine mp_a (a_iload_n dX7_fewest_51 rfl) (mpp 52 rfl ?_)
      refine mp_a (a_iload_n dX7_fewest_52 rfl) (mpp 53 rfl ?_)
      have p21 : 0 ≤ t1.toInt := by omega
      have p22 : t1.toInt ≤ 7 := by omega
      refine mt_callv (i := 222) (q' := q_179) (As := [.int t1, .int v3]) (rest := []) hT dX7_fewest_53 rfl qm_179 (by decide) rfl rl_301 (by decide) rfl (Nat.le_of_ble_eq_true rfl) rfl ⟨rfl, rfl⟩ ⟨Nat.le_of_ble_eq_true rfl, Nat.le_of_ble_eq_true rfl⟩ (EvP.mono (by decide) (c_M_foldsBy hT p21 p22 )) (fun r23 P24 g25 => mpp 56 rfl ?_)
      obtain ⟨⟨x26, rfl, g27⟩, hT28, k29, R30⟩ := g25
      have k31 : KW [1101, 1102, 1536, 1600] Po P24 := KW.trans hK k29 rfl
      have wx26 := ti_full x26
      have g27 : 0 ≤ x26.toInt ∧ x26.toInt ≤ 1 := g27
      show MEvP _ none q_181 56 [(4, .int x17), (0, .ref 301), (1, .int t1), (2, .int v2), (3, .int v3)] [.int x26] _ _ _ _
      refine mp_Tb (t := 62) (j_if_eq dX7_fewest_56) (by decide) (fun c32 => ?_) (fun c32 => mpp 59 rfl ?_)
      · have c32 : x26.toInt = 0 := ti_eq c32
        obtain ⟨z33, h34⟩ := ti_ex (v3 + 1 : Int32)
        have wz33 := ti_full z33
        refine mp_a (a_iinc (v := z33) (L' := [(3, .int z33), (4, .int x17), (0, .ref 301), (1, .int t1), (2, .int v2)]) dX7_fewest_62 (by decide) rfl h34 rfl) (mpp 65 rfl ?_)
        try have e35 : z33.toInt = v3.toInt + 1 := ti_addz h34 rfl rfl (by omega) (by omega)
        refine mp_a (a_goto (t := 18) dX7_fewest_65 (by decide)) ?_
        refine MEvP.less (L := [(0, .ref 301), (1, .int t1), (2, .int v2), (3, .int z33)]) rfl rfl ⟨rfl, rfl, rfl, rfl, trivial⟩ ?_
        have i36 : 0 ≤ t1.toInt := by omega
        have i37 : t1.toInt ≤ 7 := by omega
        have i38 : 0 ≤ z33.toInt := by omega
        exact ih _ (by omega) _ _ P24 hT28 k31 i36 i37 i38 rfl
      · have c32 : x26.toInt ≠ 0 := ti_eq_n c32
        refine mp_a (a_iload dX7_fewest_59 rfl) (mpp 61 rfl ?_)
        refine mp_a (a_istore_n (L' := [(2, .int x17), (4, .int x17), (0, .ref 301), (1, .int t1), (3, .int v3)]) dX7_fewest_61 (by decide) rfl) (mpp 62 rfl ?_)
        obtain ⟨z39, h40⟩ := ti_ex (v3 + 1 : Int32)
        have wz39 := ti_full z39
        refine mp_a (a_iinc (v := z39) (L' := [(3, .int z39), (2, .int x17), (4, .int x17), (0, .ref 301), (1, .int t1)]) dX7_fewest_62 (by decide) rfl h40 rfl) (mpp 65 rfl ?_)
        try have e41 : z39.toInt = v3.toInt + 1 := ti_addz h40 rfl rfl (by omega) (by omega)
        refine mp_a (a_goto (t := 18) dX7_fewest_65 (by decide)) ?_
        refine MEvP.less (L := [(0, .ref 301), (1, .int t1), (2, .int x17), (3, .int z39)]) rfl rfl ⟨rfl, rfl, rfl, rfl, trivial⟩ ?_
        have i42 : 0 ≤ t1.toInt := by omega
        have i43 : t1.toInt ≤ 7 := by omega
        have i44 : 0 ≤ z39.toInt := by omega
        exact ih _ (by omega) _ _ P24 hT28 k31 i42 i43 i44 rfl
    · have c20 : v2.toInt ≠ (-1004) := ti_eq_n c20
      refine mp_a (a_iload dX7_fewest_44 rfl) (mpp 46 rfl ?_)
      refine mp_a (a_iload_n dX7_fewest_46 rfl) (mpp 47 rfl ?_)
      refine mp_Tb (t := 62) (j_icmp_ge dX7_fewest_47) (by decide) (fun c45 => ?_) (fun c45 => mpp 50 rfl ?_)
      · have c45 : x17.toInt ≥ v2.toInt := ti_ge c45
        obtain ⟨z46, h47⟩ := ti_ex (v3 + 1 : Int32)
        have wz46 := ti_full z46
        refine mp_a (a_iinc (v := z46) (L' := [(3, .int z46), (4, .int x17), (0, .ref 301), (1, .int t1), (2, .int v2)]) dX7_fewest_62 (by decide) rfl h47 rfl) (mpp 65 rfl ?_)
        try have e48 : z46.toInt = v3.toInt + 1 := ti_addz h47 rfl rfl (by omega) (by omega)
        refine mp_a (a_goto (t := 18) dX7_fewest_65 (by decide)) ?_
        refine MEvP.less (L := [(0, .ref 301), (1, .int t1), (2, .int v2), (3, .int z46)]) rfl rfl ⟨rfl, rfl, rfl, rfl, trivial⟩ ?_
        have i49 : 0 ≤ t1.toInt := by omega
        have i50 : t1.toInt ≤ 7 := by omega
        have i51 : 0 ≤ z46.toInt := by omega
        exact ih _ (by omega) _ _ P hT hK i49 i50 i51 rfl
      · have c45 : x17.toInt < v2.toInt := ti_ge_n c45
        refine mp_a (a_aload_n dX7_fewest_50 rfl) (mpp 51 rfl ?_)
        refine mp_a (a_iload_n dX7_fewest_51 rfl) (mpp 52 rfl ?_)
        refine mp_a (a_iload_n dX7_fewest_52 rfl) (mpp 53 rfl ?_)
        have p52 : 0 ≤ t1.toInt := by omega
        have p53 : t1.toInt ≤ 7 := by omega
        refine mt_callv (i := 222) (q' := q_179) (As := [.int t1, .int v3]) (rest := []) hT dX7_fewest_53 rfl qm_179 (by decide) rfl rl_301 (by decide) rfl (Nat.le_of_ble_eq_true rfl) rfl ⟨rfl, rfl⟩ ⟨Nat.le_of_ble_eq_true rfl, Nat.le_of_ble_eq_true rfl⟩ (EvP.mono (by decide) (c_M_foldsBy hT p52 p53 )) (fun r54 P55 g56 => mpp 56 rfl ?_)
        obtain ⟨⟨x57, rfl, g58⟩, hT59, k60, R61⟩ := g56
        have k62 : KW [1101, 1102, 1536, 1600] Po P55 := KW.trans hK k60 rfl
        have wx57 := ti_full x57
        have g58 : 0 ≤ x57.toInt ∧ x57.toInt ≤ 1 := g58
        show MEvP _ none q_181 56 [(4, .int x17), (0, .ref 301), (1, .int t1), (2, .int v2), (3, .int v3)] [.int x57] _ _ _ _
        refine mp_Tb (t := 62) (j_if_eq dX7_fewest_56) (by decide) (fun c63 => ?_) (fun c63 => mpp 59 rfl ?_)
        · have c63 : x57.toInt = 0 := ti_eq c63
          obtain ⟨z64, h65⟩ := ti_ex (v3 + 1 : Int32)
          have wz64 := ti_full z64
          refine mp_a (a_iinc (v := z64) (L' := [(3, .int z64), (4, .int x17), (0, .ref 301), (1, .int t1), (2, .int v2)]) dX7_fewest_62 (by decide) rfl h65 rfl) (mpp 65 rfl ?_)
          try have e66 : z64.toInt = v3.toInt + 1 := ti_addz h65 rfl rfl (by omega) (by omega)
          refine mp_a (a_goto (t := 18) dX7_fewest_65 (by decide)) ?_
          refine MEvP.less (L := [(0, .ref 301), (1, .int t1), (2, .int v2), (3, .int z64)]) rfl rfl ⟨rfl, rfl, rfl, rfl, trivial⟩ ?_
          have i67 : 0 ≤ t1.toInt := by omega
          have i68 : t1.toInt ≤ 7 := by omega
          have i69 : 0 ≤ z64.toInt := by omega
          exact ih _ (by omega) _ _ P55 hT59 k62 i67 i68 i69 rfl
        · have c63 : x57.toInt ≠ 0 := ti_eq_n c63
          refine mp_a (a_iload dX7_fewest_59 rfl) (mpp 61 rfl ?_)
          refine mp_a (a_istore_n (L' := [(2, .int x17), (4, .int x17), (0, .ref 301), (1, .int t1), (3, .int v3)]) dX7_fewest_61 (by decide) rfl) (mpp 62 rfl ?_)
          obtain ⟨z70, h71⟩ := ti_ex (v3 + 1 : Int32)
          have wz70 := ti_full z70
          refine mp_a (a_iinc (v := z70) (L' := [(3, .int z70), (2, .int x17), (4, .int x17), (0, .ref 301), (1, .int t1)]) dX7_fewest_62 (by decide) rfl h71 rfl) (mpp 65 rfl ?_)
          try have e72 : z70.toInt = v3.toInt + 1 := ti_addz h71 rfl rfl (by omega) (by omega)
          refine mp_a (a_goto (t := 18) dX7_fewest_65 (by decide)) ?_
          refine MEvP.less (L := [(0, .ref 301), (1, .int t1), (2, .int x17), (3, .int z70)]) rfl rfl ⟨rfl, rfl, rfl, rfl, trivial⟩ ?_
          have i73 : 0 ≤ t1.toInt := by omega
          have i74 : t1.toInt ≤ 7 := by omega
          have i75 : 0 ≤ z70.toInt := by omega
          exact ih _ (by omega) _ _ P55 hT59 k62 i73 i74 i75 rfl

set_option maxHeartbeats 4000000 in
theorem c_M_fewest {Po : mP} {t1 : Int32} (hT : Typ Po)   : EvP 7 181 [.ref 301, .int t1] Po (fun r P' => (∃ x : Int32, r = some (.int x) ∧ (True)) ∧ Typ P' ∧ KW [1101, 1102, 1536, 1600] Po P' ∧ True) := by
  refine EvP.of qm_181 (Nat.le_of_ble_eq_true rfl) rfl ?_
  show MEvP _ none q_181 0 [(0, .ref 301), (1, .int t1)] [] _ 0 0 _
  refine mp_a (a_aload_n dX7_fewest_0 rfl) (mpp 1 rfl ?_)
  refine mp_a (a_iload_n dX7_fewest_1 rfl) (mpp 2 rfl ?_)
  refine mt_callv (i := 85) (q' := q_144) (As := [.int t1]) (rest := []) hT dX7_fewest_2 rfl qm_144 (by decide) rfl rl_301 (by decide) rfl (Nat.le_of_ble_eq_true rfl) rfl ⟨rfl, rfl⟩ ⟨Nat.le_of_ble_eq_true rfl, Nat.le_of_ble_eq_true rfl⟩ (EvP.mono (by decide) (c_M_isPiece hT )) (fun r1 P2 g3 => mpp 5 rfl ?_)
  obtain ⟨⟨x4, rfl, g5⟩, e6⟩ := g3
  have e6 := e6.symm
  subst e6
  have wx4 := ti_full x4
  have g5 : 0 ≤ x4.toInt ∧ x4.toInt ≤ 1 ∧ (x4.toInt = 0 ∨ (0 ≤ t1.toInt ∧ t1.toInt + 1 ≤ (fv Po 302 0).toInt ∧ t1.toInt ≤ 7)) := g5
  have g7 : (0 : Int) ≤ (fv Po 302 0).toInt ∧ (fv Po 302 0).toInt ≤ 8 := Typ.rng hT rl_302 (by decide) (by decide) rfl
  show MEvP _ none q_181 5 [(0, .ref 301), (1, .int t1)] [.int x4] _ _ _ _
  refine mp_Tb (t := 12) (j_if_ne dX7_fewest_5) (by decide) (fun c8 => ?_) (fun c8 => mpp 8 rfl ?_)
  · have c8 : x4.toInt ≠ 0 := ti_ne c8
    refine mp_a (a_sipush (v := -1004) dX7_fewest_12 rfl) (mpp 15 rfl ?_)
    refine mp_a (a_istore_n (L' := [(2, .int (-1004)), (0, .ref 301), (1, .int t1)]) dX7_fewest_15 (by decide) rfl) (mpp 16 rfl ?_)
    refine mp_a (a_iconst (v := 0) dX7_fewest_16 rfl) (mpp 17 rfl ?_)
    refine mp_a (a_istore_n (L' := [(3, .int 0), (2, .int (-1004)), (0, .ref 301), (1, .int t1)]) dX7_fewest_17 (by decide) rfl) (mpp 18 rfl ?_)
    refine MEvP.less (L := [(0, .ref 301), (1, .int t1), (2, .int (-1004)), (3, .int 0)]) rfl rfl ⟨rfl, rfl, rfl, rfl, trivial⟩ ?_
    have i9 : 0 ≤ t1.toInt := by omega
    have i10 : t1.toInt ≤ 7 := by omega
    have i11 : 0 ≤ (0 : Int) := by omega
    exact c_M_fewest_l18   _ _ _ Po hT KW.refl i9 i10 i11 rfl
  · have c8 : x4.toInt = 0 := ti_ne_n c8
    refine mp_a (a_sipush (v := -1001) dX7_fewest_8 rfl) (mpp 11 rfl ?_)
    exact mp_iret ⟨⟨_, rfl, trivial⟩, hT, KW.refl, trivial⟩ dX7_fewest_11 (Or.inl rfl)

set_option maxHeartbeats 4000000 in
theorem c_M_isStripWithout {Po : mP} {t1 : Int32} {t2 : Int32} {t3 : Int32} (hT : Typ Po)  (hp0 : 0 ≤ t1.toInt) (hp1 : t1.toInt ≤ 7)  : EvP 4 209 [.ref 301, .int t1, .int t2, .int t3] Po (fun r P' => (∃ x : Int32, r = some (.int x) ∧ (0 ≤ x.toInt ∧ x.toInt ≤ 1 ∧ (x.toInt = 1 ∨ (fv Po 302 (3 + 19 * t1.toInt.toNat)).toInt = 1 ∨ (0 ≤ t2.toInt ∧ t2.toInt ≤ t3.toInt)))) ∧ P' = Po) := by
  refine EvP.of qm_209 (Nat.le_of_ble_eq_true rfl) rfl ?_
  show MEvP _ none q_209 0 [(0, .ref 301), (1, .int t1), (2, .int t2), (3, .int t3)] [] _ 0 0 _
  refine mp_a (a_aload_n dX7_isStripWithout_0 rfl) (mpp 1 rfl ?_)
  refine mp_a (a_iload_n dX7_isStripWithout_1 rfl) (mpp 2 rfl ?_)
  have p1 : 0 ≤ t1.toInt := by omega
  have p2 : t1.toInt ≤ 7 := by omega
  refine mt_callv (i := 81) (q' := q_138) (As := [.int t1]) (rest := []) hT dX7_isStripWithout_2 rfl qm_138 (by decide) rfl rl_301 (by decide) rfl (Nat.le_of_ble_eq_true rfl) rfl ⟨rfl, rfl⟩ ⟨Nat.le_of_ble_eq_true rfl, Nat.le_of_ble_eq_true rfl⟩ (EvP.mono (by decide) (c_M_isCorner hT p1 p2 )) (fun r3 P4 g5 => mpp 5 rfl ?_)
  obtain ⟨⟨x6, rfl, g7⟩, e8⟩ := g5
  have e8 := e8.symm
  subst e8
  have wx6 := ti_full x6
  have g7 : 0 ≤ x6.toInt ∧ x6.toInt ≤ 1 ∧ ((x6.toInt = 1 ∧ (fv Po 302 (3 + 19 * t1.toInt.toNat)).toInt = 1) ∨ (x6.toInt = 0 ∧ (fv Po 302 (3 + 19 * t1.toInt.toNat)).toInt = 0)) := g7
  show MEvP _ none q_209 5 [(0, .ref 301), (1, .int t1), (2, .int t2), (3, .int t3)] [.int x6] _ _ _ _
  refine mp_Tb (t := 21) (j_if_ne dX7_isStripWithout_5) (by decide) (fun c9 => ?_) (fun c9 => mpp 8 rfl ?_)
  · have c9 : x6.toInt ≠ 0 := ti_ne c9
    refine mp_a (a_iconst (v := 0) dX7_isStripWithout_21 rfl) (mpp 22 rfl ?_)
    have u10 : 0 ≤ (0 : Int) ∧ (0 : Int) ≤ 1 ∧ ((0 : Int) = 1 ∨ (fv Po 302 (3 + 19 * t1.toInt.toNat)).toInt = 1 ∨ (0 ≤ t2.toInt ∧ t2.toInt ≤ t3.toInt)) := by omega
    exact mp_iret ⟨⟨_, rfl, u10⟩, rfl⟩ dX7_isStripWithout_22 (Or.inr ⟨rfl, by decide⟩)
  · have c9 : x6.toInt = 0 := ti_ne_n c9
    refine mp_a (a_iload_n dX7_isStripWithout_8 rfl) (mpp 9 rfl ?_)
    refine mp_a (a_iconst (v := 0) dX7_isStripWithout_9 rfl) (mpp 10 rfl ?_)
    refine mp_a (a_iload_n dX7_isStripWithout_10 rfl) (mpp 11 rfl ?_)
    refine mp_calls (i := 61) (q' := q_127) (As := [.int t2, .int 0, .int t3]) (rest := []) dX7_isStripWithout_11 rfl qm_127 (by decide) rfl (Nat.le_of_ble_eq_true rfl) rfl ⟨rfl, rfl⟩ ⟨Nat.le_of_ble_eq_true rfl, Nat.le_of_ble_eq_true rfl⟩ (EvP.mono (by decide) (c_M_isIn hT )) (fun r11 P12 g13 => mpp 14 rfl ?_)
    obtain ⟨⟨x14, rfl, g15⟩, e16⟩ := g13
    have e16 := e16.symm
    subst e16
    have wx14 := ti_full x14
    have g15 : 0 ≤ x14.toInt ∧ x14.toInt ≤ 1 ∧ ((x14.toInt = 1 ∧ (0 : Int) ≤ t2.toInt ∧ t2.toInt ≤ t3.toInt) ∨ (x14.toInt = 0 ∧ (t2.toInt < (0 : Int) ∨ t3.toInt < t2.toInt))) := g15
    show MEvP _ none q_209 14 [(0, .ref 301), (1, .int t1), (2, .int t2), (3, .int t3)] [.int x14] _ _ _ _
    refine mp_Tb (t := 21) (j_if_ne dX7_isStripWithout_14) (by decide) (fun c17 => ?_) (fun c17 => mpp 17 rfl ?_)
    · have c17 : x14.toInt ≠ 0 := ti_ne c17
      refine mp_a (a_iconst (v := 0) dX7_isStripWithout_21 rfl) (mpp 22 rfl ?_)
      have u18 : 0 ≤ (0 : Int) ∧ (0 : Int) ≤ 1 ∧ ((0 : Int) = 1 ∨ (fv Po 302 (3 + 19 * t1.toInt.toNat)).toInt = 1 ∨ (0 ≤ t2.toInt ∧ t2.toInt ≤ t3.toInt)) := by omega
      exact mp_iret ⟨⟨_, rfl, u18⟩, rfl⟩ dX7_isStripWithout_22 (Or.inr ⟨rfl, by decide⟩)
    · have c17 : x14.toInt = 0 := ti_ne_n c17
      refine mp_a (a_iconst (v := 1) dX7_isStripWithout_17 rfl) (mpp 18 rfl ?_)
      refine mp_a (a_goto (t := 22) dX7_isStripWithout_18 (by decide)) ?_
      have u19 : 0 ≤ (1 : Int) ∧ (1 : Int) ≤ 1 ∧ ((1 : Int) = 1 ∨ (fv Po 302 (3 + 19 * t1.toInt.toNat)).toInt = 1 ∨ (0 ≤ t2.toInt ∧ t2.toInt ≤ t3.toInt)) := by omega
      exact mp_iret ⟨⟨_, rfl, u19⟩, rfl⟩ dX7_isStripWithout_22 (Or.inr ⟨rfl, by decide⟩)

