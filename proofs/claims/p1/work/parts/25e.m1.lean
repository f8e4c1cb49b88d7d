theorem dX7_areSizes_0 : decode cX7_areSizes 0 = .ok (.iload_n 1, 1) := by decide +kernel
theorem dX7_areSizes_1 : decode cX7_areSizes 1 = .ok (.ifCond .ne 13, 3) := by decide +kernel
theorem dX7_areSizes_4 : decode cX7_areSizes 4 = .ok (.iload_n 2, 1) := by decide +kernel
theorem dX7_areSizes_5 : decode cX7_areSizes 5 = .ok (.iconst 2, 1) := by decide +kernel
theorem dX7_areSizes_6 : decode cX7_areSizes 6 = .ok (.bipush 7, 2) := by decide +kernel
theorem dX7_areSizes_8 : decode cX7_areSizes 8 = .ok (.invokestatic 61, 3) := by decide +kernel
theorem dX7_areSizes_11 : decode cX7_areSizes 11 = .ok (.goto 35, 3) := by decide +kernel
theorem dX7_areSizes_14 : decode cX7_areSizes 14 = .ok (.iload_n 2, 1) := by decide +kernel
theorem dX7_areSizes_15 : decode cX7_areSizes 15 = .ok (.iconst 4, 1) := by decide +kernel
theorem dX7_areSizes_16 : decode cX7_areSizes 16 = .ok (.if_icmp .eq 15, 3) := by decide +kernel
theorem dX7_areSizes_19 : decode cX7_areSizes 19 = .ok (.iload_n 2, 1) := by decide +kernel
theorem dX7_areSizes_20 : decode cX7_areSizes 20 = .ok (.bipush 6, 2) := by decide +kernel
theorem dX7_areSizes_22 : decode cX7_areSizes 22 = .ok (.if_icmp .eq 9, 3) := by decide +kernel
theorem dX7_areSizes_25 : decode cX7_areSizes 25 = .ok (.iload_n 2, 1) := by decide +kernel
theorem dX7_areSizes_26 : decode cX7_areSizes 26 = .ok (.bipush 8, 2) := by decide +kernel
theorem dX7_areSizes_28 : decode cX7_areSizes 28 = .ok (.if_icmp .ne 17, 3) := by decide +kernel
theorem dX7_areSizes_31 : decode cX7_areSizes 31 = .ok (.aload_n 0, 1) := by decide +kernel
theorem dX7_areSizes_32 : decode cX7_areSizes 32 = .ok (.iload_n 2, 1) := by decide +kernel
theorem dX7_areSizes_33 : decode cX7_areSizes 33 = .ok (.invokevirtual 98, 3) := by decide +kernel
theorem dX7_areSizes_36 : decode cX7_areSizes 36 = .ok (.bipush 24, 2) := by decide +kernel
theorem dX7_areSizes_38 : decode cX7_areSizes 38 = .ok (.if_icmp .ne 7, 3) := by decide +kernel
theorem dX7_areSizes_41 : decode cX7_areSizes 41 = .ok (.iconst 1, 1) := by decide +kernel
theorem dX7_areSizes_42 : decode cX7_areSizes 42 = .ok (.goto 4, 3) := by decide +kernel
theorem dX7_areSizes_45 : decode cX7_areSizes 45 = .ok (.iconst 0, 1) := by decide +kernel
theorem dX7_areSizes_46 : decode cX7_areSizes 46 = .ok (.ireturn, 1) := by decide +kernel
theorem dX7_laysCreases_0 : decode cX7_laysCreases 0 = .ok (.iload_n 1, 1) := by decide +kernel
theorem dX7_laysCreases_1 : decode cX7_laysCreases 1 = .ok (.ifCond .lt 11, 3) := by decide +kernel
theorem dX7_laysCreases_4 : decode cX7_laysCreases 4 = .ok (.iload_n 1, 1) := by decide +kernel
theorem dX7_laysCreases_5 : decode cX7_laysCreases 5 = .ok (.invokestatic 95, 3) := by decide +kernel
theorem dX7_laysCreases_8 : decode cX7_laysCreases 8 = .ok (.iload_n 2, 1) := by decide +kernel
theorem dX7_laysCreases_9 : decode cX7_laysCreases 9 = .ok (.if_icmp .le 5, 3) := by decide +kernel
theorem dX7_laysCreases_12 : decode cX7_laysCreases 12 = .ok (.iconst 0, 1) := by decide +kernel
theorem dX7_laysCreases_13 : decode cX7_laysCreases 13 = .ok (.ireturn, 1) := by decide +kernel
theorem dX7_laysCreases_14 : decode cX7_laysCreases 14 = .ok (.iload_n 1, 1) := by decide +kernel
theorem dX7_laysCreases_15 : decode cX7_laysCreases 15 = .ok (.istore_n 3, 1) := by decide +kernel
theorem dX7_laysCreases_16 : decode cX7_laysCreases 16 = .ok (.iconst 1, 1) := by decide +kernel
theorem dX7_laysCreases_17 : decode cX7_laysCreases 17 = .ok (.istore 4, 2) := by decide +kernel
theorem dX7_laysCreases_19 : decode cX7_laysCreases 19 = .ok (.iload_n 2, 1) := by decide +kernel
theorem dX7_laysCreases_20 : decode cX7_laysCreases 20 = .ok (.iconst 1, 1) := by decide +kernel
theorem dX7_laysCreases_21 : decode cX7_laysCreases 21 = .ok (.isub, 1) := by decide +kernel
theorem dX7_laysCreases_22 : decode cX7_laysCreases 22 = .ok (.istore 5, 2) := by decide +kernel
theorem dX7_laysCreases_24 : decode cX7_laysCreases 24 = .ok (.iload 5, 2) := by decide +kernel
theorem dX7_laysCreases_26 : decode cX7_laysCreases 26 = .ok (.ifCond .lt 48, 3) := by decide +kernel
theorem dX7_laysCreases_29 : decode cX7_laysCreases 29 = .ok (.aload_n 0, 1) := by decide +kernel
theorem dX7_laysCreases_30 : decode cX7_laysCreases 30 = .ok (.getfield 25, 3) := by decide +kernel
theorem dX7_laysCreases_33 : decode cX7_laysCreases 33 = .ok (.iload 5, 2) := by decide +kernel
theorem dX7_laysCreases_35 : decode cX7_laysCreases 35 = .ok (.iload_n 3, 1) := by decide +kernel
theorem dX7_laysCreases_36 : decode cX7_laysCreases 36 = .ok (.bipush 10, 2) := by decide +kernel
theorem dX7_laysCreases_38 : decode cX7_laysCreases 38 = .ok (.irem, 1) := by decide +kernel
theorem dX7_laysCreases_39 : decode cX7_laysCreases 39 = .ok (.iastore, 1) := by decide +kernel
theorem dX7_laysCreases_40 : decode cX7_laysCreases 40 = .ok (.iload_n 3, 1) := by decide +kernel
theorem dX7_laysCreases_41 : decode cX7_laysCreases 41 = .ok (.bipush 10, 2) := by decide +kernel
theorem dX7_laysCreases_43 : decode cX7_laysCreases 43 = .ok (.idiv, 1) := by decide +kernel
theorem dX7_laysCreases_44 : decode cX7_laysCreases 44 = .ok (.istore_n 3, 1) := by decide +kernel
theorem dX7_laysCreases_45 : decode cX7_laysCreases 45 = .ok (.iload 4, 2) := by decide +kernel
theorem dX7_laysCreases_47 : decode cX7_laysCreases 47 = .ok (.ifCond .eq 18, 3) := by decide +kernel
theorem dX7_laysCreases_50 : decode cX7_laysCreases 50 = .ok (.aload_n 0, 1) := by decide +kernel
theorem dX7_laysCreases_51 : decode cX7_laysCreases 51 = .ok (.getfield 25, 3) := by decide +kernel
theorem dX7_laysCreases_54 : decode cX7_laysCreases 54 = .ok (.iload 5, 2) := by decide +kernel
theorem dX7_laysCreases_56 : decode cX7_laysCreases 56 = .ok (.iaload, 1) := by decide +kernel
theorem dX7_laysCreases_57 : decode cX7_laysCreases 57 = .ok (.iconst 2, 1) := by decide +kernel
theorem dX7_laysCreases_58 : decode cX7_laysCreases 58 = .ok (.if_icmp .gt 7, 3) := by decide +kernel
theorem dX7_laysCreases_61 : decode cX7_laysCreases 61 = .ok (.iconst 1, 1) := by decide +kernel
theorem dX7_laysCreases_62 : decode cX7_laysCreases 62 = .ok (.goto 4, 3) := by decide +kernel
theorem dX7_laysCreases_65 : decode cX7_laysCreases 65 = .ok (.iconst 0, 1) := by decide +kernel
theorem dX7_laysCreases_66 : decode cX7_laysCreases 66 = .ok (.istore 4, 2) := by decide +kernel
theorem dX7_laysCreases_68 : decode cX7_laysCreases 68 = .ok (.iinc 5 (-1), 3) := by decide +kernel
theorem dX7_laysCreases_71 : decode cX7_laysCreases 71 = .ok (.goto (-47), 3) := by decide +kernel
theorem dX7_laysCreases_74 : decode cX7_laysCreases 74 = .ok (.iload 4, 2) := by decide +kernel
theorem dX7_laysCreases_76 : decode cX7_laysCreases 76 = .ok (.ireturn, 1) := by decide +kernel
theorem dX7_laysSizes_0 : decode cX7_laysSizes 0 = .ok (.iload_n 1, 1) := by decide +kernel
theorem dX7_laysSizes_1 : decode cX7_laysSizes 1 = .ok (.ifCond .ge 7, 3) := by decide +kernel
theorem dX7_laysSizes_4 : decode cX7_laysSizes 4 = .ok (.iconst 0, 1) := by decide +kernel
theorem dX7_laysSizes_5 : decode cX7_laysSizes 5 = .ok (.goto 7, 3) := by decide +kernel
theorem dX7_laysSizes_8 : decode cX7_laysSizes 8 = .ok (.iload_n 1, 1) := by decide +kernel
theorem dX7_laysSizes_9 : decode cX7_laysSizes 9 = .ok (.invokestatic 95, 3) := by decide +kernel
theorem dX7_laysSizes_12 : decode cX7_laysSizes 12 = .ok (.istore_n 2, 1) := by decide +kernel
theorem dX7_laysSizes_13 : decode cX7_laysSizes 13 = .ok (.iload_n 2, 1) := by decide +kernel
theorem dX7_laysSizes_14 : decode cX7_laysSizes 14 = .ok (.iconst 1, 1) := by decide +kernel
theorem dX7_laysSizes_15 : decode cX7_laysSizes 15 = .ok (.bipush 8, 2) := by decide +kernel
theorem dX7_laysSizes_17 : decode cX7_laysSizes 17 = .ok (.invokestatic 61, 3) := by decide +kernel
theorem dX7_laysSizes_20 : decode cX7_laysSizes 20 = .ok (.ifCond .ne 5, 3) := by decide +kernel
theorem dX7_laysSizes_23 : decode cX7_laysSizes 23 = .ok (.iconst 0, 1) := by decide +kernel
theorem dX7_laysSizes_24 : decode cX7_laysSizes 24 = .ok (.ireturn, 1) := by decide +kernel
theorem dX7_laysSizes_25 : decode cX7_laysSizes 25 = .ok (.iload_n 1, 1) := by decide +kernel
theorem dX7_laysSizes_26 : decode cX7_laysSizes 26 = .ok (.istore_n 3, 1) := by decide +kernel
theorem dX7_laysSizes_27 : decode cX7_laysSizes 27 = .ok (.iconst 1, 1) := by decide +kernel
theorem dX7_laysSizes_28 : decode cX7_laysSizes 28 = .ok (.istore 4, 2) := by decide +kernel
theorem dX7_laysSizes_30 : decode cX7_laysSizes 30 = .ok (.iload_n 2, 1) := by decide +kernel
theorem dX7_laysSizes_31 : decode cX7_laysSizes 31 = .ok (.iconst 1, 1) := by decide +kernel
theorem dX7_laysSizes_32 : decode cX7_laysSizes 32 = .ok (.isub, 1) := by decide +kernel
theorem dX7_laysSizes_33 : decode cX7_laysSizes 33 = .ok (.istore 5, 2) := by decide +kernel
theorem dX7_laysSizes_35 : decode cX7_laysSizes 35 = .ok (.iload 5, 2) := by decide +kernel
theorem dX7_laysSizes_37 : decode cX7_laysSizes 37 = .ok (.ifCond .lt 47, 3) := by decide +kernel
theorem dX7_laysSizes_40 : decode cX7_laysSizes 40 = .ok (.aload_n 0, 1) := by decide +kernel
theorem dX7_laysSizes_41 : decode cX7_laysSizes 41 = .ok (.getfield 22, 3) := by decide +kernel
theorem dX7_laysSizes_44 : decode cX7_laysSizes 44 = .ok (.iload 5, 2) := by decide +kernel
theorem dX7_laysSizes_46 : decode cX7_laysSizes 46 = .ok (.iload_n 3, 1) := by decide +kernel
theorem dX7_laysSizes_47 : decode cX7_laysSizes 47 = .ok (.bipush 10, 2) := by decide +kernel
theorem dX7_laysSizes_49 : decode cX7_laysSizes 49 = .ok (.irem, 1) := by decide +kernel
theorem dX7_laysSizes_50 : decode cX7_laysSizes 50 = .ok (.iastore, 1) := by decide +kernel
theorem dX7_laysSizes_51 : decode cX7_laysSizes 51 = .ok (.iload_n 3, 1) := by decide +kernel
theorem dX7_laysSizes_52 : decode cX7_laysSizes 52 = .ok (.bipush 10, 2) := by decide +kernel
theorem dX7_laysSizes_54 : decode cX7_laysSizes 54 = .ok (.idiv, 1) := by decide +kernel
theorem dX7_laysSizes_55 : decode cX7_laysSizes 55 = .ok (.istore_n 3, 1) := by decide +kernel
theorem dX7_laysSizes_56 : decode cX7_laysSizes 56 = .ok (.iload 4, 2) := by decide +kernel
theorem dX7_laysSizes_58 : decode cX7_laysSizes 58 = .ok (.ifCond .eq 17, 3) := by decide +kernel
theorem dX7_laysSizes_61 : decode cX7_laysSizes 61 = .ok (.aload_n 0, 1) := by decide +kernel
theorem dX7_laysSizes_62 : decode cX7_laysSizes 62 = .ok (.getfield 22, 3) := by decide +kernel
theorem dX7_laysSizes_65 : decode cX7_laysSizes 65 = .ok (.iload 5, 2) := by decide +kernel
theorem dX7_laysSizes_67 : decode cX7_laysSizes 67 = .ok (.iaload, 1) := by decide +kernel
theorem dX7_laysSizes_68 : decode cX7_laysSizes 68 = .ok (.ifCond .le 7, 3) := by decide +kernel
theorem dX7_laysSizes_71 : decode cX7_laysSizes 71 = .ok (.iconst 1, 1) := by decide +kernel
theorem dX7_laysSizes_72 : decode cX7_laysSizes 72 = .ok (.goto 4, 3) := by decide +kernel
theorem dX7_laysSizes_75 : decode cX7_laysSizes 75 = .ok (.iconst 0, 1) := by decide +kernel
theorem dX7_laysSizes_76 : decode cX7_laysSizes 76 = .ok (.istore 4, 2) := by decide +kernel
theorem dX7_laysSizes_78 : decode cX7_laysSizes 78 = .ok (.iinc 5 (-1), 3) := by decide +kernel
theorem dX7_laysSizes_81 : decode cX7_laysSizes 81 = .ok (.goto (-46), 3) := by decide +kernel
theorem dX7_laysSizes_84 : decode cX7_laysSizes 84 = .ok (.iload 4, 2) := by decide +kernel
theorem dX7_laysSizes_86 : decode cX7_laysSizes 86 = .ok (.ifCond .eq 7, 3) := by decide +kernel
theorem dX7_laysSizes_89 : decode cX7_laysSizes 89 = .ok (.iload_n 2, 1) := by decide +kernel
theorem dX7_laysSizes_90 : decode cX7_laysSizes 90 = .ok (.goto 4, 3) := by decide +kernel
theorem dX7_laysSizes_93 : decode cX7_laysSizes 93 = .ok (.iconst 0, 1) := by decide +kernel
theorem dX7_laysSizes_94 : decode cX7_laysSizes 94 = .ok (.ireturn, 1) := by decide +kernel
theorem dX7_sumOfNew_0 : decode cX7_sumOfNew 0 = .ok (.iconst 0, 1) := by decide +kernel
theorem dX7_sumOfNew_1 : decode cX7_sumOfNew 1 = .ok (.istore_n 2, 1) := by decide +kernel
theorem dX7_sumOfNew_2 : decode cX7_sumOfNew 2 = .ok (.iconst 0, 1) := by decide +kernel
theorem dX7_sumOfNew_3 : decode cX7_sumOfNew 3 = .ok (.istore_n 3, 1) := by decide +kernel
theorem dX7_sumOfNew_4 : decode cX7_sumOfNew 4 = .ok (.iload_n 3, 1) := by decide +kernel
theorem dX7_sumOfNew_5 : decode cX7_sumOfNew 5 = .ok (.iload_n 1, 1) := by decide +kernel
theorem dX7_sumOfNew_6 : decode cX7_sumOfNew 6 = .ok (.if_icmp .ge 18, 3) := by decide +kernel
theorem dX7_sumOfNew_9 : decode cX7_sumOfNew 9 = .ok (.iload_n 2, 1) := by decide +kernel
theorem dX7_sumOfNew_10 : decode cX7_sumOfNew 10 = .ok (.aload_n 0, 1) := by decide +kernel
theorem dX7_sumOfNew_11 : decode cX7_sumOfNew 11 = .ok (.getfield 22, 3) := by decide +kernel
theorem dX7_sumOfNew_14 : decode cX7_sumOfNew 14 = .ok (.iload_n 3, 1) := by decide +kernel
theorem dX7_sumOfNew_15 : decode cX7_sumOfNew 15 = .ok (.iaload, 1) := by decide +kernel
theorem dX7_sumOfNew_16 : decode cX7_sumOfNew 16 = .ok (.iadd, 1) := by decide +kernel
theorem dX7_sumOfNew_17 : decode cX7_sumOfNew 17 = .ok (.istore_n 2, 1) := by decide +kernel
theorem dX7_sumOfNew_18 : decode cX7_sumOfNew 18 = .ok (.iinc 3 1, 3) := by decide +kernel
theorem dX7_sumOfNew_21 : decode cX7_sumOfNew 21 = .ok (.goto (-17), 3) := by decide +kernel
theorem dX7_sumOfNew_24 : decode cX7_sumOfNew 24 = .ok (.iload_n 2, 1) := by decide +kernel
theorem dX7_sumOfNew_25 : decode cX7_sumOfNew 25 = .ok (.ireturn, 1) := by decide +kernel
def q_128 : mQ := (yX7_laysSizes, cX7_laysSizes, 6, (some FieldType.int), 1, 7, 0, 0)
theorem qm_128 : mtL[128]? = some q_128 := rfl
def q_130 : mQ := (yX7_areSizes, cX7_areSizes, 3, (some FieldType.boolean), 2, 7, 0, 0)
theorem qm_130 : mtL[130]? = some q_130 := rfl
def q_131 : mQ := (yX7_sumOfNew, cX7_sumOfNew, 4, (some FieldType.int), 1, 7, 0, 0)
theorem qm_131 : mtL[131]? = some q_131 := rfl
def q_132 : mQ := (yX7_laysCreases, cX7_laysCreases, 6, (some FieldType.boolean), 2, 7, 0, 0)
theorem qm_132 : mtL[132]? = some q_132 := rfl
set_option maxRecDepth 100000 in
set_option maxHeartbeats 4000000 in
theorem m_endsE_n1002 {P : mP} (h : MODE P) : EvP 3 139 [.ref 301, .int (-1002)] P (fun r P' => r = some (.int (-1002))) := by
  obtain ⟨w, hw, hl⟩ := h.2.1
  refine EvP.of qm_139 (Nat.le_of_ble_eq_true rfl) rfl ?_
  show MEvP _ none q_139 0 [(0, .ref 301), (1, .int (-1002))] [] _ 0 0 _
  refine mp_a (a_aload_n dX7_ends_0 rfl) (mpp 1 rfl ?_)
  refine mp_a (a_iload_n dX7_ends_1 rfl) (mpp 2 rfl ?_)
  refine mp_a (a_sipush (v := -1003) dX7_ends_2 rfl) (mpp 5 rfl ?_)
  refine mp_Tt (t := 14) (j_icmp_ne dX7_ends_5) (by decide) (by decide) ?_
  refine mp_a (a_aload_n dX7_ends_14 rfl) (mpp 15 rfl ?_)
  refine mp_get (i := 50) (v := .int (-1004)) dX7_ends_15 rfl h.1 rfl (mpp 18 rfl ?_)
  refine mp_put (i := 50) dX7_ends_18 rfl h.1 (Nat.le_of_ble_eq_true rfl) rfl (Or.inl rfl) (mpp 21 rfl ?_)
  refine mp_a (a_iload_n dX7_ends_21 rfl) (mpp 22 rfl ?_)
  refine mp_a (a_sipush (v := -1004) dX7_ends_22 rfl) (mpp 25 rfl ?_)
  refine mp_a (a_sipush (v := -1001) dX7_ends_25 rfl) (mpp 28 rfl ?_)
  refine mp_calls (i := 61) (q' := q_127) (As := [.int (-1002), .int (-1004), .int (-1001)]) (rest := []) dX7_ends_28 rfl qm_127 (by decide) rfl (Nat.le_of_ble_eq_true rfl) rfl ⟨rfl, rfl⟩ ⟨Nat.le_of_ble_eq_true rfl, Nat.le_of_ble_eq_true rfl⟩ (EvP.mono (by decide) m_isIn_n1002_n1004_n1001) (fun r1 P1 g1 => mpp 31 rfl ?_)
  obtain ⟨rfl, rfl⟩ := g1
  show MEvP _ none q_139 31 [(0, .ref 301), (1, .int (-1002))] [.int 1] _ _ _ _
  refine mp_Tt (t := 38) (j_if_ne dX7_ends_31) (by decide) (by decide) ?_
  refine mp_a (a_iload_n dX7_ends_38 rfl) (mpp 39 rfl ?_)
  exact mp_iret (rfl) dX7_ends_39 (Or.inl rfl)

