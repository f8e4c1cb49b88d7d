theorem dX7_add_0 : decode cX7_add 0 = .ok (.aload_n 0, 1) := by decide +kernel
theorem dX7_add_1 : decode cX7_add 1 = .ok (.invokevirtual 117, 3) := by decide +kernel
theorem dX7_add_4 : decode cX7_add 4 = .ok (.aload_n 0, 1) := by decide +kernel
theorem dX7_add_5 : decode cX7_add 5 = .ok (.aload_n 0, 1) := by decide +kernel
theorem dX7_add_6 : decode cX7_add 6 = .ok (.iload_n 1, 1) := by decide +kernel
theorem dX7_add_7 : decode cX7_add 7 = .ok (.iload_n 2, 1) := by decide +kernel
theorem dX7_add_8 : decode cX7_add 8 = .ok (.iload_n 3, 1) := by decide +kernel
theorem dX7_add_9 : decode cX7_add 9 = .ok (.invokevirtual 120, 3) := by decide +kernel
theorem dX7_add_12 : decode cX7_add 12 = .ok (.invokevirtual 124, 3) := by decide +kernel
theorem dX7_add_15 : decode cX7_add 15 = .ok (.ireturn, 1) := by decide +kernel
theorem dX7_adds_0 : decode cX7_adds 0 = .ok (.aload_n 0, 1) := by decide +kernel
theorem dX7_adds_1 : decode cX7_adds 1 = .ok (.getfield 9, 3) := by decide +kernel
theorem dX7_adds_4 : decode cX7_adds 4 = .ok (.iconst 0, 1) := by decide +kernel
theorem dX7_adds_5 : decode cX7_adds 5 = .ok (.iaload, 1) := by decide +kernel
theorem dX7_adds_6 : decode cX7_adds 6 = .ok (.bipush 8, 2) := by decide +kernel
theorem dX7_adds_8 : decode cX7_adds 8 = .ok (.if_icmp .ne 11, 3) := by decide +kernel
theorem dX7_adds_19 : decode cX7_adds 19 = .ok (.aload_n 0, 1) := by decide +kernel
theorem dX7_adds_20 : decode cX7_adds 20 = .ok (.getfield 9, 3) := by decide +kernel
theorem dX7_adds_23 : decode cX7_adds 23 = .ok (.iconst 0, 1) := by decide +kernel
theorem dX7_adds_24 : decode cX7_adds 24 = .ok (.iaload, 1) := by decide +kernel
theorem dX7_adds_25 : decode cX7_adds 25 = .ok (.istore_n 3, 1) := by decide +kernel
theorem dX7_adds_26 : decode cX7_adds 26 = .ok (.aload_n 0, 1) := by decide +kernel
theorem dX7_adds_27 : decode cX7_adds 27 = .ok (.getfield 9, 3) := by decide +kernel
theorem dX7_adds_30 : decode cX7_adds 30 = .ok (.iconst 0, 1) := by decide +kernel
theorem dX7_adds_31 : decode cX7_adds 31 = .ok (.dup2, 1) := by decide +kernel
theorem dX7_adds_32 : decode cX7_adds 32 = .ok (.iaload, 1) := by decide +kernel
theorem dX7_adds_33 : decode cX7_adds 33 = .ok (.iconst 1, 1) := by decide +kernel
theorem dX7_adds_34 : decode cX7_adds 34 = .ok (.iadd, 1) := by decide +kernel
theorem dX7_adds_35 : decode cX7_adds 35 = .ok (.iastore, 1) := by decide +kernel
theorem dX7_adds_36 : decode cX7_adds 36 = .ok (.aload_n 0, 1) := by decide +kernel
theorem dX7_adds_37 : decode cX7_adds 37 = .ok (.getfield 9, 3) := by decide +kernel
theorem dX7_adds_40 : decode cX7_adds 40 = .ok (.iload_n 3, 1) := by decide +kernel
theorem dX7_adds_41 : decode cX7_adds 41 = .ok (.iconst 0, 1) := by decide +kernel
theorem dX7_adds_42 : decode cX7_adds 42 = .ok (.invokestatic 74, 3) := by decide +kernel
theorem dX7_adds_45 : decode cX7_adds 45 = .ok (.iload_n 1, 1) := by decide +kernel
theorem dX7_adds_46 : decode cX7_adds 46 = .ok (.iastore, 1) := by decide +kernel
theorem dX7_adds_47 : decode cX7_adds 47 = .ok (.aload_n 0, 1) := by decide +kernel
theorem dX7_adds_48 : decode cX7_adds 48 = .ok (.getfield 9, 3) := by decide +kernel
theorem dX7_adds_51 : decode cX7_adds 51 = .ok (.iload_n 3, 1) := by decide +kernel
theorem dX7_adds_52 : decode cX7_adds 52 = .ok (.iconst 1, 1) := by decide +kernel
theorem dX7_adds_53 : decode cX7_adds 53 = .ok (.invokestatic 74, 3) := by decide +kernel
theorem dX7_adds_56 : decode cX7_adds 56 = .ok (.iload_n 2, 1) := by decide +kernel
theorem dX7_adds_57 : decode cX7_adds 57 = .ok (.iastore, 1) := by decide +kernel
theorem dX7_adds_58 : decode cX7_adds 58 = .ok (.aload_n 0, 1) := by decide +kernel
theorem dX7_adds_59 : decode cX7_adds 59 = .ok (.getfield 9, 3) := by decide +kernel
theorem dX7_adds_62 : decode cX7_adds 62 = .ok (.iload_n 3, 1) := by decide +kernel
theorem dX7_adds_63 : decode cX7_adds 63 = .ok (.iconst 2, 1) := by decide +kernel
theorem dX7_adds_64 : decode cX7_adds 64 = .ok (.invokestatic 74, 3) := by decide +kernel
theorem dX7_adds_67 : decode cX7_adds 67 = .ok (.iconst 0, 1) := by decide +kernel
theorem dX7_adds_68 : decode cX7_adds 68 = .ok (.iastore, 1) := by decide +kernel
theorem dX7_adds_69 : decode cX7_adds 69 = .ok (.iconst 0, 1) := by decide +kernel
theorem dX7_adds_70 : decode cX7_adds 70 = .ok (.istore 4, 2) := by decide +kernel
theorem dX7_adds_72 : decode cX7_adds 72 = .ok (.iload 4, 2) := by decide +kernel
theorem dX7_adds_74 : decode cX7_adds 74 = .ok (.bipush 8, 2) := by decide +kernel
theorem dX7_adds_76 : decode cX7_adds 76 = .ok (.if_icmp .ge 74, 3) := by decide +kernel
theorem dX7_adds_79 : decode cX7_adds 79 = .ok (.aload_n 0, 1) := by decide +kernel
theorem dX7_adds_80 : decode cX7_adds 80 = .ok (.getfield 9, 3) := by decide +kernel
theorem dX7_adds_83 : decode cX7_adds 83 = .ok (.iload_n 3, 1) := by decide +kernel
theorem dX7_adds_84 : decode cX7_adds 84 = .ok (.iconst 3, 1) := by decide +kernel
theorem dX7_adds_85 : decode cX7_adds 85 = .ok (.iload 4, 2) := by decide +kernel
theorem dX7_adds_87 : decode cX7_adds 87 = .ok (.iadd, 1) := by decide +kernel
theorem dX7_adds_88 : decode cX7_adds 88 = .ok (.invokestatic 74, 3) := by decide +kernel
theorem dX7_adds_91 : decode cX7_adds 91 = .ok (.iload 4, 2) := by decide +kernel
theorem dX7_adds_93 : decode cX7_adds 93 = .ok (.iload_n 2, 1) := by decide +kernel
theorem dX7_adds_94 : decode cX7_adds 94 = .ok (.if_icmp .ge 13, 3) := by decide +kernel
theorem dX7_adds_97 : decode cX7_adds 97 = .ok (.aload_n 0, 1) := by decide +kernel
theorem dX7_adds_98 : decode cX7_adds 98 = .ok (.getfield 22, 3) := by decide +kernel
theorem dX7_adds_101 : decode cX7_adds 101 = .ok (.iload 4, 2) := by decide +kernel
theorem dX7_adds_103 : decode cX7_adds 103 = .ok (.iaload, 1) := by decide +kernel
theorem dX7_adds_104 : decode cX7_adds 104 = .ok (.goto 4, 3) := by decide +kernel
theorem dX7_adds_107 : decode cX7_adds 107 = .ok (.iconst 0, 1) := by decide +kernel
theorem dX7_adds_108 : decode cX7_adds 108 = .ok (.iastore, 1) := by decide +kernel
theorem dX7_adds_109 : decode cX7_adds 109 = .ok (.aload_n 0, 1) := by decide +kernel
theorem dX7_adds_110 : decode cX7_adds 110 = .ok (.getfield 9, 3) := by decide +kernel
theorem dX7_adds_113 : decode cX7_adds 113 = .ok (.iload_n 3, 1) := by decide +kernel
theorem dX7_adds_114 : decode cX7_adds 114 = .ok (.bipush 11, 2) := by decide +kernel
theorem dX7_adds_116 : decode cX7_adds 116 = .ok (.iload 4, 2) := by decide +kernel
theorem dX7_adds_118 : decode cX7_adds 118 = .ok (.iadd, 1) := by decide +kernel
theorem dX7_adds_119 : decode cX7_adds 119 = .ok (.invokestatic 74, 3) := by decide +kernel
theorem dX7_adds_122 : decode cX7_adds 122 = .ok (.iload 4, 2) := by decide +kernel
theorem dX7_adds_124 : decode cX7_adds 124 = .ok (.aload_n 0, 1) := by decide +kernel
theorem dX7_adds_125 : decode cX7_adds 125 = .ok (.iload_n 3, 1) := by decide +kernel
theorem dX7_adds_126 : decode cX7_adds 126 = .ok (.invokevirtual 88, 3) := by decide +kernel
theorem dX7_adds_129 : decode cX7_adds 129 = .ok (.if_icmp .ge 13, 3) := by decide +kernel
theorem dX7_adds_132 : decode cX7_adds 132 = .ok (.aload_n 0, 1) := by decide +kernel
theorem dX7_adds_133 : decode cX7_adds 133 = .ok (.getfield 25, 3) := by decide +kernel
theorem dX7_adds_136 : decode cX7_adds 136 = .ok (.iload 4, 2) := by decide +kernel
theorem dX7_adds_138 : decode cX7_adds 138 = .ok (.iaload, 1) := by decide +kernel
theorem dX7_adds_139 : decode cX7_adds 139 = .ok (.goto 4, 3) := by decide +kernel
theorem dX7_adds_142 : decode cX7_adds 142 = .ok (.iconst 0, 1) := by decide +kernel
theorem dX7_adds_143 : decode cX7_adds 143 = .ok (.iastore, 1) := by decide +kernel
theorem dX7_adds_144 : decode cX7_adds 144 = .ok (.iinc 4 1, 3) := by decide +kernel
theorem dX7_adds_147 : decode cX7_adds 147 = .ok (.goto (-75), 3) := by decide +kernel
theorem dX7_adds_150 : decode cX7_adds 150 = .ok (.iload_n 3, 1) := by decide +kernel
theorem dX7_adds_151 : decode cX7_adds 151 = .ok (.ireturn, 1) := by decide +kernel
theorem dX7_addsTold_0 : decode cX7_addsTold 0 = .ok (.iload_n 1, 1) := by decide +kernel
theorem dX7_addsTold_1 : decode cX7_addsTold 1 = .ok (.iconst 0, 1) := by decide +kernel
theorem dX7_addsTold_2 : decode cX7_addsTold 2 = .ok (.iconst 1, 1) := by decide +kernel
theorem dX7_addsTold_3 : decode cX7_addsTold 3 = .ok (.invokestatic 61, 3) := by decide +kernel
theorem dX7_addsTold_6 : decode cX7_addsTold 6 = .ok (.ifCond .eq 11, 3) := by decide +kernel
theorem dX7_addsTold_9 : decode cX7_addsTold 9 = .ok (.aload_n 0, 1) := by decide +kernel
theorem dX7_addsTold_10 : decode cX7_addsTold 10 = .ok (.iload_n 2, 1) := by decide +kernel
theorem dX7_addsTold_11 : decode cX7_addsTold 11 = .ok (.invokevirtual 104, 3) := by decide +kernel
theorem dX7_addsTold_14 : decode cX7_addsTold 14 = .ok (.goto 4, 3) := by decide +kernel
theorem dX7_addsTold_17 : decode cX7_addsTold 17 = .ok (.iconst 0, 1) := by decide +kernel
theorem dX7_addsTold_18 : decode cX7_addsTold 18 = .ok (.istore 4, 2) := by decide +kernel
theorem dX7_addsTold_20 : decode cX7_addsTold 20 = .ok (.iload 4, 2) := by decide +kernel
theorem dX7_addsTold_22 : decode cX7_addsTold 22 = .ok (.ifCond .eq 34, 3) := by decide +kernel
theorem dX7_addsTold_25 : decode cX7_addsTold 25 = .ok (.aload_n 0, 1) := by decide +kernel
theorem dX7_addsTold_26 : decode cX7_addsTold 26 = .ok (.iload_n 1, 1) := by decide +kernel
theorem dX7_addsTold_27 : decode cX7_addsTold 27 = .ok (.iload 4, 2) := by decide +kernel
theorem dX7_addsTold_29 : decode cX7_addsTold 29 = .ok (.invokevirtual 107, 3) := by decide +kernel
theorem dX7_addsTold_32 : decode cX7_addsTold 32 = .ok (.ifCond .eq 24, 3) := by decide +kernel
theorem dX7_addsTold_35 : decode cX7_addsTold 35 = .ok (.aload_n 0, 1) := by decide +kernel
theorem dX7_addsTold_36 : decode cX7_addsTold 36 = .ok (.iload_n 3, 1) := by decide +kernel
theorem dX7_addsTold_37 : decode cX7_addsTold 37 = .ok (.iload_n 1, 1) := by decide +kernel
theorem dX7_addsTold_38 : decode cX7_addsTold 38 = .ok (.ifCond .ne 10, 3) := by decide +kernel
theorem dX7_addsTold_41 : decode cX7_addsTold 41 = .ok (.iload 4, 2) := by decide +kernel
theorem dX7_addsTold_43 : decode cX7_addsTold 43 = .ok (.iconst 1, 1) := by decide +kernel
theorem dX7_addsTold_44 : decode cX7_addsTold 44 = .ok (.isub, 1) := by decide +kernel
theorem dX7_addsTold_45 : decode cX7_addsTold 45 = .ok (.goto 5, 3) := by decide +kernel
theorem dX7_addsTold_48 : decode cX7_addsTold 48 = .ok (.iload 4, 2) := by decide +kernel
theorem dX7_addsTold_50 : decode cX7_addsTold 50 = .ok (.invokevirtual 111, 3) := by decide +kernel
theorem dX7_addsTold_53 : decode cX7_addsTold 53 = .ok (.ifCond .ne 7, 3) := by decide +kernel
theorem dX7_addsTold_56 : decode cX7_addsTold 56 = .ok (.sipush (-1002), 3) := by decide +kernel
theorem dX7_addsTold_59 : decode cX7_addsTold 59 = .ok (.ireturn, 1) := by decide +kernel
theorem dX7_addsTold_60 : decode cX7_addsTold 60 = .ok (.aload_n 0, 1) := by decide +kernel
theorem dX7_addsTold_61 : decode cX7_addsTold 61 = .ok (.iload_n 1, 1) := by decide +kernel
theorem dX7_addsTold_62 : decode cX7_addsTold 62 = .ok (.iload 4, 2) := by decide +kernel
theorem dX7_addsTold_64 : decode cX7_addsTold 64 = .ok (.invokevirtual 114, 3) := by decide +kernel
theorem dX7_addsTold_67 : decode cX7_addsTold 67 = .ok (.ireturn, 1) := by decide +kernel
theorem dX7_at_0 : decode cX7_at 0 = .ok (.iconst 3, 1) := by decide +kernel
theorem dX7_at_1 : decode cX7_at 1 = .ok (.bipush 19, 2) := by decide +kernel
theorem dX7_at_3 : decode cX7_at 3 = .ok (.iload_n 0, 1) := by decide +kernel
theorem dX7_at_4 : decode cX7_at 4 = .ok (.imul, 1) := by decide +kernel
theorem dX7_at_5 : decode cX7_at 5 = .ok (.iadd, 1) := by decide +kernel
theorem dX7_at_6 : decode cX7_at 6 = .ok (.iload_n 1, 1) := by decide +kernel
theorem dX7_at_7 : decode cX7_at 7 = .ok (.iadd, 1) := by decide +kernel
theorem dX7_at_8 : decode cX7_at 8 = .ok (.ireturn, 1) := by decide +kernel
theorem dX7_creases_0 : decode cX7_creases 0 = .ok (.aload_n 0, 1) := by decide +kernel
theorem dX7_creases_1 : decode cX7_creases 1 = .ok (.iload_n 1, 1) := by decide +kernel
theorem dX7_creases_2 : decode cX7_creases 2 = .ok (.iconst 1, 1) := by decide +kernel
theorem dX7_creases_3 : decode cX7_creases 3 = .ok (.invokevirtual 78, 3) := by decide +kernel
theorem dX7_creases_6 : decode cX7_creases 6 = .ok (.aload_n 0, 1) := by decide +kernel
theorem dX7_creases_7 : decode cX7_creases 7 = .ok (.iload_n 1, 1) := by decide +kernel
theorem dX7_creases_8 : decode cX7_creases 8 = .ok (.invokevirtual 81, 3) := by decide +kernel
theorem dX7_creases_11 : decode cX7_creases 11 = .ok (.ifCond .eq 7, 3) := by decide +kernel
theorem dX7_creases_14 : decode cX7_creases 14 = .ok (.iconst 0, 1) := by decide +kernel
theorem dX7_creases_15 : decode cX7_creases 15 = .ok (.goto 4, 3) := by decide +kernel
theorem dX7_creases_18 : decode cX7_creases 18 = .ok (.iconst 1, 1) := by decide +kernel
theorem dX7_creases_19 : decode cX7_creases 19 = .ok (.isub, 1) := by decide +kernel
theorem dX7_creases_20 : decode cX7_creases 20 = .ok (.ireturn, 1) := by decide +kernel
theorem dX7_isCorner_0 : decode cX7_isCorner 0 = .ok (.aload_n 0, 1) := by decide +kernel
theorem dX7_isCorner_1 : decode cX7_isCorner 1 = .ok (.iload_n 1, 1) := by decide +kernel
theorem dX7_isCorner_2 : decode cX7_isCorner 2 = .ok (.iconst 0, 1) := by decide +kernel
theorem dX7_isCorner_3 : decode cX7_isCorner 3 = .ok (.invokevirtual 78, 3) := by decide +kernel
theorem dX7_isCorner_6 : decode cX7_isCorner 6 = .ok (.iconst 1, 1) := by decide +kernel
theorem dX7_isCorner_7 : decode cX7_isCorner 7 = .ok (.if_icmp .ne 7, 3) := by decide +kernel
theorem dX7_isCorner_10 : decode cX7_isCorner 10 = .ok (.iconst 1, 1) := by decide +kernel
theorem dX7_isCorner_11 : decode cX7_isCorner 11 = .ok (.goto 4, 3) := by decide +kernel
theorem dX7_isCorner_14 : decode cX7_isCorner 14 = .ok (.iconst 0, 1) := by decide +kernel
theorem dX7_isCorner_15 : decode cX7_isCorner 15 = .ok (.ireturn, 1) := by decide +kernel
theorem dX7_of_0 : decode cX7_of 0 = .ok (.aload_n 0, 1) := by decide +kernel
theorem dX7_of_1 : decode cX7_of 1 = .ok (.getfield 9, 3) := by decide +kernel
theorem dX7_of_4 : decode cX7_of 4 = .ok (.iload_n 1, 1) := by decide +kernel
theorem dX7_of_5 : decode cX7_of 5 = .ok (.iload_n 2, 1) := by decide +kernel
theorem dX7_of_6 : decode cX7_of 6 = .ok (.invokestatic 74, 3) := by decide +kernel
theorem dX7_of_9 : decode cX7_of 9 = .ok (.iaload, 1) := by decide +kernel
theorem dX7_of_10 : decode cX7_of 10 = .ok (.ireturn, 1) := by decide +kernel
def q_123 : mQ := (yX7_add, cX7_add, 4, (some FieldType.int), 3, 7, 0, 0)
theorem qm_123 : mtL[123]? = some q_123 := rfl
def q_126 : mQ := (yX7_addsTold, cX7_addsTold, 5, (some FieldType.int), 3, 7, 0, 0)
theorem qm_126 : mtL[126]? = some q_126 := rfl
def q_133 : mQ := (yX7_adds, cX7_adds, 5, (some FieldType.int), 2, 7, 0, 0)
theorem qm_133 : mtL[133]? = some q_133 := rfl
def q_135 : mQ := (yX7_at, cX7_at, 2, (some FieldType.int), 2, 7, 0, 0)
theorem qm_135 : mtL[135]? = some q_135 := rfl
def q_136 : mQ := (yX7_creases, cX7_creases, 2, (some FieldType.int), 1, 7, 0, 0)
theorem qm_136 : mtL[136]? = some q_136 := rfl
def q_137 : mQ := (yX7_of, cX7_of, 3, (some FieldType.int), 2, 7, 0, 0)
theorem qm_137 : mtL[137]? = some q_137 := rfl
def q_138 : mQ := (yX7_isCorner, cX7_isCorner, 2, (some FieldType.boolean), 1, 7, 0, 0)
theorem qm_138 : mtL[138]? = some q_138 := rfl
theorem MODE.fr {P P' : mP} (h : MODE P) (g : ∀ t : Nat, t ≠ 306 → t ≠ 307 → P'[t]? = P[t]?) : MODE P' := by
  obtain ⟨w, hw, hl⟩ := h.2.1
  exact ⟨(g 301 (by decide) (by decide)).trans h.1, ⟨w, (g 303 (by decide) (by decide)).trans hw, hl⟩, (g 305 (by decide) (by decide)).trans h.2.2⟩
theorem m_at0 {P : mP} {e : Nat} : EvP 1 135 [.int 0, .int (nI e)] P (fun r P' => r = some (.int (nI (3 + e))) ∧ P' = P) := by
  refine EvP.of qm_135 (Nat.le_of_ble_eq_true rfl) rfl ?_
  show MEvP _ none q_135 0 [(0, .int 0), (1, .int (nI e))] [] _ 0 0 _
  refine mp_a (a_iconst (v := 3) dX7_at_0 rfl) (mpp 1 rfl ?_)
  refine mp_a (a_bipush (v := 19) dX7_at_1 rfl) (mpp 3 rfl ?_)
  refine mp_a (a_iload_n dX7_at_3 rfl) (mpp 4 rfl ?_)
  refine mp_t (s_imul (v := 0) dX7_at_4 rfl) (mpp 5 rfl ?_)
  refine mp_t (s_iadd (v := 3) dX7_at_5 rfl) (mpp 6 rfl ?_)
  refine mp_a (a_iload_n dX7_at_6 rfl) (mpp 7 rfl ?_)
  refine mp_t (s_iadd (v := (nI (3 + e))) dX7_at_7 (nI_add 3 e)) (mpp 8 rfl ?_)
  exact mp_iret (⟨rfl, rfl⟩) dX7_at_8 (Or.inl rfl)
set_option maxRecDepth 100000 in
set_option maxHeartbeats 4000000 in
theorem m_at_0_0 {P : mP}  : EvP 1 135 [.int 0, .int 0] P (fun r P' => r = some (.int 3) ∧ P' = P) := by
  refine EvP.of qm_135 (Nat.le_of_ble_eq_true rfl) rfl ?_
  show MEvP _ none q_135 0 [(0, .int 0), (1, .int 0)] [] _ 0 0 _
  refine mp_a (a_iconst (v := 3) dX7_at_0 rfl) (mpp 1 rfl ?_)
  refine mp_a (a_bipush (v := 19) dX7_at_1 rfl) (mpp 3 rfl ?_)
  refine mp_a (a_iload_n dX7_at_3 rfl) (mpp 4 rfl ?_)
  refine mp_t (s_imul (v := 0) dX7_at_4 rfl) (mpp 5 rfl ?_)
  refine mp_t (s_iadd (v := 3) dX7_at_5 rfl) (mpp 6 rfl ?_)
  refine mp_a (a_iload_n dX7_at_6 rfl) (mpp 7 rfl ?_)
  refine mp_t (s_iadd (v := 3) dX7_at_7 rfl) (mpp 8 rfl ?_)
  exact mp_iret (⟨rfl, rfl⟩) dX7_at_8 (Or.inl rfl)

set_option maxRecDepth 100000 in
set_option maxHeartbeats 4000000 in
theorem m_ofU0 {P : mP} {A : List Value} (h301 : P[301]? = some (7, [.ref 302, .ref 303, .ref 304, .ref 305, .int 0, .int 0, .int 0, .int (-1004), .int 0, .ref 306, .ref 307, .ref 308, .ref 309, .int 0, .int 0, .ref 310, .ref 311, .ref 312, .ref 313, .int 0, .int 0, .int 0, .ref 314, .int 0, .int 0, .int 0, .int 0, .int 0, .int 0, .int 0])) (h302 : P[302]? = some (8, A)) (hA : A.length = 155) : EvP 2 137 [.ref 301, .int 0, .int 0] P (fun r P' => (∃ c : Int32, r = some (.int c) ∧ P' = P)) := by
  refine EvP.of qm_137 (Nat.le_of_ble_eq_true rfl) rfl ?_
  show MEvP _ none q_137 0 [(0, .ref 301), (1, .int 0), (2, .int 0)] [] _ 0 0 _
  refine mp_a (a_aload_n dX7_of_0 rfl) (mpp 1 rfl ?_)
  refine mp_get (i := 9) (v := .ref 302) dX7_of_1 rfl h301 rfl (mpp 4 rfl ?_)
  refine mp_a (a_iload_n dX7_of_4 rfl) (mpp 5 rfl ?_)
  refine mp_a (a_iload_n dX7_of_5 rfl) (mpp 6 rfl ?_)
  refine mp_calls (i := 74) (q' := q_135) (As := [.int 0, .int 0]) (rest := [.ref 302]) dX7_of_6 rfl qm_135 (by decide) rfl (Nat.le_of_ble_eq_true rfl) rfl ⟨rfl, rfl⟩ ⟨Nat.le_of_ble_eq_true rfl, Nat.le_of_ble_eq_true rfl⟩ (EvP.mono (by decide) m_at_0_0) (fun r1 P1 g1 => mpp 9 rfl ?_)
  obtain ⟨rfl, rfl⟩ := g1
  show MEvP _ none q_137 9 [(0, .ref 301), (1, .int 0), (2, .int 0)] [.int 3, .ref 302] _ _ _ _
  refine mp_ial (N := 155) (v := (mint (A.getD 3 .null))) dX7_of_9 h302 hA (by decide) rfl (mpp 10 rfl ?_)
  exact mp_iret (⟨_, rfl, rfl⟩) dX7_of_10 (Or.inl rfl)

set_option maxRecDepth 100000 in
set_option maxHeartbeats 4000000 in
theorem m_at_0_1 {P : mP}  : EvP 1 135 [.int 0, .int 1] P (fun r P' => r = some (.int 4) ∧ P' = P) := by
  refine EvP.of qm_135 (Nat.le_of_ble_eq_true rfl) rfl ?_
  show MEvP _ none q_135 0 [(0, .int 0), (1, .int 1)] [] _ 0 0 _
  refine mp_a (a_iconst (v := 3) dX7_at_0 rfl) (mpp 1 rfl ?_)
  refine mp_a (a_bipush (v := 19) dX7_at_1 rfl) (mpp 3 rfl ?_)
  refine mp_a (a_iload_n dX7_at_3 rfl) (mpp 4 rfl ?_)
  refine mp_t (s_imul (v := 0) dX7_at_4 rfl) (mpp 5 rfl ?_)
  refine mp_t (s_iadd (v := 3) dX7_at_5 rfl) (mpp 6 rfl ?_)
  refine mp_a (a_iload_n dX7_at_6 rfl) (mpp 7 rfl ?_)
  refine mp_t (s_iadd (v := 4) dX7_at_7 rfl) (mpp 8 rfl ?_)
  exact mp_iret (⟨rfl, rfl⟩) dX7_at_8 (Or.inl rfl)

set_option maxRecDepth 100000 in
set_option maxHeartbeats 4000000 in
theorem m_ofU1 {P : mP} {A : List Value} (h301 : P[301]? = some (7, [.ref 302, .ref 303, .ref 304, .ref 305, .int 0, .int 0, .int 0, .int (-1004), .int 0, .ref 306, .ref 307, .ref 308, .ref 309, .int 0, .int 0, .ref 310, .ref 311, .ref 312, .ref 313, .int 0, .int 0, .int 0, .ref 314, .int 0, .int 0, .int 0, .int 0, .int 0, .int 0, .int 0])) (h302 : P[302]? = some (8, A)) (hA : A.length = 155) : EvP 2 137 [.ref 301, .int 0, .int 1] P (fun r P' => (∃ c : Int32, r = some (.int c) ∧ P' = P)) := by
  refine EvP.of qm_137 (Nat.le_of_ble_eq_true rfl) rfl ?_
  show MEvP _ none q_137 0 [(0, .ref 301), (1, .int 0), (2, .int 1)] [] _ 0 0 _
  refine mp_a (a_aload_n dX7_of_0 rfl) (mpp 1 rfl ?_)
  refine mp_get (i := 9) (v := .ref 302) dX7_of_1 rfl h301 rfl (mpp 4 rfl ?_)
  refine mp_a (a_iload_n dX7_of_4 rfl) (mpp 5 rfl ?_)
  refine mp_a (a_iload_n dX7_of_5 rfl) (mpp 6 rfl ?_)
  refine mp_calls (i := 74) (q' := q_135) (As := [.int 0, .int 1]) (rest := [.ref 302]) dX7_of_6 rfl qm_135 (by decide) rfl (Nat.le_of_ble_eq_true rfl) rfl ⟨rfl, rfl⟩ ⟨Nat.le_of_ble_eq_true rfl, Nat.le_of_ble_eq_true rfl⟩ (EvP.mono (by decide) m_at_0_1) (fun r1 P1 g1 => mpp 9 rfl ?_)
  obtain ⟨rfl, rfl⟩ := g1
  show MEvP _ none q_137 9 [(0, .ref 301), (1, .int 0), (2, .int 1)] [.int 4, .ref 302] _ _ _ _
  refine mp_ial (N := 155) (v := (mint (A.getD 4 .null))) dX7_of_9 h302 hA (by decide) rfl (mpp 10 rfl ?_)
  exact mp_iret (⟨_, rfl, rfl⟩) dX7_of_10 (Or.inl rfl)

set_option maxRecDepth 100000 in
set_option maxHeartbeats 4000000 in
theorem m_isCornerU {P : mP} {A : List Value} (h301 : P[301]? = some (7, [.ref 302, .ref 303, .ref 304, .ref 305, .int 0, .int 0, .int 0, .int (-1004), .int 0, .ref 306, .ref 307, .ref 308, .ref 309, .int 0, .int 0, .ref 310, .ref 311, .ref 312, .ref 313, .int 0, .int 0, .int 0, .ref 314, .int 0, .int 0, .int 0, .int 0, .int 0, .int 0, .int 0])) (h302 : P[302]? = some (8, A)) (hA : A.length = 155) : EvP 3 138 [.ref 301, .int 0] P (fun r P' => (∃ c : Int32, r = some (.int c) ∧ P' = P)) := by
  refine EvP.of qm_138 (Nat.le_of_ble_eq_true rfl) rfl ?_
  show MEvP _ none q_138 0 [(0, .ref 301), (1, .int 0)] [] _ 0 0 _
  refine mp_a (a_aload_n dX7_isCorner_0 rfl) (mpp 1 rfl ?_)
  refine mp_a (a_iload_n dX7_isCorner_1 rfl) (mpp 2 rfl ?_)
  refine mp_a (a_iconst (v := 0) dX7_isCorner_2 rfl) (mpp 3 rfl ?_)
  refine mp_callv (i := 78) (q' := q_137) (As := [.int 0, .int 0]) (rest := []) dX7_isCorner_3 rfl qm_137 (by decide) rfl h301 (by decide) (Nat.le_of_ble_eq_true rfl) rfl ⟨rfl, rfl⟩ ⟨Nat.le_of_ble_eq_true rfl, Nat.le_of_ble_eq_true rfl⟩ (EvP.mono (by decide) (m_ofU0 h301 h302 hA)) (fun r1 P1 g1 => mpp 6 rfl ?_)
  obtain ⟨c, rfl, rfl⟩ := g1
  show MEvP _ none q_138 6 [(0, .ref 301), (1, .int 0)] [.int c] _ _ _ _
  refine mp_a (a_iconst (v := 1) dX7_isCorner_6 rfl) (mpp 7 rfl ?_)
  refine mp_Tb (t := 14) (j_icmp_ne dX7_isCorner_7) (by decide) (fun c2 => ?_) (fun c2 => mpp 10 rfl ?_)
  · refine mp_a (a_iconst (v := 0) dX7_isCorner_14 rfl) (mpp 15 rfl ?_)
    exact mp_iret (⟨_, rfl, rfl⟩) dX7_isCorner_15 (Or.inr ⟨rfl, by decide⟩)
  · have c2 := Decidable.not_not.mp c2
    refine mp_a (a_iconst (v := 1) dX7_isCorner_10 rfl) (mpp 11 rfl ?_)
    refine mp_a (a_goto (t := 15) dX7_isCorner_11 (by decide)) ?_
    exact mp_iret (⟨_, rfl, rfl⟩) dX7_isCorner_15 (Or.inr ⟨rfl, by decide⟩)

set_option maxRecDepth 100000 in
set_option maxHeartbeats 4000000 in
theorem m_creasesU {P : mP} {A : List Value} (h301 : P[301]? = some (7, [.ref 302, .ref 303, .ref 304, .ref 305, .int 0, .int 0, .int 0, .int (-1004), .int 0, .ref 306, .ref 307, .ref 308, .ref 309, .int 0, .int 0, .ref 310, .ref 311, .ref 312, .ref 313, .int 0, .int 0, .int 0, .ref 314, .int 0, .int 0, .int 0, .int 0, .int 0, .int 0, .int 0])) (h302 : P[302]? = some (8, A)) (hA : A.length = 155) : EvP 4 136 [.ref 301, .int 0] P (fun r P' => (∃ c : Int32, r = some (.int c) ∧ P' = P)) := by
  refine EvP.of qm_136 (Nat.le_of_ble_eq_true rfl) rfl ?_
  show MEvP _ none q_136 0 [(0, .ref 301), (1, .int 0)] [] _ 0 0 _
  refine mp_a (a_aload_n dX7_creases_0 rfl) (mpp 1 rfl ?_)
  refine mp_a (a_iload_n dX7_creases_1 rfl) (mpp 2 rfl ?_)
  refine mp_a (a_iconst (v := 1) dX7_creases_2 rfl) (mpp 3 rfl ?_)
  refine mp_callv (i := 78) (q' := q_137) (As := [.int 0, .int 1]) (rest := []) dX7_creases_3 rfl qm_137 (by decide) rfl h301 (by decide) (Nat.le_of_ble_eq_true rfl) rfl ⟨rfl, rfl⟩ ⟨Nat.le_of_ble_eq_true rfl, Nat.le_of_ble_eq_true rfl⟩ (EvP.mono (by decide) (m_ofU1 h301 h302 hA)) (fun r1 P1 g1 => mpp 6 rfl ?_)
  obtain ⟨c, rfl, rfl⟩ := g1
  show MEvP _ none q_136 6 [(0, .ref 301), (1, .int 0)] [.int c] _ _ _ _
  refine mp_a (a_aload_n dX7_creases_6 rfl) (mpp 7 rfl ?_)
  refine mp_a (a_iload_n dX7_creases_7 rfl) (mpp 8 rfl ?_)
  refine mp_callv (i := 81) (q' := q_138) (As := [.int 0]) (rest := [.int c]) dX7_creases_8 rfl qm_138 (by decide) rfl h301 (by decide) (Nat.le_of_ble_eq_true rfl) rfl ⟨rfl, rfl⟩ ⟨Nat.le_of_ble_eq_true rfl, Nat.le_of_ble_eq_true rfl⟩ (EvP.mono (by decide) (m_isCornerU h301 h302 hA)) (fun r1 P1 g2 => mpp 11 rfl ?_)
  obtain ⟨b, rfl, rfl⟩ := g2
  show MEvP _ none q_136 11 [(0, .ref 301), (1, .int 0)] [.int b, .int c] _ _ _ _
  refine mp_Tb (t := 18) (j_if_eq dX7_creases_11) (by decide) (fun c3 => ?_) (fun c3 => mpp 14 rfl ?_)
  · refine mp_a (a_iconst (v := 1) dX7_creases_18 rfl) (mpp 19 rfl ?_)
    refine mp_t (s_isub (v := (c - 1)) dX7_creases_19 rfl) (mpp 20 rfl ?_)
    exact mp_iret (⟨_, rfl, rfl⟩) dX7_creases_20 (Or.inl rfl)
  · refine mp_a (a_iconst (v := 0) dX7_creases_14 rfl) (mpp 15 rfl ?_)
    refine mp_a (a_goto (t := 19) dX7_creases_15 (by decide)) ?_
    refine mp_t (s_isub (v := (c - 0)) dX7_creases_19 rfl) (mpp 20 rfl ?_)
    exact mp_iret (⟨_, rfl, rfl⟩) dX7_creases_20 (Or.inl rfl)

