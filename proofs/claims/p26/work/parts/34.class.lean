/-! the class on typed pools, on (written by a program) -/
theorem dX0_clear_0 : decode cX0_clear 0 = .ok (.aload_n 0, 1) := by decide +kernel
theorem dX0_clear_1 : decode cX0_clear 1 = .ok (.iconst 0, 1) := by decide +kernel
theorem dX0_clear_2 : decode cX0_clear 2 = .ok (.putfield 34, 3) := by decide +kernel
theorem dX0_clear_5 : decode cX0_clear 5 = .ok (.return_, 1) := by decide +kernel
theorem dX0_pop_0 : decode cX0_pop 0 = .ok (.aload_n 0, 1) := by decide +kernel
theorem dX0_pop_1 : decode cX0_pop 1 = .ok (.aload_n 0, 1) := by decide +kernel
theorem dX0_pop_2 : decode cX0_pop 2 = .ok (.getfield 18, 3) := by decide +kernel
theorem dX0_pop_5 : decode cX0_pop 5 = .ok (.ifCond .le 12, 3) := by decide +kernel
theorem dX0_pop_8 : decode cX0_pop 8 = .ok (.aload_n 0, 1) := by decide +kernel
theorem dX0_pop_9 : decode cX0_pop 9 = .ok (.getfield 18, 3) := by decide +kernel
theorem dX0_pop_12 : decode cX0_pop 12 = .ok (.iconst 1, 1) := by decide +kernel
theorem dX0_pop_13 : decode cX0_pop 13 = .ok (.isub, 1) := by decide +kernel
theorem dX0_pop_14 : decode cX0_pop 14 = .ok (.goto 5, 3) := by decide +kernel
theorem dX0_pop_17 : decode cX0_pop 17 = .ok (.bipush 7, 2) := by decide +kernel
theorem dX0_pop_19 : decode cX0_pop 19 = .ok (.putfield 18, 3) := by decide +kernel
theorem dX0_pop_22 : decode cX0_pop 22 = .ok (.aload_n 0, 1) := by decide +kernel
theorem dX0_pop_23 : decode cX0_pop 23 = .ok (.dup, 1) := by decide +kernel
theorem dX0_pop_24 : decode cX0_pop 24 = .ok (.getfield 34, 3) := by decide +kernel
theorem dX0_pop_27 : decode cX0_pop 27 = .ok (.iconst 1, 1) := by decide +kernel
theorem dX0_pop_28 : decode cX0_pop 28 = .ok (.isub, 1) := by decide +kernel
theorem dX0_pop_29 : decode cX0_pop 29 = .ok (.putfield 34, 3) := by decide +kernel
theorem dX0_pop_32 : decode cX0_pop 32 = .ok (.aload_n 0, 1) := by decide +kernel
theorem dX0_pop_33 : decode cX0_pop 33 = .ok (.aload_n 0, 1) := by decide +kernel
theorem dX0_pop_34 : decode cX0_pop 34 = .ok (.getfield 18, 3) := by decide +kernel
theorem dX0_pop_37 : decode cX0_pop 37 = .ok (.invokevirtual 22, 3) := by decide +kernel
theorem dX0_pop_40 : decode cX0_pop 40 = .ok (.astore_n 2, 1) := by decide +kernel
theorem dX0_pop_41 : decode cX0_pop 41 = .ok (.aload_n 2, 1) := by decide +kernel
theorem dX0_pop_42 : decode cX0_pop 42 = .ok (.ifnull 8, 3) := by decide +kernel
theorem dX0_pop_45 : decode cX0_pop 45 = .ok (.aload_n 1, 1) := by decide +kernel
theorem dX0_pop_46 : decode cX0_pop 46 = .ok (.aload_n 2, 1) := by decide +kernel
theorem dX0_pop_47 : decode cX0_pop 47 = .ok (.invokevirtual 30, 3) := by decide +kernel
theorem dX0_pop_50 : decode cX0_pop 50 = .ok (.return_, 1) := by decide +kernel
theorem dX0_push_0 : decode cX0_push 0 = .ok (.aload_n 0, 1) := by decide +kernel
theorem dX0_push_1 : decode cX0_push 1 = .ok (.aload_n 0, 1) := by decide +kernel
theorem dX0_push_2 : decode cX0_push 2 = .ok (.getfield 18, 3) := by decide +kernel
theorem dX0_push_5 : decode cX0_push 5 = .ok (.invokevirtual 22, 3) := by decide +kernel
theorem dX0_push_8 : decode cX0_push 8 = .ok (.astore_n 2, 1) := by decide +kernel
theorem dX0_push_9 : decode cX0_push 9 = .ok (.aload_n 2, 1) := by decide +kernel
theorem dX0_push_10 : decode cX0_push 10 = .ok (.ifnull 53, 3) := by decide +kernel
theorem dX0_push_13 : decode cX0_push 13 = .ok (.aload_n 0, 1) := by decide +kernel
theorem dX0_push_14 : decode cX0_push 14 = .ok (.getfield 26, 3) := by decide +kernel
theorem dX0_push_17 : decode cX0_push 17 = .ok (.ifCond .ne 46, 3) := by decide +kernel
theorem dX0_push_20 : decode cX0_push 20 = .ok (.aload_n 2, 1) := by decide +kernel
theorem dX0_push_21 : decode cX0_push 21 = .ok (.aload_n 1, 1) := by decide +kernel
theorem dX0_push_22 : decode cX0_push 22 = .ok (.invokevirtual 30, 3) := by decide +kernel
theorem dX0_push_25 : decode cX0_push 25 = .ok (.aload_n 0, 1) := by decide +kernel
theorem dX0_push_26 : decode cX0_push 26 = .ok (.aload_n 0, 1) := by decide +kernel
theorem dX0_push_27 : decode cX0_push 27 = .ok (.getfield 18, 3) := by decide +kernel
theorem dX0_push_30 : decode cX0_push 30 = .ok (.bipush 7, 2) := by decide +kernel
theorem dX0_push_32 : decode cX0_push 32 = .ok (.if_icmp .ge 12, 3) := by decide +kernel
theorem dX0_push_35 : decode cX0_push 35 = .ok (.aload_n 0, 1) := by decide +kernel
theorem dX0_push_36 : decode cX0_push 36 = .ok (.getfield 18, 3) := by decide +kernel
theorem dX0_push_39 : decode cX0_push 39 = .ok (.iconst 1, 1) := by decide +kernel
theorem dX0_push_40 : decode cX0_push 40 = .ok (.iadd, 1) := by decide +kernel
theorem dX0_push_41 : decode cX0_push 41 = .ok (.goto 4, 3) := by decide +kernel
theorem dX0_push_44 : decode cX0_push 44 = .ok (.iconst 0, 1) := by decide +kernel
theorem dX0_push_45 : decode cX0_push 45 = .ok (.putfield 18, 3) := by decide +kernel
theorem dX0_push_48 : decode cX0_push 48 = .ok (.aload_n 0, 1) := by decide +kernel
theorem dX0_push_49 : decode cX0_push 49 = .ok (.aload_n 0, 1) := by decide +kernel
theorem dX0_push_50 : decode cX0_push 50 = .ok (.getfield 34, 3) := by decide +kernel
theorem dX0_push_53 : decode cX0_push 53 = .ok (.iconst 1, 1) := by decide +kernel
theorem dX0_push_54 : decode cX0_push 54 = .ok (.iadd, 1) := by decide +kernel
theorem dX0_push_55 : decode cX0_push 55 = .ok (.bipush 8, 2) := by decide +kernel
theorem dX0_push_57 : decode cX0_push 57 = .ok (.invokestatic 37, 3) := by decide +kernel
theorem dX0_push_60 : decode cX0_push 60 = .ok (.putfield 34, 3) := by decide +kernel
theorem dX0_push_63 : decode cX0_push 63 = .ok (.return_, 1) := by decide +kernel
theorem dX0_stateAt_0 : decode cX0_stateAt 0 = .ok (.iload_n 1, 1) := by decide +kernel
theorem dX0_stateAt_1 : decode cX0_stateAt 1 = .ok (.ifCond .lt 21, 3) := by decide +kernel
theorem dX0_stateAt_4 : decode cX0_stateAt 4 = .ok (.iload_n 1, 1) := by decide +kernel
theorem dX0_stateAt_5 : decode cX0_stateAt 5 = .ok (.aload_n 0, 1) := by decide +kernel
theorem dX0_stateAt_6 : decode cX0_stateAt 6 = .ok (.getfield 11, 3) := by decide +kernel
theorem dX0_stateAt_9 : decode cX0_stateAt 9 = .ok (.arraylength, 1) := by decide +kernel
theorem dX0_stateAt_10 : decode cX0_stateAt 10 = .ok (.if_icmp .ge 12, 3) := by decide +kernel
theorem dX0_stateAt_13 : decode cX0_stateAt 13 = .ok (.aload_n 0, 1) := by decide +kernel
theorem dX0_stateAt_14 : decode cX0_stateAt 14 = .ok (.getfield 11, 3) := by decide +kernel
theorem dX0_stateAt_17 : decode cX0_stateAt 17 = .ok (.iload_n 1, 1) := by decide +kernel
theorem dX0_stateAt_18 : decode cX0_stateAt 18 = .ok (.aaload, 1) := by decide +kernel
theorem dX0_stateAt_19 : decode cX0_stateAt 19 = .ok (.goto 4, 3) := by decide +kernel
theorem dX0_stateAt_22 : decode cX0_stateAt 22 = .ok (.aconst_null, 1) := by decide +kernel
theorem dX0_stateAt_23 : decode cX0_stateAt 23 = .ok (.areturn, 1) := by decide +kernel
theorem dX2_becomeRotated_0 : decode cX2_becomeRotated 0 = .ok (.iconst 0, 1) := by decide +kernel
theorem dX2_becomeRotated_1 : decode cX2_becomeRotated 1 = .ok (.istore_n 3, 1) := by decide +kernel
theorem dX2_becomeRotated_2 : decode cX2_becomeRotated 2 = .ok (.iload_n 3, 1) := by decide +kernel
theorem dX2_becomeRotated_3 : decode cX2_becomeRotated 3 = .ok (.aload_n 0, 1) := by decide +kernel
theorem dX2_becomeRotated_4 : decode cX2_becomeRotated 4 = .ok (.getfield 26, 3) := by decide +kernel
theorem dX2_becomeRotated_7 : decode cX2_becomeRotated 7 = .ok (.if_icmp .ge 69, 3) := by decide +kernel
theorem dX2_becomeRotated_10 : decode cX2_becomeRotated 10 = .ok (.iload_n 2, 1) := by decide +kernel
theorem dX2_becomeRotated_11 : decode cX2_becomeRotated 11 = .ok (.iload_n 3, 1) := by decide +kernel
theorem dX2_becomeRotated_12 : decode cX2_becomeRotated 12 = .ok (.iadd, 1) := by decide +kernel
theorem dX2_becomeRotated_13 : decode cX2_becomeRotated 13 = .ok (.aload_n 0, 1) := by decide +kernel
theorem dX2_becomeRotated_14 : decode cX2_becomeRotated 14 = .ok (.getfield 26, 3) := by decide +kernel
theorem dX2_becomeRotated_17 : decode cX2_becomeRotated 17 = .ok (.if_icmp .ge 9, 3) := by decide +kernel
theorem dX2_becomeRotated_20 : decode cX2_becomeRotated 20 = .ok (.iload_n 2, 1) := by decide +kernel
theorem dX2_becomeRotated_21 : decode cX2_becomeRotated 21 = .ok (.iload_n 3, 1) := by decide +kernel
theorem dX2_becomeRotated_22 : decode cX2_becomeRotated 22 = .ok (.iadd, 1) := by decide +kernel
theorem dX2_becomeRotated_23 : decode cX2_becomeRotated 23 = .ok (.goto 11, 3) := by decide +kernel
theorem dX2_becomeRotated_26 : decode cX2_becomeRotated 26 = .ok (.iload_n 2, 1) := by decide +kernel
theorem dX2_becomeRotated_27 : decode cX2_becomeRotated 27 = .ok (.iload_n 3, 1) := by decide +kernel
theorem dX2_becomeRotated_28 : decode cX2_becomeRotated 28 = .ok (.iadd, 1) := by decide +kernel
theorem dX2_becomeRotated_29 : decode cX2_becomeRotated 29 = .ok (.aload_n 0, 1) := by decide +kernel
theorem dX2_becomeRotated_30 : decode cX2_becomeRotated 30 = .ok (.getfield 26, 3) := by decide +kernel
theorem dX2_becomeRotated_33 : decode cX2_becomeRotated 33 = .ok (.isub, 1) := by decide +kernel
theorem dX2_becomeRotated_34 : decode cX2_becomeRotated 34 = .ok (.istore 4, 2) := by decide +kernel
theorem dX2_becomeRotated_36 : decode cX2_becomeRotated 36 = .ok (.aload_n 0, 1) := by decide +kernel
theorem dX2_becomeRotated_37 : decode cX2_becomeRotated 37 = .ok (.getfield 9, 3) := by decide +kernel
theorem dX2_becomeRotated_40 : decode cX2_becomeRotated 40 = .ok (.iload_n 3, 1) := by decide +kernel
theorem dX2_becomeRotated_41 : decode cX2_becomeRotated 41 = .ok (.aload_n 1, 1) := by decide +kernel
theorem dX2_becomeRotated_42 : decode cX2_becomeRotated 42 = .ok (.getfield 9, 3) := by decide +kernel
theorem dX2_becomeRotated_45 : decode cX2_becomeRotated 45 = .ok (.iload 4, 2) := by decide +kernel
theorem dX2_becomeRotated_47 : decode cX2_becomeRotated 47 = .ok (.invokestatic 48, 3) := by decide +kernel
theorem dX2_becomeRotated_50 : decode cX2_becomeRotated 50 = .ok (.invokestatic 29, 3) := by decide +kernel
theorem dX2_becomeRotated_53 : decode cX2_becomeRotated 53 = .ok (.aload_n 0, 1) := by decide +kernel
theorem dX2_becomeRotated_54 : decode cX2_becomeRotated 54 = .ok (.getfield 15, 3) := by decide +kernel
theorem dX2_becomeRotated_57 : decode cX2_becomeRotated 57 = .ok (.iload_n 3, 1) := by decide +kernel
theorem dX2_becomeRotated_58 : decode cX2_becomeRotated 58 = .ok (.aload_n 1, 1) := by decide +kernel
theorem dX2_becomeRotated_59 : decode cX2_becomeRotated 59 = .ok (.getfield 15, 3) := by decide +kernel
theorem dX2_becomeRotated_62 : decode cX2_becomeRotated 62 = .ok (.iload 4, 2) := by decide +kernel
theorem dX2_becomeRotated_64 : decode cX2_becomeRotated 64 = .ok (.invokestatic 48, 3) := by decide +kernel
theorem dX2_becomeRotated_67 : decode cX2_becomeRotated 67 = .ok (.invokestatic 29, 3) := by decide +kernel
theorem dX2_becomeRotated_70 : decode cX2_becomeRotated 70 = .ok (.iinc 3 1, 3) := by decide +kernel
theorem dX2_becomeRotated_73 : decode cX2_becomeRotated 73 = .ok (.goto (-71), 3) := by decide +kernel
theorem dX2_becomeRotated_76 : decode cX2_becomeRotated 76 = .ok (.return_, 1) := by decide +kernel
theorem dX2_copyFrom_0 : decode cX2_copyFrom 0 = .ok (.aload_n 0, 1) := by decide +kernel
theorem dX2_copyFrom_1 : decode cX2_copyFrom 1 = .ok (.aload_n 1, 1) := by decide +kernel
theorem dX2_copyFrom_2 : decode cX2_copyFrom 2 = .ok (.getfield 18, 3) := by decide +kernel
theorem dX2_copyFrom_5 : decode cX2_copyFrom 5 = .ok (.putfield 18, 3) := by decide +kernel
theorem dX2_copyFrom_8 : decode cX2_copyFrom 8 = .ok (.aload_n 0, 1) := by decide +kernel
theorem dX2_copyFrom_9 : decode cX2_copyFrom 9 = .ok (.aload_n 1, 1) := by decide +kernel
theorem dX2_copyFrom_10 : decode cX2_copyFrom 10 = .ok (.getfield 26, 3) := by decide +kernel
theorem dX2_copyFrom_13 : decode cX2_copyFrom 13 = .ok (.putfield 26, 3) := by decide +kernel
theorem dX2_copyFrom_16 : decode cX2_copyFrom 16 = .ok (.aload_n 0, 1) := by decide +kernel
theorem dX2_copyFrom_17 : decode cX2_copyFrom 17 = .ok (.aload_n 1, 1) := by decide +kernel
theorem dX2_copyFrom_18 : decode cX2_copyFrom 18 = .ok (.getfield 22, 3) := by decide +kernel
theorem dX2_copyFrom_21 : decode cX2_copyFrom 21 = .ok (.putfield 22, 3) := by decide +kernel
theorem dX2_copyFrom_24 : decode cX2_copyFrom 24 = .ok (.aload_n 1, 1) := by decide +kernel
theorem dX2_copyFrom_25 : decode cX2_copyFrom 25 = .ok (.getfield 9, 3) := by decide +kernel
theorem dX2_copyFrom_28 : decode cX2_copyFrom 28 = .ok (.aload_n 0, 1) := by decide +kernel
theorem dX2_copyFrom_29 : decode cX2_copyFrom 29 = .ok (.getfield 9, 3) := by decide +kernel
theorem dX2_copyFrom_32 : decode cX2_copyFrom 32 = .ok (.invokestatic 44, 3) := by decide +kernel
theorem dX2_copyFrom_35 : decode cX2_copyFrom 35 = .ok (.aload_n 1, 1) := by decide +kernel
theorem dX2_copyFrom_36 : decode cX2_copyFrom 36 = .ok (.getfield 15, 3) := by decide +kernel
theorem dX2_copyFrom_39 : decode cX2_copyFrom 39 = .ok (.aload_n 0, 1) := by decide +kernel
theorem dX2_copyFrom_40 : decode cX2_copyFrom 40 = .ok (.getfield 15, 3) := by decide +kernel
theorem dX2_copyFrom_43 : decode cX2_copyFrom 43 = .ok (.invokestatic 44, 3) := by decide +kernel
theorem dX2_copyFrom_46 : decode cX2_copyFrom 46 = .ok (.return_, 1) := by decide +kernel
theorem dX2_leftEndOf_0 : decode cX2_leftEndOf 0 = .ok (.aload_n 0, 1) := by decide +kernel
theorem dX2_leftEndOf_1 : decode cX2_leftEndOf 1 = .ok (.iload_n 1, 1) := by decide +kernel
theorem dX2_leftEndOf_2 : decode cX2_leftEndOf 2 = .ok (.invokevirtual 56, 3) := by decide +kernel
theorem dX2_leftEndOf_5 : decode cX2_leftEndOf 5 = .ok (.aload_n 0, 1) := by decide +kernel
theorem dX2_leftEndOf_6 : decode cX2_leftEndOf 6 = .ok (.iload_n 1, 1) := by decide +kernel
theorem dX2_leftEndOf_7 : decode cX2_leftEndOf 7 = .ok (.iconst 1, 1) := by decide +kernel
theorem dX2_leftEndOf_8 : decode cX2_leftEndOf 8 = .ok (.iadd, 1) := by decide +kernel
theorem dX2_leftEndOf_9 : decode cX2_leftEndOf 9 = .ok (.invokevirtual 56, 3) := by decide +kernel
theorem dX2_leftEndOf_12 : decode cX2_leftEndOf 12 = .ok (.invokestatic 59, 3) := by decide +kernel
theorem dX2_leftEndOf_15 : decode cX2_leftEndOf 15 = .ok (.ireturn, 1) := by decide +kernel
theorem dX2_panelsBehind_0 : decode cX2_panelsBehind 0 = .ok (.iconst 0, 1) := by decide +kernel
theorem dX2_panelsBehind_1 : decode cX2_panelsBehind 1 = .ok (.istore_n 2, 1) := by decide +kernel
theorem dX2_panelsBehind_2 : decode cX2_panelsBehind 2 = .ok (.iconst 0, 1) := by decide +kernel
theorem dX2_panelsBehind_3 : decode cX2_panelsBehind 3 = .ok (.istore_n 3, 1) := by decide +kernel
theorem dX2_panelsBehind_4 : decode cX2_panelsBehind 4 = .ok (.iload_n 3, 1) := by decide +kernel
theorem dX2_panelsBehind_5 : decode cX2_panelsBehind 5 = .ok (.aload_n 0, 1) := by decide +kernel
theorem dX2_panelsBehind_6 : decode cX2_panelsBehind 6 = .ok (.getfield 26, 3) := by decide +kernel
theorem dX2_panelsBehind_9 : decode cX2_panelsBehind 9 = .ok (.if_icmp .ge 30, 3) := by decide +kernel
theorem dX2_panelsBehind_12 : decode cX2_panelsBehind 12 = .ok (.aload_n 0, 1) := by decide +kernel
theorem dX2_panelsBehind_13 : decode cX2_panelsBehind 13 = .ok (.iload_n 3, 1) := by decide +kernel
theorem dX2_panelsBehind_14 : decode cX2_panelsBehind 14 = .ok (.invokevirtual 71, 3) := by decide +kernel
theorem dX2_panelsBehind_17 : decode cX2_panelsBehind 17 = .ok (.iload_n 1, 1) := by decide +kernel
theorem dX2_panelsBehind_18 : decode cX2_panelsBehind 18 = .ok (.if_icmp .gt 15, 3) := by decide +kernel
theorem dX2_panelsBehind_21 : decode cX2_panelsBehind 21 = .ok (.iload_n 1, 1) := by decide +kernel
theorem dX2_panelsBehind_22 : decode cX2_panelsBehind 22 = .ok (.aload_n 0, 1) := by decide +kernel
theorem dX2_panelsBehind_23 : decode cX2_panelsBehind 23 = .ok (.iload_n 3, 1) := by decide +kernel
theorem dX2_panelsBehind_24 : decode cX2_panelsBehind 24 = .ok (.invokevirtual 77, 3) := by decide +kernel
theorem dX2_panelsBehind_27 : decode cX2_panelsBehind 27 = .ok (.if_icmp .ge 6, 3) := by decide +kernel
theorem dX2_panelsBehind_30 : decode cX2_panelsBehind 30 = .ok (.iinc 2 1, 3) := by decide +kernel
theorem dX2_panelsBehind_33 : decode cX2_panelsBehind 33 = .ok (.iinc 3 1, 3) := by decide +kernel
theorem dX2_panelsBehind_36 : decode cX2_panelsBehind 36 = .ok (.goto (-32), 3) := by decide +kernel
theorem dX2_panelsBehind_39 : decode cX2_panelsBehind 39 = .ok (.iload_n 2, 1) := by decide +kernel
theorem dX2_panelsBehind_40 : decode cX2_panelsBehind 40 = .ok (.ireturn, 1) := by decide +kernel
theorem dX2_placeOf_0 : decode cX2_placeOf 0 = .ok (.iconst 0, 1) := by decide +kernel
theorem dX2_placeOf_1 : decode cX2_placeOf 1 = .ok (.istore_n 2, 1) := by decide +kernel
theorem dX2_placeOf_2 : decode cX2_placeOf 2 = .ok (.iconst 0, 1) := by decide +kernel
theorem dX2_placeOf_3 : decode cX2_placeOf 3 = .ok (.istore_n 3, 1) := by decide +kernel
theorem dX2_placeOf_4 : decode cX2_placeOf 4 = .ok (.iload_n 3, 1) := by decide +kernel
theorem dX2_placeOf_5 : decode cX2_placeOf 5 = .ok (.iload_n 1, 1) := by decide +kernel
theorem dX2_placeOf_6 : decode cX2_placeOf 6 = .ok (.if_icmp .ge 46, 3) := by decide +kernel
theorem dX2_placeOf_9 : decode cX2_placeOf 9 = .ok (.iload_n 3, 1) := by decide +kernel
theorem dX2_placeOf_10 : decode cX2_placeOf 10 = .ok (.aload_n 0, 1) := by decide +kernel
theorem dX2_placeOf_11 : decode cX2_placeOf 11 = .ok (.getfield 26, 3) := by decide +kernel
theorem dX2_placeOf_14 : decode cX2_placeOf 14 = .ok (.if_icmp .ge 38, 3) := by decide +kernel
theorem dX2_placeOf_17 : decode cX2_placeOf 17 = .ok (.iload_n 2, 1) := by decide +kernel
theorem dX2_placeOf_18 : decode cX2_placeOf 18 = .ok (.iload_n 3, 1) := by decide +kernel
theorem dX2_placeOf_19 : decode cX2_placeOf 19 = .ok (.iconst 2, 1) := by decide +kernel
theorem dX2_placeOf_20 : decode cX2_placeOf 20 = .ok (.irem, 1) := by decide +kernel
theorem dX2_placeOf_21 : decode cX2_placeOf 21 = .ok (.ifCond .ne 14, 3) := by decide +kernel
theorem dX2_placeOf_24 : decode cX2_placeOf 24 = .ok (.aload_n 0, 1) := by decide +kernel
theorem dX2_placeOf_25 : decode cX2_placeOf 25 = .ok (.getfield 9, 3) := by decide +kernel
theorem dX2_placeOf_28 : decode cX2_placeOf 28 = .ok (.iload_n 3, 1) := by decide +kernel
theorem dX2_placeOf_29 : decode cX2_placeOf 29 = .ok (.invokestatic 48, 3) := by decide +kernel
theorem dX2_placeOf_32 : decode cX2_placeOf 32 = .ok (.goto 12, 3) := by decide +kernel
theorem dX2_placeOf_35 : decode cX2_placeOf 35 = .ok (.aload_n 0, 1) := by decide +kernel
theorem dX2_placeOf_36 : decode cX2_placeOf 36 = .ok (.getfield 9, 3) := by decide +kernel
theorem dX2_placeOf_39 : decode cX2_placeOf 39 = .ok (.iload_n 3, 1) := by decide +kernel
theorem dX2_placeOf_40 : decode cX2_placeOf 40 = .ok (.invokestatic 48, 3) := by decide +kernel
theorem dX2_placeOf_43 : decode cX2_placeOf 43 = .ok (.ineg, 1) := by decide +kernel
theorem dX2_placeOf_44 : decode cX2_placeOf 44 = .ok (.iadd, 1) := by decide +kernel
theorem dX2_placeOf_45 : decode cX2_placeOf 45 = .ok (.istore_n 2, 1) := by decide +kernel
theorem dX2_placeOf_46 : decode cX2_placeOf 46 = .ok (.iinc 3 1, 3) := by decide +kernel
theorem dX2_placeOf_49 : decode cX2_placeOf 49 = .ok (.goto (-45), 3) := by decide +kernel
theorem dX2_placeOf_52 : decode cX2_placeOf 52 = .ok (.iload_n 2, 1) := by decide +kernel
theorem dX2_placeOf_53 : decode cX2_placeOf 53 = .ok (.ireturn, 1) := by decide +kernel
theorem dX2_rightEndOf_0 : decode cX2_rightEndOf 0 = .ok (.aload_n 0, 1) := by decide +kernel
theorem dX2_rightEndOf_1 : decode cX2_rightEndOf 1 = .ok (.iload_n 1, 1) := by decide +kernel
theorem dX2_rightEndOf_2 : decode cX2_rightEndOf 2 = .ok (.invokevirtual 56, 3) := by decide +kernel
theorem dX2_rightEndOf_5 : decode cX2_rightEndOf 5 = .ok (.aload_n 0, 1) := by decide +kernel
theorem dX2_rightEndOf_6 : decode cX2_rightEndOf 6 = .ok (.iload_n 1, 1) := by decide +kernel
theorem dX2_rightEndOf_7 : decode cX2_rightEndOf 7 = .ok (.iconst 1, 1) := by decide +kernel
theorem dX2_rightEndOf_8 : decode cX2_rightEndOf 8 = .ok (.iadd, 1) := by decide +kernel
theorem dX2_rightEndOf_9 : decode cX2_rightEndOf 9 = .ok (.invokevirtual 56, 3) := by decide +kernel
theorem dX2_rightEndOf_12 : decode cX2_rightEndOf 12 = .ok (.invokestatic 65, 3) := by decide +kernel
theorem dX2_rightEndOf_15 : decode cX2_rightEndOf 15 = .ok (.ireturn, 1) := by decide +kernel
theorem dX2_thickness_0 : decode cX2_thickness 0 = .ok (.iconst 0, 1) := by decide +kernel
theorem dX2_thickness_1 : decode cX2_thickness 1 = .ok (.istore_n 1, 1) := by decide +kernel
theorem dX2_thickness_2 : decode cX2_thickness 2 = .ok (.iconst 0, 1) := by decide +kernel
theorem dX2_thickness_3 : decode cX2_thickness 3 = .ok (.istore_n 2, 1) := by decide +kernel
theorem dX2_thickness_4 : decode cX2_thickness 4 = .ok (.iload_n 2, 1) := by decide +kernel
theorem dX2_thickness_5 : decode cX2_thickness 5 = .ok (.aload_n 0, 1) := by decide +kernel
theorem dX2_thickness_6 : decode cX2_thickness 6 = .ok (.getfield 26, 3) := by decide +kernel
theorem dX2_thickness_9 : decode cX2_thickness 9 = .ok (.if_icmp .ge 23, 3) := by decide +kernel
theorem dX2_thickness_12 : decode cX2_thickness 12 = .ok (.iload_n 1, 1) := by decide +kernel
theorem dX2_thickness_13 : decode cX2_thickness 13 = .ok (.aload_n 0, 1) := by decide +kernel
theorem dX2_thickness_14 : decode cX2_thickness 14 = .ok (.aload_n 0, 1) := by decide +kernel
theorem dX2_thickness_15 : decode cX2_thickness 15 = .ok (.iload_n 2, 1) := by decide +kernel
theorem dX2_thickness_16 : decode cX2_thickness 16 = .ok (.invokevirtual 71, 3) := by decide +kernel
theorem dX2_thickness_19 : decode cX2_thickness 19 = .ok (.invokevirtual 74, 3) := by decide +kernel
theorem dX2_thickness_22 : decode cX2_thickness 22 = .ok (.invokestatic 65, 3) := by decide +kernel
theorem dX2_thickness_25 : decode cX2_thickness 25 = .ok (.istore_n 1, 1) := by decide +kernel
theorem dX2_thickness_26 : decode cX2_thickness 26 = .ok (.iinc 2 1, 3) := by decide +kernel
theorem dX2_thickness_29 : decode cX2_thickness 29 = .ok (.goto (-25), 3) := by decide +kernel
theorem dX2_thickness_32 : decode cX2_thickness 32 = .ok (.iload_n 1, 1) := by decide +kernel
theorem dX2_thickness_33 : decode cX2_thickness 33 = .ok (.ireturn, 1) := by decide +kernel
theorem dX2_width_0 : decode cX2_width 0 = .ok (.aload_n 0, 1) := by decide +kernel
theorem dX2_width_1 : decode cX2_width 1 = .ok (.getfield 18, 3) := by decide +kernel
theorem dX2_width_4 : decode cX2_width 4 = .ok (.iconst 1, 1) := by decide +kernel
theorem dX2_width_5 : decode cX2_width 5 = .ok (.if_icmp .ne 8, 3) := by decide +kernel
theorem dX2_width_8 : decode cX2_width 8 = .ok (.aload_n 0, 1) := by decide +kernel
theorem dX2_width_9 : decode cX2_width 9 = .ok (.invokevirtual 68, 3) := by decide +kernel
theorem dX2_width_12 : decode cX2_width 12 = .ok (.ireturn, 1) := by decide +kernel
theorem dX2_width_13 : decode cX2_width 13 = .ok (.iconst 0, 1) := by decide +kernel
theorem dX2_width_14 : decode cX2_width 14 = .ok (.istore_n 1, 1) := by decide +kernel
theorem dX2_width_15 : decode cX2_width 15 = .ok (.iconst 0, 1) := by decide +kernel
theorem dX2_width_16 : decode cX2_width 16 = .ok (.istore_n 2, 1) := by decide +kernel
theorem dX2_width_17 : decode cX2_width 17 = .ok (.iconst 0, 1) := by decide +kernel
theorem dX2_width_18 : decode cX2_width 18 = .ok (.istore_n 3, 1) := by decide +kernel
theorem dX2_width_19 : decode cX2_width 19 = .ok (.iload_n 3, 1) := by decide +kernel
theorem dX2_width_20 : decode cX2_width 20 = .ok (.aload_n 0, 1) := by decide +kernel
theorem dX2_width_21 : decode cX2_width 21 = .ok (.getfield 26, 3) := by decide +kernel
theorem dX2_width_24 : decode cX2_width 24 = .ok (.if_icmp .ge 33, 3) := by decide +kernel
theorem dX2_width_27 : decode cX2_width 27 = .ok (.iload_n 1, 1) := by decide +kernel
theorem dX2_width_28 : decode cX2_width 28 = .ok (.aload_n 0, 1) := by decide +kernel
theorem dX2_width_29 : decode cX2_width 29 = .ok (.iload_n 3, 1) := by decide +kernel
theorem dX2_width_30 : decode cX2_width 30 = .ok (.iconst 1, 1) := by decide +kernel
theorem dX2_width_31 : decode cX2_width 31 = .ok (.iadd, 1) := by decide +kernel
theorem dX2_width_32 : decode cX2_width 32 = .ok (.invokevirtual 56, 3) := by decide +kernel
theorem dX2_width_35 : decode cX2_width 35 = .ok (.invokestatic 59, 3) := by decide +kernel
theorem dX2_width_38 : decode cX2_width 38 = .ok (.istore_n 1, 1) := by decide +kernel
theorem dX2_width_39 : decode cX2_width 39 = .ok (.iload_n 2, 1) := by decide +kernel
theorem dX2_width_40 : decode cX2_width 40 = .ok (.aload_n 0, 1) := by decide +kernel
theorem dX2_width_41 : decode cX2_width 41 = .ok (.iload_n 3, 1) := by decide +kernel
theorem dX2_width_42 : decode cX2_width 42 = .ok (.iconst 1, 1) := by decide +kernel
theorem dX2_width_43 : decode cX2_width 43 = .ok (.iadd, 1) := by decide +kernel
theorem dX2_width_44 : decode cX2_width 44 = .ok (.invokevirtual 56, 3) := by decide +kernel
theorem dX2_width_47 : decode cX2_width 47 = .ok (.invokestatic 65, 3) := by decide +kernel
theorem dX2_width_50 : decode cX2_width 50 = .ok (.istore_n 2, 1) := by decide +kernel
theorem dX2_width_51 : decode cX2_width 51 = .ok (.iinc 3 1, 3) := by decide +kernel
theorem dX2_width_54 : decode cX2_width 54 = .ok (.goto (-35), 3) := by decide +kernel
theorem dX2_width_57 : decode cX2_width 57 = .ok (.iload_n 2, 1) := by decide +kernel
theorem dX2_width_58 : decode cX2_width 58 = .ok (.iload_n 1, 1) := by decide +kernel
theorem dX2_width_59 : decode cX2_width 59 = .ok (.isub, 1) := by decide +kernel
theorem dX2_width_60 : decode cX2_width 60 = .ok (.ireturn, 1) := by decide +kernel
theorem dX5_addCopyOf_0 : decode cX5_addCopyOf 0 = .ok (.aload_n 0, 1) := by decide +kernel
theorem dX5_addCopyOf_1 : decode cX5_addCopyOf 1 = .ok (.getfield 22, 3) := by decide +kernel
theorem dX5_addCopyOf_4 : decode cX5_addCopyOf 4 = .ok (.aload_n 0, 1) := by decide +kernel
theorem dX5_addCopyOf_5 : decode cX5_addCopyOf 5 = .ok (.getfield 11, 3) := by decide +kernel
theorem dX5_addCopyOf_8 : decode cX5_addCopyOf 8 = .ok (.arraylength, 1) := by decide +kernel
theorem dX5_addCopyOf_9 : decode cX5_addCopyOf 9 = .ok (.if_icmp .lt 4, 3) := by decide +kernel
theorem dX5_addCopyOf_12 : decode cX5_addCopyOf 12 = .ok (.return_, 1) := by decide +kernel
theorem dX5_addCopyOf_13 : decode cX5_addCopyOf 13 = .ok (.aload_n 0, 1) := by decide +kernel
theorem dX5_addCopyOf_14 : decode cX5_addCopyOf 14 = .ok (.dup, 1) := by decide +kernel
theorem dX5_addCopyOf_15 : decode cX5_addCopyOf 15 = .ok (.getfield 22, 3) := by decide +kernel
theorem dX5_addCopyOf_18 : decode cX5_addCopyOf 18 = .ok (.iconst 1, 1) := by decide +kernel
theorem dX5_addCopyOf_19 : decode cX5_addCopyOf 19 = .ok (.iadd, 1) := by decide +kernel
theorem dX5_addCopyOf_20 : decode cX5_addCopyOf 20 = .ok (.putfield 22, 3) := by decide +kernel
theorem dX5_addCopyOf_23 : decode cX5_addCopyOf 23 = .ok (.aload_n 0, 1) := by decide +kernel
theorem dX5_addCopyOf_24 : decode cX5_addCopyOf 24 = .ok (.aload_n 0, 1) := by decide +kernel
theorem dX5_addCopyOf_25 : decode cX5_addCopyOf 25 = .ok (.getfield 22, 3) := by decide +kernel
theorem dX5_addCopyOf_28 : decode cX5_addCopyOf 28 = .ok (.iconst 1, 1) := by decide +kernel
theorem dX5_addCopyOf_29 : decode cX5_addCopyOf 29 = .ok (.isub, 1) := by decide +kernel
theorem dX5_addCopyOf_30 : decode cX5_addCopyOf 30 = .ok (.invokevirtual 28, 3) := by decide +kernel
theorem dX5_addCopyOf_33 : decode cX5_addCopyOf 33 = .ok (.astore_n 2, 1) := by decide +kernel
theorem dX5_addCopyOf_34 : decode cX5_addCopyOf 34 = .ok (.aload_n 2, 1) := by decide +kernel
theorem dX5_addCopyOf_35 : decode cX5_addCopyOf 35 = .ok (.ifnull 8, 3) := by decide +kernel
theorem dX5_addCopyOf_38 : decode cX5_addCopyOf 38 = .ok (.aload_n 2, 1) := by decide +kernel
theorem dX5_addCopyOf_39 : decode cX5_addCopyOf 39 = .ok (.aload_n 1, 1) := by decide +kernel
theorem dX5_addCopyOf_40 : decode cX5_addCopyOf 40 = .ok (.invokevirtual 32, 3) := by decide +kernel
theorem dX5_addCopyOf_43 : decode cX5_addCopyOf 43 = .ok (.return_, 1) := by decide +kernel
theorem dX5_copyFrom_0 : decode cX5_copyFrom 0 = .ok (.aload_n 0, 1) := by decide +kernel
theorem dX5_copyFrom_1 : decode cX5_copyFrom 1 = .ok (.aload_n 1, 1) := by decide +kernel
theorem dX5_copyFrom_2 : decode cX5_copyFrom 2 = .ok (.getfield 22, 3) := by decide +kernel
theorem dX5_copyFrom_5 : decode cX5_copyFrom 5 = .ok (.putfield 22, 3) := by decide +kernel
theorem dX5_copyFrom_8 : decode cX5_copyFrom 8 = .ok (.aload_n 0, 1) := by decide +kernel
theorem dX5_copyFrom_9 : decode cX5_copyFrom 9 = .ok (.aload_n 1, 1) := by decide +kernel
theorem dX5_copyFrom_10 : decode cX5_copyFrom 10 = .ok (.getfield 17, 3) := by decide +kernel
theorem dX5_copyFrom_13 : decode cX5_copyFrom 13 = .ok (.putfield 17, 3) := by decide +kernel
theorem dX5_copyFrom_16 : decode cX5_copyFrom 16 = .ok (.aload_n 0, 1) := by decide +kernel
theorem dX5_copyFrom_17 : decode cX5_copyFrom 17 = .ok (.aload_n 1, 1) := by decide +kernel
theorem dX5_copyFrom_18 : decode cX5_copyFrom 18 = .ok (.getfield 25, 3) := by decide +kernel
theorem dX5_copyFrom_21 : decode cX5_copyFrom 21 = .ok (.putfield 25, 3) := by decide +kernel
theorem dX5_copyFrom_24 : decode cX5_copyFrom 24 = .ok (.iconst 0, 1) := by decide +kernel
theorem dX5_copyFrom_25 : decode cX5_copyFrom 25 = .ok (.istore_n 2, 1) := by decide +kernel
theorem dX5_copyFrom_26 : decode cX5_copyFrom 26 = .ok (.iload_n 2, 1) := by decide +kernel
theorem dX5_copyFrom_27 : decode cX5_copyFrom 27 = .ok (.aload_n 0, 1) := by decide +kernel
theorem dX5_copyFrom_28 : decode cX5_copyFrom 28 = .ok (.getfield 22, 3) := by decide +kernel
theorem dX5_copyFrom_31 : decode cX5_copyFrom 31 = .ok (.if_icmp .ge 37, 3) := by decide +kernel
theorem dX5_copyFrom_34 : decode cX5_copyFrom 34 = .ok (.aload_n 0, 1) := by decide +kernel
theorem dX5_copyFrom_35 : decode cX5_copyFrom 35 = .ok (.iload_n 2, 1) := by decide +kernel
theorem dX5_copyFrom_36 : decode cX5_copyFrom 36 = .ok (.invokevirtual 28, 3) := by decide +kernel
theorem dX5_copyFrom_39 : decode cX5_copyFrom 39 = .ok (.astore_n 3, 1) := by decide +kernel
theorem dX5_copyFrom_40 : decode cX5_copyFrom 40 = .ok (.aload_n 1, 1) := by decide +kernel
theorem dX5_copyFrom_41 : decode cX5_copyFrom 41 = .ok (.iload_n 2, 1) := by decide +kernel
theorem dX5_copyFrom_42 : decode cX5_copyFrom 42 = .ok (.invokevirtual 28, 3) := by decide +kernel
theorem dX5_copyFrom_45 : decode cX5_copyFrom 45 = .ok (.astore 4, 2) := by decide +kernel
theorem dX5_copyFrom_47 : decode cX5_copyFrom 47 = .ok (.aload_n 3, 1) := by decide +kernel
theorem dX5_copyFrom_48 : decode cX5_copyFrom 48 = .ok (.ifnull 14, 3) := by decide +kernel
theorem dX5_copyFrom_51 : decode cX5_copyFrom 51 = .ok (.aload 4, 2) := by decide +kernel
theorem dX5_copyFrom_53 : decode cX5_copyFrom 53 = .ok (.ifnull 9, 3) := by decide +kernel
theorem dX5_copyFrom_56 : decode cX5_copyFrom 56 = .ok (.aload_n 3, 1) := by decide +kernel
theorem dX5_copyFrom_57 : decode cX5_copyFrom 57 = .ok (.aload 4, 2) := by decide +kernel
theorem dX5_copyFrom_59 : decode cX5_copyFrom 59 = .ok (.invokevirtual 32, 3) := by decide +kernel
theorem dX5_copyFrom_62 : decode cX5_copyFrom 62 = .ok (.iinc 2 1, 3) := by decide +kernel
theorem dX5_copyFrom_65 : decode cX5_copyFrom 65 = .ok (.goto (-39), 3) := by decide +kernel
theorem dX5_copyFrom_68 : decode cX5_copyFrom 68 = .ok (.return_, 1) := by decide +kernel
theorem dX5_countOfKind_0 : decode cX5_countOfKind 0 = .ok (.iconst 0, 1) := by decide +kernel
theorem dX5_countOfKind_1 : decode cX5_countOfKind 1 = .ok (.istore_n 2, 1) := by decide +kernel
theorem dX5_countOfKind_2 : decode cX5_countOfKind 2 = .ok (.iconst 0, 1) := by decide +kernel
theorem dX5_countOfKind_3 : decode cX5_countOfKind 3 = .ok (.istore_n 3, 1) := by decide +kernel
theorem dX5_countOfKind_4 : decode cX5_countOfKind 4 = .ok (.iload_n 3, 1) := by decide +kernel
theorem dX5_countOfKind_5 : decode cX5_countOfKind 5 = .ok (.aload_n 0, 1) := by decide +kernel
theorem dX5_countOfKind_6 : decode cX5_countOfKind 6 = .ok (.getfield 22, 3) := by decide +kernel
theorem dX5_countOfKind_9 : decode cX5_countOfKind 9 = .ok (.if_icmp .ge 33, 3) := by decide +kernel
theorem dX5_countOfKind_12 : decode cX5_countOfKind 12 = .ok (.aload_n 0, 1) := by decide +kernel
theorem dX5_countOfKind_13 : decode cX5_countOfKind 13 = .ok (.iload_n 3, 1) := by decide +kernel
theorem dX5_countOfKind_14 : decode cX5_countOfKind 14 = .ok (.invokevirtual 28, 3) := by decide +kernel
theorem dX5_countOfKind_17 : decode cX5_countOfKind 17 = .ok (.astore 4, 2) := by decide +kernel
theorem dX5_countOfKind_19 : decode cX5_countOfKind 19 = .ok (.aload 4, 2) := by decide +kernel
theorem dX5_countOfKind_21 : decode cX5_countOfKind 21 = .ok (.ifnull 15, 3) := by decide +kernel
theorem dX5_countOfKind_24 : decode cX5_countOfKind 24 = .ok (.aload 4, 2) := by decide +kernel
theorem dX5_countOfKind_26 : decode cX5_countOfKind 26 = .ok (.getfield 43, 3) := by decide +kernel
theorem dX5_countOfKind_29 : decode cX5_countOfKind 29 = .ok (.iload_n 1, 1) := by decide +kernel
theorem dX5_countOfKind_30 : decode cX5_countOfKind 30 = .ok (.if_icmp .ne 6, 3) := by decide +kernel
theorem dX5_countOfKind_33 : decode cX5_countOfKind 33 = .ok (.iinc 2 1, 3) := by decide +kernel
theorem dX5_countOfKind_36 : decode cX5_countOfKind 36 = .ok (.iinc 3 1, 3) := by decide +kernel
theorem dX5_countOfKind_39 : decode cX5_countOfKind 39 = .ok (.goto (-35), 3) := by decide +kernel
theorem dX5_countOfKind_42 : decode cX5_countOfKind 42 = .ok (.iload_n 2, 1) := by decide +kernel
theorem dX5_countOfKind_43 : decode cX5_countOfKind 43 = .ok (.ireturn, 1) := by decide +kernel
theorem dX5_creasesOf_0 : decode cX5_creasesOf 0 = .ok (.iconst 0, 1) := by decide +kernel
theorem dX5_creasesOf_1 : decode cX5_creasesOf 1 = .ok (.istore_n 2, 1) := by decide +kernel
theorem dX5_creasesOf_2 : decode cX5_creasesOf 2 = .ok (.iconst 0, 1) := by decide +kernel
theorem dX5_creasesOf_3 : decode cX5_creasesOf 3 = .ok (.istore_n 3, 1) := by decide +kernel
theorem dX5_creasesOf_4 : decode cX5_creasesOf 4 = .ok (.iload_n 3, 1) := by decide +kernel
theorem dX5_creasesOf_5 : decode cX5_creasesOf 5 = .ok (.aload_n 0, 1) := by decide +kernel
theorem dX5_creasesOf_6 : decode cX5_creasesOf 6 = .ok (.getfield 22, 3) := by decide +kernel
theorem dX5_creasesOf_9 : decode cX5_creasesOf 9 = .ok (.if_icmp .ge 30, 3) := by decide +kernel
theorem dX5_creasesOf_12 : decode cX5_creasesOf 12 = .ok (.aload_n 0, 1) := by decide +kernel
theorem dX5_creasesOf_13 : decode cX5_creasesOf 13 = .ok (.iload_n 3, 1) := by decide +kernel
theorem dX5_creasesOf_14 : decode cX5_creasesOf 14 = .ok (.invokevirtual 28, 3) := by decide +kernel
theorem dX5_creasesOf_17 : decode cX5_creasesOf 17 = .ok (.astore 4, 2) := by decide +kernel
theorem dX5_creasesOf_19 : decode cX5_creasesOf 19 = .ok (.aload 4, 2) := by decide +kernel
theorem dX5_creasesOf_21 : decode cX5_creasesOf 21 = .ok (.ifnull 12, 3) := by decide +kernel
theorem dX5_creasesOf_24 : decode cX5_creasesOf 24 = .ok (.iload_n 2, 1) := by decide +kernel
theorem dX5_creasesOf_25 : decode cX5_creasesOf 25 = .ok (.aload 4, 2) := by decide +kernel
theorem dX5_creasesOf_27 : decode cX5_creasesOf 27 = .ok (.iload_n 1, 1) := by decide +kernel
theorem dX5_creasesOf_28 : decode cX5_creasesOf 28 = .ok (.invokevirtual 47, 3) := by decide +kernel
theorem dX5_creasesOf_31 : decode cX5_creasesOf 31 = .ok (.iadd, 1) := by decide +kernel
theorem dX5_creasesOf_32 : decode cX5_creasesOf 32 = .ok (.istore_n 2, 1) := by decide +kernel
theorem dX5_creasesOf_33 : decode cX5_creasesOf 33 = .ok (.iinc 3 1, 3) := by decide +kernel
theorem dX5_creasesOf_36 : decode cX5_creasesOf 36 = .ok (.goto (-32), 3) := by decide +kernel
theorem dX5_creasesOf_39 : decode cX5_creasesOf 39 = .ok (.iload_n 2, 1) := by decide +kernel
theorem dX5_creasesOf_40 : decode cX5_creasesOf 40 = .ok (.ireturn, 1) := by decide +kernel
theorem dX5_foldedCount_0 : decode cX5_foldedCount 0 = .ok (.iconst 0, 1) := by decide +kernel
theorem dX5_foldedCount_1 : decode cX5_foldedCount 1 = .ok (.istore_n 1, 1) := by decide +kernel
theorem dX5_foldedCount_2 : decode cX5_foldedCount 2 = .ok (.iconst 0, 1) := by decide +kernel
theorem dX5_foldedCount_3 : decode cX5_foldedCount 3 = .ok (.istore_n 2, 1) := by decide +kernel
theorem dX5_foldedCount_4 : decode cX5_foldedCount 4 = .ok (.iload_n 2, 1) := by decide +kernel
theorem dX5_foldedCount_5 : decode cX5_foldedCount 5 = .ok (.aload_n 0, 1) := by decide +kernel
theorem dX5_foldedCount_6 : decode cX5_foldedCount 6 = .ok (.getfield 22, 3) := by decide +kernel
theorem dX5_foldedCount_9 : decode cX5_foldedCount 9 = .ok (.if_icmp .ge 29, 3) := by decide +kernel
theorem dX5_foldedCount_12 : decode cX5_foldedCount 12 = .ok (.aload_n 0, 1) := by decide +kernel
theorem dX5_foldedCount_13 : decode cX5_foldedCount 13 = .ok (.iload_n 2, 1) := by decide +kernel
theorem dX5_foldedCount_14 : decode cX5_foldedCount 14 = .ok (.invokevirtual 28, 3) := by decide +kernel
theorem dX5_foldedCount_17 : decode cX5_foldedCount 17 = .ok (.astore_n 3, 1) := by decide +kernel
theorem dX5_foldedCount_18 : decode cX5_foldedCount 18 = .ok (.aload_n 3, 1) := by decide +kernel
theorem dX5_foldedCount_19 : decode cX5_foldedCount 19 = .ok (.ifnull 13, 3) := by decide +kernel
theorem dX5_foldedCount_22 : decode cX5_foldedCount 22 = .ok (.aload_n 3, 1) := by decide +kernel
theorem dX5_foldedCount_23 : decode cX5_foldedCount 23 = .ok (.getfield 36, 3) := by decide +kernel
theorem dX5_foldedCount_26 : decode cX5_foldedCount 26 = .ok (.ifCond .eq 6, 3) := by decide +kernel
theorem dX5_foldedCount_29 : decode cX5_foldedCount 29 = .ok (.iinc 1 1, 3) := by decide +kernel
theorem dX5_foldedCount_32 : decode cX5_foldedCount 32 = .ok (.iinc 2 1, 3) := by decide +kernel
theorem dX5_foldedCount_35 : decode cX5_foldedCount 35 = .ok (.goto (-31), 3) := by decide +kernel
theorem dX5_foldedCount_38 : decode cX5_foldedCount 38 = .ok (.iload_n 1, 1) := by decide +kernel
theorem dX5_foldedCount_39 : decode cX5_foldedCount 39 = .ok (.ireturn, 1) := by decide +kernel
theorem dX5_occupied_0 : decode cX5_occupied 0 = .ok (.iconst 0, 1) := by decide +kernel
theorem dX5_occupied_1 : decode cX5_occupied 1 = .ok (.istore_n 1, 1) := by decide +kernel
theorem dX5_occupied_2 : decode cX5_occupied 2 = .ok (.iconst 0, 1) := by decide +kernel
theorem dX5_occupied_3 : decode cX5_occupied 3 = .ok (.istore_n 2, 1) := by decide +kernel
theorem dX5_occupied_4 : decode cX5_occupied 4 = .ok (.iload_n 2, 1) := by decide +kernel
theorem dX5_occupied_5 : decode cX5_occupied 5 = .ok (.aload_n 0, 1) := by decide +kernel
theorem dX5_occupied_6 : decode cX5_occupied 6 = .ok (.getfield 22, 3) := by decide +kernel
theorem dX5_occupied_9 : decode cX5_occupied 9 = .ok (.if_icmp .ge 33, 3) := by decide +kernel
theorem dX5_occupied_12 : decode cX5_occupied 12 = .ok (.aload_n 0, 1) := by decide +kernel
theorem dX5_occupied_13 : decode cX5_occupied 13 = .ok (.iload_n 2, 1) := by decide +kernel
theorem dX5_occupied_14 : decode cX5_occupied 14 = .ok (.invokevirtual 28, 3) := by decide +kernel
theorem dX5_occupied_17 : decode cX5_occupied 17 = .ok (.astore_n 3, 1) := by decide +kernel
theorem dX5_occupied_18 : decode cX5_occupied 18 = .ok (.aload_n 3, 1) := by decide +kernel
theorem dX5_occupied_19 : decode cX5_occupied 19 = .ok (.ifnull 17, 3) := by decide +kernel
theorem dX5_occupied_22 : decode cX5_occupied 22 = .ok (.aload_n 3, 1) := by decide +kernel
theorem dX5_occupied_23 : decode cX5_occupied 23 = .ok (.getfield 36, 3) := by decide +kernel
theorem dX5_occupied_26 : decode cX5_occupied 26 = .ok (.ifCond .eq 10, 3) := by decide +kernel
theorem dX5_occupied_29 : decode cX5_occupied 29 = .ok (.iload_n 1, 1) := by decide +kernel
theorem dX5_occupied_30 : decode cX5_occupied 30 = .ok (.aload_n 3, 1) := by decide +kernel
theorem dX5_occupied_31 : decode cX5_occupied 31 = .ok (.invokevirtual 40, 3) := by decide +kernel
theorem dX5_occupied_34 : decode cX5_occupied 34 = .ok (.iadd, 1) := by decide +kernel
theorem dX5_occupied_35 : decode cX5_occupied 35 = .ok (.istore_n 1, 1) := by decide +kernel
theorem dX5_occupied_36 : decode cX5_occupied 36 = .ok (.iinc 2 1, 3) := by decide +kernel
theorem dX5_occupied_39 : decode cX5_occupied 39 = .ok (.goto (-35), 3) := by decide +kernel
theorem dX5_occupied_42 : decode cX5_occupied 42 = .ok (.iload_n 1, 1) := by decide +kernel
theorem dX5_occupied_43 : decode cX5_occupied 43 = .ok (.ireturn, 1) := by decide +kernel
theorem dX5_panelCount_0 : decode cX5_panelCount 0 = .ok (.iconst 0, 1) := by decide +kernel
theorem dX5_panelCount_1 : decode cX5_panelCount 1 = .ok (.istore_n 1, 1) := by decide +kernel
theorem dX5_panelCount_2 : decode cX5_panelCount 2 = .ok (.iconst 0, 1) := by decide +kernel
theorem dX5_panelCount_3 : decode cX5_panelCount 3 = .ok (.istore_n 2, 1) := by decide +kernel
theorem dX5_panelCount_4 : decode cX5_panelCount 4 = .ok (.iload_n 2, 1) := by decide +kernel
theorem dX5_panelCount_5 : decode cX5_panelCount 5 = .ok (.aload_n 0, 1) := by decide +kernel
theorem dX5_panelCount_6 : decode cX5_panelCount 6 = .ok (.getfield 22, 3) := by decide +kernel
theorem dX5_panelCount_9 : decode cX5_panelCount 9 = .ok (.if_icmp .ge 33, 3) := by decide +kernel
theorem dX5_panelCount_12 : decode cX5_panelCount 12 = .ok (.aload_n 0, 1) := by decide +kernel
theorem dX5_panelCount_13 : decode cX5_panelCount 13 = .ok (.iload_n 2, 1) := by decide +kernel
theorem dX5_panelCount_14 : decode cX5_panelCount 14 = .ok (.invokevirtual 28, 3) := by decide +kernel
theorem dX5_panelCount_17 : decode cX5_panelCount 17 = .ok (.astore_n 3, 1) := by decide +kernel
theorem dX5_panelCount_18 : decode cX5_panelCount 18 = .ok (.aload_n 3, 1) := by decide +kernel
theorem dX5_panelCount_19 : decode cX5_panelCount 19 = .ok (.ifnull 17, 3) := by decide +kernel
theorem dX5_panelCount_22 : decode cX5_panelCount 22 = .ok (.aload_n 3, 1) := by decide +kernel
theorem dX5_panelCount_23 : decode cX5_panelCount 23 = .ok (.getfield 43, 3) := by decide +kernel
theorem dX5_panelCount_26 : decode cX5_panelCount 26 = .ok (.ifCond .ne 10, 3) := by decide +kernel
theorem dX5_panelCount_29 : decode cX5_panelCount 29 = .ok (.iload_n 1, 1) := by decide +kernel
theorem dX5_panelCount_30 : decode cX5_panelCount 30 = .ok (.aload_n 3, 1) := by decide +kernel
theorem dX5_panelCount_31 : decode cX5_panelCount 31 = .ok (.getfield 46, 3) := by decide +kernel
theorem dX5_panelCount_34 : decode cX5_panelCount 34 = .ok (.iadd, 1) := by decide +kernel
theorem dX5_panelCount_35 : decode cX5_panelCount 35 = .ok (.istore_n 1, 1) := by decide +kernel
theorem dX5_panelCount_36 : decode cX5_panelCount 36 = .ok (.iinc 2 1, 3) := by decide +kernel
theorem dX5_panelCount_39 : decode cX5_panelCount 39 = .ok (.goto (-35), 3) := by decide +kernel
theorem dX5_panelCount_42 : decode cX5_panelCount 42 = .ok (.iload_n 1, 1) := by decide +kernel
theorem dX5_panelCount_43 : decode cX5_panelCount 43 = .ok (.ireturn, 1) := by decide +kernel
theorem dX5_pieceAt_0 : decode cX5_pieceAt 0 = .ok (.iload_n 1, 1) := by decide +kernel
theorem dX5_pieceAt_1 : decode cX5_pieceAt 1 = .ok (.ifCond .lt 29, 3) := by decide +kernel
theorem dX5_pieceAt_4 : decode cX5_pieceAt 4 = .ok (.iload_n 1, 1) := by decide +kernel
theorem dX5_pieceAt_5 : decode cX5_pieceAt 5 = .ok (.aload_n 0, 1) := by decide +kernel
theorem dX5_pieceAt_6 : decode cX5_pieceAt 6 = .ok (.getfield 22, 3) := by decide +kernel
theorem dX5_pieceAt_9 : decode cX5_pieceAt 9 = .ok (.if_icmp .ge 21, 3) := by decide +kernel
theorem dX5_pieceAt_12 : decode cX5_pieceAt 12 = .ok (.iload_n 1, 1) := by decide +kernel
theorem dX5_pieceAt_13 : decode cX5_pieceAt 13 = .ok (.aload_n 0, 1) := by decide +kernel
theorem dX5_pieceAt_14 : decode cX5_pieceAt 14 = .ok (.getfield 11, 3) := by decide +kernel
theorem dX5_pieceAt_17 : decode cX5_pieceAt 17 = .ok (.arraylength, 1) := by decide +kernel
theorem dX5_pieceAt_18 : decode cX5_pieceAt 18 = .ok (.if_icmp .ge 12, 3) := by decide +kernel
theorem dX5_pieceAt_21 : decode cX5_pieceAt 21 = .ok (.aload_n 0, 1) := by decide +kernel
theorem dX5_pieceAt_22 : decode cX5_pieceAt 22 = .ok (.getfield 11, 3) := by decide +kernel
theorem dX5_pieceAt_25 : decode cX5_pieceAt 25 = .ok (.iload_n 1, 1) := by decide +kernel
theorem dX5_pieceAt_26 : decode cX5_pieceAt 26 = .ok (.aaload, 1) := by decide +kernel
theorem dX5_pieceAt_27 : decode cX5_pieceAt 27 = .ok (.goto 4, 3) := by decide +kernel
theorem dX5_pieceAt_30 : decode cX5_pieceAt 30 = .ok (.aconst_null, 1) := by decide +kernel
theorem dX5_pieceAt_31 : decode cX5_pieceAt 31 = .ok (.areturn, 1) := by decide +kernel
def q_8 : mQ := (yX5_occupied, cX5_occupied, 4, (some FieldType.int), 0, 5, 0, 0)
theorem qm_8 : mtL[8]? = some q_8 := rfl
def q_9 : mQ := (yX5_pieceAt, cX5_pieceAt, 2, (some (FieldType.object "FoldedTheatre$Piece")), 1, 5, 0, 0)
theorem qm_9 : mtL[9]? = some q_9 := rfl
def q_10 : mQ := (yX2_width, cX2_width, 4, (some FieldType.int), 0, 2, 0, 0)
theorem qm_10 : mtL[10]? = some q_10 := rfl
def q_13 : mQ := (yX2_placeOf, cX2_placeOf, 4, (some FieldType.int), 1, 2, 0, 0)
theorem qm_13 : mtL[13]? = some q_13 := rfl
def q_15 : mQ := (yX0_push, cX0_push, 3, none, 1, 0, 0, 0)
theorem qm_15 : mtL[15]? = some q_15 := rfl
def q_16 : mQ := (yX0_stateAt, cX0_stateAt, 2, (some (FieldType.object "FoldedTheatre$State")), 1, 0, 0, 0)
theorem qm_16 : mtL[16]? = some q_16 := rfl
def q_17 : mQ := (yX5_copyFrom, cX5_copyFrom, 5, none, 1, 5, 0, 0)
theorem qm_17 : mtL[17]? = some q_17 := rfl
def q_18 : mQ := (yX2_copyFrom, cX2_copyFrom, 2, none, 1, 2, 0, 0)
theorem qm_18 : mtL[18]? = some q_18 := rfl
def q_27 : mQ := (yX5_addCopyOf, cX5_addCopyOf, 3, none, 1, 5, 0, 0)
theorem qm_27 : mtL[27]? = some q_27 := rfl
def q_34 : mQ := (yX2_becomeRotated, cX2_becomeRotated, 5, none, 2, 2, 0, 0)
theorem qm_34 : mtL[34]? = some q_34 := rfl
def q_86 : mQ := (yX2_thickness, cX2_thickness, 3, (some FieldType.int), 0, 2, 0, 0)
theorem qm_86 : mtL[86]? = some q_86 := rfl
def q_87 : mQ := (yX2_leftEndOf, cX2_leftEndOf, 2, (some FieldType.int), 1, 2, 0, 0)
theorem qm_87 : mtL[87]? = some q_87 := rfl
def q_88 : mQ := (yX2_panelsBehind, cX2_panelsBehind, 4, (some FieldType.int), 1, 2, 0, 0)
theorem qm_88 : mtL[88]? = some q_88 := rfl
def q_89 : mQ := (yX2_rightEndOf, cX2_rightEndOf, 2, (some FieldType.int), 1, 2, 0, 0)
theorem qm_89 : mtL[89]? = some q_89 := rfl
def q_111 : mQ := (yX5_countOfKind, cX5_countOfKind, 5, (some FieldType.int), 1, 5, 0, 0)
theorem qm_111 : mtL[111]? = some q_111 := rfl
def q_112 : mQ := (yX5_foldedCount, cX5_foldedCount, 4, (some FieldType.int), 0, 5, 0, 0)
theorem qm_112 : mtL[112]? = some q_112 := rfl
def q_113 : mQ := (yX5_panelCount, cX5_panelCount, 4, (some FieldType.int), 0, 5, 0, 0)
theorem qm_113 : mtL[113]? = some q_113 := rfl
def q_114 : mQ := (yX5_creasesOf, cX5_creasesOf, 5, (some FieldType.int), 1, 5, 0, 0)
theorem qm_114 : mtL[114]? = some q_114 := rfl
def q_118 : mQ := (yX0_pop, cX0_pop, 3, none, 1, 0, 0, 0)
theorem qm_118 : mtL[118]? = some q_118 := rfl
def q_121 : mQ := (yX0_clear, cX0_clear, 1, none, 0, 0, 0, 0)
theorem qm_121 : mtL[121]? = some q_121 := rfl
set_option maxHeartbeats 4000000 in
theorem c_placeOf_loop {Po : mP} {a : Nat} {t : Int32} (ha : rl a = 3) : ∀ (n : Nat) (v3 : Int32) (v2 : Int32) (P : mP), Typ P → KX Po P → (2147483647 - v3.toInt).toNat = n → MEvP 1 none q_13 4 [(3, .int v3), (2, .int v2), (0, .ref a), (1, .int t)] [] P 0 0 (fun r P' => (∃ x : Int32, r = some (.int x) ∧ (-2147483648 : Int) ≤ x.toInt ∧ x.toInt ≤ 2147483647) ∧ Typ P' ∧ KX Po P') := by
  intro n
  induction n using Nat.strongRecOn with | _ n ih => ?_
  intro v3 v2 P hT hK hm
  have w_v3 := ti_full v3
  have w_v2 := ti_full v2
  refine mp_a (a_iload_n dX2_placeOf_4 rfl) (mpp 5 rfl ?_)
  refine mp_a (a_iload_n dX2_placeOf_5 rfl) (mpp 6 rfl ?_)
  refine mp_Tb (t := 52) (j_icmp_ge dX2_placeOf_6) (by decide) (fun c1 => ?_) (fun c1 => mpp 9 rfl ?_)
  · have c1 : v3.toInt ≥ t.toInt := ti_ge c1
    refine mp_a (a_iload_n dX2_placeOf_52 rfl) (mpp 53 rfl ?_)
    exact mp_iret (⟨⟨_, rfl, (ti_full _).1, (ti_full _).2⟩, hT, hK⟩) dX2_placeOf_53 (Or.inl rfl)
  · have c1 : v3.toInt < t.toInt := ti_ge_n c1
    refine mp_a (a_iload_n dX2_placeOf_9 rfl) (mpp 10 rfl ?_)
    refine mp_a (a_aload_n dX2_placeOf_10 rfl) (mpp 11 rfl ?_)
    refine mt_getI (i := 26) (k := 1) hT dX2_placeOf_11 rfl ha (by decide) rfl (by decide) rfl (fun g2 g3 => mpp 14 rfl ?_)
    refine mp_Tb (t := 52) (j_icmp_ge dX2_placeOf_14) (by decide) (fun c4 => ?_) (fun c4 => mpp 17 rfl ?_)
    · have c4 : v3.toInt ≥ (fv P a 1).toInt := ti_ge c4
      refine mp_a (a_iload_n dX2_placeOf_52 rfl) (mpp 53 rfl ?_)
      exact mp_iret (⟨⟨_, rfl, (ti_full _).1, (ti_full _).2⟩, hT, hK⟩) dX2_placeOf_53 (Or.inl rfl)
    · have c4 : v3.toInt < (fv P a 1).toInt := ti_ge_n c4
      refine mp_a (a_iload_n dX2_placeOf_17 rfl) (mpp 18 rfl ?_)
      refine mp_a (a_iload_n dX2_placeOf_18 rfl) (mpp 19 rfl ?_)
      refine mp_a (a_iconst (v := 2) dX2_placeOf_19 rfl) (mpp 20 rfl ?_)
      obtain ⟨z5, h6⟩ : ∃ z5 : Int32, (v3 - v3 / 2 * 2 : Int32) = z5 := ⟨_, rfl⟩
      have wz5 := ti_full z5
      try have e7 := ti_rem h6 (by omega) (by omega)
      refine mp_t (s_irem (v := z5) dX2_placeOf_20 (by decide) h6) (mpp 21 rfl ?_)
      refine mp_Tb (t := 35) (j_if_ne dX2_placeOf_21) (by decide) (fun c8 => ?_) (fun c8 => mpp 24 rfl ?_)
      · have c8 : z5.toInt ≠ 0 := ti_ne c8
        refine mp_a (a_aload_n dX2_placeOf_35 rfl) (mpp 36 rfl ?_)
        refine mt_getR (i := 9) (k := 3) hT dX2_placeOf_36 rfl ha (by decide) rfl (by decide) rfl (fun q9 => mpp 39 rfl ?_)
        refine mp_a (a_iload_n dX2_placeOf_39 rfl) (mpp 40 rfl ?_)
        refine mp_calls (i := 48) (q' := q_12) (As := [.ref (rv P a 3), .int v3]) (rest := [.int v2]) dX2_placeOf_40 rfl qm_12 (by decide) rfl (Nat.le_of_ble_eq_true rfl) rfl ⟨rfl, rfl⟩ ⟨Nat.le_of_ble_eq_true rfl, Nat.le_of_ble_eq_true rfl⟩ (EvP.mono (by decide) (c_at_sizes hT q9)) (fun r10 P11 g12 => mpp 43 rfl ?_)
        obtain ⟨⟨x13, rfl, g14, g15⟩, e16⟩ := g12
        have e16 := e16.symm
        subst e16
        show MEvP _ none q_13 43 [(3, .int v3), (2, .int v2), (0, .ref a), (1, .int t)] [.int x13, .int v2] _ _ _ _
        obtain ⟨z18, h19⟩ : ∃ z18 : Int32, -x13 = z18 := ⟨_, rfl⟩
        have wz18 := ti_full z18
        refine mp_t (s_ineg (v := z18) dX2_placeOf_43 h19) (mpp 44 rfl ?_)
        refine mp_t (s_iadd (v := (v2 + z18)) dX2_placeOf_44 rfl) (mpp 45 rfl ?_)
        try have e20 : (v2 + z18).toInt = v2.toInt + z18.toInt := ti_add rfl rfl (by omega) (by omega)
        refine mp_a (a_istore_n (L' := [(2, .int (v2 + z18)), (3, .int v3), (0, .ref a), (1, .int t)]) dX2_placeOf_45 (by decide) rfl) (mpp 46 rfl ?_)
        refine mp_a (a_iinc (v := (v3 + 1)) (L' := [(3, .int (v3 + 1)), (2, .int (v2 + z18)), (0, .ref a), (1, .int t)]) dX2_placeOf_46 (by decide) rfl rfl rfl) (mpp 49 rfl ?_)
        try have e21 : (v3 + 1).toInt = v3.toInt + (1) := ti_add rfl rfl (by omega) (by omega)
        refine mp_a (a_goto (t := 4) dX2_placeOf_49 (by decide)) ?_
        exact ih _ (by omega) _ _ _ hT hK rfl
      · have c8 : z5.toInt = 0 := ti_ne_n c8
        refine mp_a (a_aload_n dX2_placeOf_24 rfl) (mpp 25 rfl ?_)
        refine mt_getR (i := 9) (k := 3) hT dX2_placeOf_25 rfl ha (by decide) rfl (by decide) rfl (fun q22 => mpp 28 rfl ?_)
        refine mp_a (a_iload_n dX2_placeOf_28 rfl) (mpp 29 rfl ?_)
        refine mp_calls (i := 48) (q' := q_12) (As := [.ref (rv P a 3), .int v3]) (rest := [.int v2]) dX2_placeOf_29 rfl qm_12 (by decide) rfl (Nat.le_of_ble_eq_true rfl) rfl ⟨rfl, rfl⟩ ⟨Nat.le_of_ble_eq_true rfl, Nat.le_of_ble_eq_true rfl⟩ (EvP.mono (by decide) (c_at_sizes hT q22)) (fun r23 P24 g25 => mpp 32 rfl ?_)
        obtain ⟨⟨x26, rfl, g27, g28⟩, e29⟩ := g25
        have e29 := e29.symm
        subst e29
        show MEvP _ none q_13 32 [(3, .int v3), (2, .int v2), (0, .ref a), (1, .int t)] [.int x26, .int v2] _ _ _ _
        refine mp_a (a_goto (t := 44) dX2_placeOf_32 (by decide)) ?_
        refine mp_t (s_iadd (v := (v2 + x26)) dX2_placeOf_44 rfl) (mpp 45 rfl ?_)
        try have e31 : (v2 + x26).toInt = v2.toInt + x26.toInt := ti_add rfl rfl (by omega) (by omega)
        refine mp_a (a_istore_n (L' := [(2, .int (v2 + x26)), (3, .int v3), (0, .ref a), (1, .int t)]) dX2_placeOf_45 (by decide) rfl) (mpp 46 rfl ?_)
        refine mp_a (a_iinc (v := (v3 + 1)) (L' := [(3, .int (v3 + 1)), (2, .int (v2 + x26)), (0, .ref a), (1, .int t)]) dX2_placeOf_46 (by decide) rfl rfl rfl) (mpp 49 rfl ?_)
        try have e32 : (v3 + 1).toInt = v3.toInt + (1) := ti_add rfl rfl (by omega) (by omega)
        refine mp_a (a_goto (t := 4) dX2_placeOf_49 (by decide)) ?_
        exact ih _ (by omega) _ _ _ hT hK rfl

set_option maxHeartbeats 4000000 in
theorem c_placeOf {P : mP} {a : Nat} {t : Int32} (hT : Typ P) (ha : rl a = 3) : EvP 2 13 [.ref a, .int t] P (fun r P' => (∃ x : Int32, r = some (.int x) ∧ (-2147483648 : Int) ≤ x.toInt ∧ x.toInt ≤ 2147483647) ∧ Typ P' ∧ KX P P') := by
  refine EvP.of qm_13 (Nat.le_of_ble_eq_true rfl) rfl ?_
  show MEvP _ none q_13 0 [(0, .ref a), (1, .int t)] [] _ 0 0 _
  refine mp_a (a_iconst (v := 0) dX2_placeOf_0 rfl) (mpp 1 rfl ?_)
  refine mp_a (a_istore_n (L' := [(2, .int 0), (0, .ref a), (1, .int t)]) dX2_placeOf_1 (by decide) rfl) (mpp 2 rfl ?_)
  refine mp_a (a_iconst (v := 0) dX2_placeOf_2 rfl) (mpp 3 rfl ?_)
  refine mp_a (a_istore_n (L' := [(3, .int 0), (2, .int 0), (0, .ref a), (1, .int t)]) dX2_placeOf_3 (by decide) rfl) (mpp 4 rfl ?_)
  refine mp_a (a_iload_n dX2_placeOf_4 rfl) (mpp 5 rfl ?_)
  refine mp_a (a_iload_n dX2_placeOf_5 rfl) (mpp 6 rfl ?_)
  refine mp_Tb (t := 52) (j_icmp_ge dX2_placeOf_6) (by decide) (fun c1 => ?_) (fun c1 => mpp 9 rfl ?_)
  · have c1 : 0 ≥ t.toInt := ti_ge c1
    refine mp_a (a_iload_n dX2_placeOf_52 rfl) (mpp 53 rfl ?_)
    exact mp_iret (⟨⟨_, rfl, (ti_full _).1, (ti_full _).2⟩, hT, (KX.refl P)⟩) dX2_placeOf_53 (Or.inl rfl)
  · have c1 : 0 < t.toInt := ti_ge_n c1
    refine mp_a (a_iload_n dX2_placeOf_9 rfl) (mpp 10 rfl ?_)
    refine mp_a (a_aload_n dX2_placeOf_10 rfl) (mpp 11 rfl ?_)
    refine mt_getI (i := 26) (k := 1) hT dX2_placeOf_11 rfl ha (by decide) rfl (by decide) rfl (fun g2 g3 => mpp 14 rfl ?_)
    refine mp_Tb (t := 52) (j_icmp_ge dX2_placeOf_14) (by decide) (fun c4 => ?_) (fun c4 => mpp 17 rfl ?_)
    · have c4 : 0 ≥ (fv P a 1).toInt := ti_ge c4
      refine mp_a (a_iload_n dX2_placeOf_52 rfl) (mpp 53 rfl ?_)
      exact mp_iret (⟨⟨_, rfl, (ti_full _).1, (ti_full _).2⟩, hT, (KX.refl P)⟩) dX2_placeOf_53 (Or.inl rfl)
    · have c4 : 0 < (fv P a 1).toInt := ti_ge_n c4
      refine mp_a (a_iload_n dX2_placeOf_17 rfl) (mpp 18 rfl ?_)
      refine mp_a (a_iload_n dX2_placeOf_18 rfl) (mpp 19 rfl ?_)
      refine mp_a (a_iconst (v := 2) dX2_placeOf_19 rfl) (mpp 20 rfl ?_)
      obtain ⟨z5, h6⟩ : ∃ z5 : Int32, (0 - 0 / 2 * 2 : Int32) = z5 := ⟨_, rfl⟩
      have wz5 := ti_full z5
      try have e7 := ti_rem h6 (by omega) (by omega)
      refine mp_t (s_irem (v := z5) dX2_placeOf_20 (by decide) h6) (mpp 21 rfl ?_)
      refine mp_Tb (t := 35) (j_if_ne dX2_placeOf_21) (by decide) (fun c8 => ?_) (fun c8 => mpp 24 rfl ?_)
      · have c8 : z5.toInt ≠ 0 := ti_ne c8
        refine mp_a (a_aload_n dX2_placeOf_35 rfl) (mpp 36 rfl ?_)
        refine mt_getR (i := 9) (k := 3) hT dX2_placeOf_36 rfl ha (by decide) rfl (by decide) rfl (fun q9 => mpp 39 rfl ?_)
        refine mp_a (a_iload_n dX2_placeOf_39 rfl) (mpp 40 rfl ?_)
        refine mp_calls (i := 48) (q' := q_12) (As := [.ref (rv P a 3), .int 0]) (rest := [.int 0]) dX2_placeOf_40 rfl qm_12 (by decide) rfl (Nat.le_of_ble_eq_true rfl) rfl ⟨rfl, rfl⟩ ⟨Nat.le_of_ble_eq_true rfl, Nat.le_of_ble_eq_true rfl⟩ (EvP.mono (by decide) (c_at_sizes hT q9)) (fun r10 P11 g12 => mpp 43 rfl ?_)
        obtain ⟨⟨x13, rfl, g14, g15⟩, e16⟩ := g12
        have e16 := e16.symm
        subst e16
        show MEvP _ none q_13 43 [(3, .int 0), (2, .int 0), (0, .ref a), (1, .int t)] [.int x13, .int 0] _ _ _ _
        obtain ⟨z18, h19⟩ : ∃ z18 : Int32, -x13 = z18 := ⟨_, rfl⟩
        have wz18 := ti_full z18
        refine mp_t (s_ineg (v := z18) dX2_placeOf_43 h19) (mpp 44 rfl ?_)
        refine mp_t (s_iadd (v := (0 + z18)) dX2_placeOf_44 rfl) (mpp 45 rfl ?_)
        try have e20 : (0 + z18).toInt = 0 + z18.toInt := ti_add rfl rfl (by omega) (by omega)
        refine mp_a (a_istore_n (L' := [(2, .int (0 + z18)), (3, .int 0), (0, .ref a), (1, .int t)]) dX2_placeOf_45 (by decide) rfl) (mpp 46 rfl ?_)
        refine mp_a (a_iinc (v := 1) (L' := [(3, .int 1), (2, .int (0 + z18)), (0, .ref a), (1, .int t)]) dX2_placeOf_46 (by decide) rfl rfl rfl) (mpp 49 rfl ?_)
        refine mp_a (a_goto (t := 4) dX2_placeOf_49 (by decide)) ?_
        exact c_placeOf_loop ha _ _ _ _ hT (KX.refl P) rfl
      · have c8 : z5.toInt = 0 := ti_ne_n c8
        refine mp_a (a_aload_n dX2_placeOf_24 rfl) (mpp 25 rfl ?_)
        refine mt_getR (i := 9) (k := 3) hT dX2_placeOf_25 rfl ha (by decide) rfl (by decide) rfl (fun q21 => mpp 28 rfl ?_)
        refine mp_a (a_iload_n dX2_placeOf_28 rfl) (mpp 29 rfl ?_)
        refine mp_calls (i := 48) (q' := q_12) (As := [.ref (rv P a 3), .int 0]) (rest := [.int 0]) dX2_placeOf_29 rfl qm_12 (by decide) rfl (Nat.le_of_ble_eq_true rfl) rfl ⟨rfl, rfl⟩ ⟨Nat.le_of_ble_eq_true rfl, Nat.le_of_ble_eq_true rfl⟩ (EvP.mono (by decide) (c_at_sizes hT q21)) (fun r22 P23 g24 => mpp 32 rfl ?_)
        obtain ⟨⟨x25, rfl, g26, g27⟩, e28⟩ := g24
        have e28 := e28.symm
        subst e28
        show MEvP _ none q_13 32 [(3, .int 0), (2, .int 0), (0, .ref a), (1, .int t)] [.int x25, .int 0] _ _ _ _
        refine mp_a (a_goto (t := 44) dX2_placeOf_32 (by decide)) ?_
        refine mp_t (s_iadd (v := (0 + x25)) dX2_placeOf_44 rfl) (mpp 45 rfl ?_)
        try have e30 : (0 + x25).toInt = 0 + x25.toInt := ti_add rfl rfl (by omega) (by omega)
        refine mp_a (a_istore_n (L' := [(2, .int (0 + x25)), (3, .int 0), (0, .ref a), (1, .int t)]) dX2_placeOf_45 (by decide) rfl) (mpp 46 rfl ?_)
        refine mp_a (a_iinc (v := 1) (L' := [(3, .int 1), (2, .int (0 + x25)), (0, .ref a), (1, .int t)]) dX2_placeOf_46 (by decide) rfl rfl rfl) (mpp 49 rfl ?_)
        refine mp_a (a_goto (t := 4) dX2_placeOf_49 (by decide)) ?_
        exact c_placeOf_loop ha _ _ _ _ hT (KX.refl P) rfl

set_option maxHeartbeats 4000000 in
theorem c_leftEndOf {P : mP} {a : Nat} {t : Int32} (hT : Typ P) (ha : rl a = 3) : EvP 3 87 [.ref a, .int t] P (fun r P' => (∃ x : Int32, r = some (.int x) ∧ (-2147483648 : Int) ≤ x.toInt ∧ x.toInt ≤ 2147483647) ∧ Typ P' ∧ KX P P') := by
  refine EvP.of qm_87 (Nat.le_of_ble_eq_true rfl) rfl ?_
  show MEvP _ none q_87 0 [(0, .ref a), (1, .int t)] [] _ 0 0 _
  refine mp_a (a_aload_n dX2_leftEndOf_0 rfl) (mpp 1 rfl ?_)
  refine mp_a (a_iload_n dX2_leftEndOf_1 rfl) (mpp 2 rfl ?_)
  refine mt_callv (i := 56) (q' := q_13) (As := [.int t]) (rest := []) hT dX2_leftEndOf_2 rfl qm_13 (by decide) rfl ha (by decide) rfl (Nat.le_of_ble_eq_true rfl) rfl ⟨rfl, rfl⟩ ⟨Nat.le_of_ble_eq_true rfl, Nat.le_of_ble_eq_true rfl⟩ (EvP.mono (by decide) (c_placeOf hT ha)) (fun r1 P2 g3 => mpp 5 rfl ?_)
  obtain ⟨⟨x4, rfl, g5, g6⟩, e7, k8⟩ := g3
  have k9 := KX.trans (KX.refl P) k8
  show MEvP _ none q_87 5 [(0, .ref a), (1, .int t)] [.int x4] _ _ _ _
  refine mp_a (a_aload_n dX2_leftEndOf_5 rfl) (mpp 6 rfl ?_)
  refine mp_a (a_iload_n dX2_leftEndOf_6 rfl) (mpp 7 rfl ?_)
  refine mp_a (a_iconst (v := 1) dX2_leftEndOf_7 rfl) (mpp 8 rfl ?_)
  refine mp_t (s_iadd (v := (t + 1)) dX2_leftEndOf_8 rfl) (mpp 9 rfl ?_)
  try have e10 : (t + 1).toInt = t.toInt + 1 := ti_add rfl rfl (by omega) (by omega)
  refine mt_callv (i := 56) (q' := q_13) (As := [.int (t + 1)]) (rest := [.int x4]) e7 dX2_leftEndOf_9 rfl qm_13 (by decide) rfl ha (by decide) rfl (Nat.le_of_ble_eq_true rfl) rfl ⟨rfl, rfl⟩ ⟨Nat.le_of_ble_eq_true rfl, Nat.le_of_ble_eq_true rfl⟩ (EvP.mono (by decide) (c_placeOf e7 ha)) (fun r11 P12 g13 => mpp 12 rfl ?_)
  obtain ⟨⟨x14, rfl, g15, g16⟩, e17, k18⟩ := g13
  have k19 := KX.trans k9 k18
  show MEvP _ none q_87 12 [(0, .ref a), (1, .int t)] [.int x14, .int x4] _ _ _ _
  obtain ⟨z20, h21⟩ : ∃ z20 : Int32, (if (8 : Nat) = 7 then (if x4 < x14 then x14 else x4) else (if x14 < x4 then x14 else x4)) = z20 := ⟨_, rfl⟩
  have e22 := ti_mm8 h21
  refine mp_math (i := 59) (k := 0) (v := z20) dX2_leftEndOf_12 rfl (by decide) (Nat.le_of_ble_eq_true rfl) h21 ⟨Nat.le_of_ble_eq_true rfl, Nat.le_of_ble_eq_true rfl⟩ (mpp 15 rfl ?_)
  exact mp_iret (⟨⟨_, rfl, (ti_full _).1, (ti_full _).2⟩, e17, k19⟩) dX2_leftEndOf_15 (Or.inl rfl)

set_option maxHeartbeats 4000000 in
theorem c_rightEndOf {P : mP} {a : Nat} {t : Int32} (hT : Typ P) (ha : rl a = 3) : EvP 3 89 [.ref a, .int t] P (fun r P' => (∃ x : Int32, r = some (.int x) ∧ (-2147483648 : Int) ≤ x.toInt ∧ x.toInt ≤ 2147483647) ∧ Typ P' ∧ KX P P') := by
  refine EvP.of qm_89 (Nat.le_of_ble_eq_true rfl) rfl ?_
  show MEvP _ none q_89 0 [(0, .ref a), (1, .int t)] [] _ 0 0 _
  refine mp_a (a_aload_n dX2_rightEndOf_0 rfl) (mpp 1 rfl ?_)
  refine mp_a (a_iload_n dX2_rightEndOf_1 rfl) (mpp 2 rfl ?_)
  refine mt_callv (i := 56) (q' := q_13) (As := [.int t]) (rest := []) hT dX2_rightEndOf_2 rfl qm_13 (by decide) rfl ha (by decide) rfl (Nat.le_of_ble_eq_true rfl) rfl ⟨rfl, rfl⟩ ⟨Nat.le_of_ble_eq_true rfl, Nat.le_of_ble_eq_true rfl⟩ (EvP.mono (by decide) (c_placeOf hT ha)) (fun r1 P2 g3 => mpp 5 rfl ?_)
  obtain ⟨⟨x4, rfl, g5, g6⟩, e7, k8⟩ := g3
  have k9 := KX.trans (KX.refl P) k8
  show MEvP _ none q_89 5 [(0, .ref a), (1, .int t)] [.int x4] _ _ _ _
  refine mp_a (a_aload_n dX2_rightEndOf_5 rfl) (mpp 6 rfl ?_)
  refine mp_a (a_iload_n dX2_rightEndOf_6 rfl) (mpp 7 rfl ?_)
  refine mp_a (a_iconst (v := 1) dX2_rightEndOf_7 rfl) (mpp 8 rfl ?_)
  refine mp_t (s_iadd (v := (t + 1)) dX2_rightEndOf_8 rfl) (mpp 9 rfl ?_)
  try have e10 : (t + 1).toInt = t.toInt + 1 := ti_add rfl rfl (by omega) (by omega)
  refine mt_callv (i := 56) (q' := q_13) (As := [.int (t + 1)]) (rest := [.int x4]) e7 dX2_rightEndOf_9 rfl qm_13 (by decide) rfl ha (by decide) rfl (Nat.le_of_ble_eq_true rfl) rfl ⟨rfl, rfl⟩ ⟨Nat.le_of_ble_eq_true rfl, Nat.le_of_ble_eq_true rfl⟩ (EvP.mono (by decide) (c_placeOf e7 ha)) (fun r11 P12 g13 => mpp 12 rfl ?_)
  obtain ⟨⟨x14, rfl, g15, g16⟩, e17, k18⟩ := g13
  have k19 := KX.trans k9 k18
  show MEvP _ none q_89 12 [(0, .ref a), (1, .int t)] [.int x14, .int x4] _ _ _ _
  obtain ⟨z20, h21⟩ : ∃ z20 : Int32, (if (7 : Nat) = 7 then (if x4 < x14 then x14 else x4) else (if x14 < x4 then x14 else x4)) = z20 := ⟨_, rfl⟩
  have e22 := ti_mm7 h21
  refine mp_math (i := 65) (k := 0) (v := z20) dX2_rightEndOf_12 rfl (by decide) (Nat.le_of_ble_eq_true rfl) h21 ⟨Nat.le_of_ble_eq_true rfl, Nat.le_of_ble_eq_true rfl⟩ (mpp 15 rfl ?_)
  exact mp_iret (⟨⟨_, rfl, (ti_full _).1, (ti_full _).2⟩, e17, k19⟩) dX2_rightEndOf_15 (Or.inl rfl)

set_option maxHeartbeats 4000000 in
theorem c_width_loop {Po : mP} {a : Nat} (ha : rl a = 3) : ∀ (n : Nat) (v3 : Int32) (v2 : Int32) (v1 : Int32) (P : mP), Typ P → KX Po P → (2147483647 - v3.toInt).toNat = n → MEvP 3 none q_10 19 [(3, .int v3), (2, .int v2), (1, .int v1), (0, .ref a)] [] P 0 0 (fun r P' => (∃ x : Int32, r = some (.int x) ∧ (-2147483648 : Int) ≤ x.toInt ∧ x.toInt ≤ 2147483647) ∧ Typ P' ∧ KX Po P') := by
  intro n
  induction n using Nat.strongRecOn with | _ n ih => ?_
  intro v3 v2 v1 P hT hK hm
  have w_v3 := ti_full v3
  have w_v2 := ti_full v2
  have w_v1 := ti_full v1
  refine mp_a (a_iload_n dX2_width_19 rfl) (mpp 20 rfl ?_)
  refine mp_a (a_aload_n dX2_width_20 rfl) (mpp 21 rfl ?_)
  refine mt_getI (i := 26) (k := 1) hT dX2_width_21 rfl ha (by decide) rfl (by decide) rfl (fun g1 g2 => mpp 24 rfl ?_)
  refine mp_Tb (t := 57) (j_icmp_ge dX2_width_24) (by decide) (fun c3 => ?_) (fun c3 => mpp 27 rfl ?_)
  · have c3 : v3.toInt ≥ (fv P a 1).toInt := ti_ge c3
    refine mp_a (a_iload_n dX2_width_57 rfl) (mpp 58 rfl ?_)
    refine mp_a (a_iload_n dX2_width_58 rfl) (mpp 59 rfl ?_)
    refine mp_t (s_isub (v := (v2 - v1)) dX2_width_59 rfl) (mpp 60 rfl ?_)
    try have e4 : (v2 - v1).toInt = v2.toInt - v1.toInt := ti_sub rfl rfl (by omega) (by omega)
    exact mp_iret (⟨⟨_, rfl, (ti_full _).1, (ti_full _).2⟩, hT, hK⟩) dX2_width_60 (Or.inl rfl)
  · have c3 : v3.toInt < (fv P a 1).toInt := ti_ge_n c3
    refine mp_a (a_iload_n dX2_width_27 rfl) (mpp 28 rfl ?_)
    refine mp_a (a_aload_n dX2_width_28 rfl) (mpp 29 rfl ?_)
    refine mp_a (a_iload_n dX2_width_29 rfl) (mpp 30 rfl ?_)
    refine mp_a (a_iconst (v := 1) dX2_width_30 rfl) (mpp 31 rfl ?_)
    refine mp_t (s_iadd (v := (v3 + 1)) dX2_width_31 rfl) (mpp 32 rfl ?_)
    try have e5 : (v3 + 1).toInt = v3.toInt + 1 := ti_add rfl rfl (by omega) (by omega)
    refine mt_callv (i := 56) (q' := q_13) (As := [.int (v3 + 1)]) (rest := [.int v1]) hT dX2_width_32 rfl qm_13 (by decide) rfl ha (by decide) rfl (Nat.le_of_ble_eq_true rfl) rfl ⟨rfl, rfl⟩ ⟨Nat.le_of_ble_eq_true rfl, Nat.le_of_ble_eq_true rfl⟩ (EvP.mono (by decide) (c_placeOf hT ha)) (fun r6 P7 g8 => mpp 35 rfl ?_)
    obtain ⟨⟨x9, rfl, g10, g11⟩, e12, k13⟩ := g8
    have k14 := KX.trans hK k13
    show MEvP _ none q_10 35 [(3, .int v3), (2, .int v2), (1, .int v1), (0, .ref a)] [.int x9, .int v1] _ _ _ _
    obtain ⟨z15, h16⟩ : ∃ z15 : Int32, (if (8 : Nat) = 7 then (if v1 < x9 then x9 else v1) else (if x9 < v1 then x9 else v1)) = z15 := ⟨_, rfl⟩
    have e17 := ti_mm8 h16
    refine mp_math (i := 59) (k := 0) (v := z15) dX2_width_35 rfl (by decide) (Nat.le_of_ble_eq_true rfl) h16 ⟨Nat.le_of_ble_eq_true rfl, Nat.le_of_ble_eq_true rfl⟩ (mpp 38 rfl ?_)
    refine mp_a (a_istore_n (L' := [(1, .int z15), (3, .int v3), (2, .int v2), (0, .ref a)]) dX2_width_38 (by decide) rfl) (mpp 39 rfl ?_)
    refine mp_a (a_iload_n dX2_width_39 rfl) (mpp 40 rfl ?_)
    refine mp_a (a_aload_n dX2_width_40 rfl) (mpp 41 rfl ?_)
    refine mp_a (a_iload_n dX2_width_41 rfl) (mpp 42 rfl ?_)
    refine mp_a (a_iconst (v := 1) dX2_width_42 rfl) (mpp 43 rfl ?_)
    refine mp_t (s_iadd (v := (v3 + 1)) dX2_width_43 rfl) (mpp 44 rfl ?_)
    try have e18 : (v3 + 1).toInt = v3.toInt + 1 := ti_add rfl rfl (by omega) (by omega)
    refine mt_callv (i := 56) (q' := q_13) (As := [.int (v3 + 1)]) (rest := [.int v2]) e12 dX2_width_44 rfl qm_13 (by decide) rfl ha (by decide) rfl (Nat.le_of_ble_eq_true rfl) rfl ⟨rfl, rfl⟩ ⟨Nat.le_of_ble_eq_true rfl, Nat.le_of_ble_eq_true rfl⟩ (EvP.mono (by decide) (c_placeOf e12 ha)) (fun r19 P20 g21 => mpp 47 rfl ?_)
    obtain ⟨⟨x22, rfl, g23, g24⟩, e25, k26⟩ := g21
    have k27 := KX.trans k14 k26
    show MEvP _ none q_10 47 [(1, .int z15), (3, .int v3), (2, .int v2), (0, .ref a)] [.int x22, .int v2] _ _ _ _
    obtain ⟨z28, h29⟩ : ∃ z28 : Int32, (if (7 : Nat) = 7 then (if v2 < x22 then x22 else v2) else (if x22 < v2 then x22 else v2)) = z28 := ⟨_, rfl⟩
    have e30 := ti_mm7 h29
    refine mp_math (i := 65) (k := 0) (v := z28) dX2_width_47 rfl (by decide) (Nat.le_of_ble_eq_true rfl) h29 ⟨Nat.le_of_ble_eq_true rfl, Nat.le_of_ble_eq_true rfl⟩ (mpp 50 rfl ?_)
    refine mp_a (a_istore_n (L' := [(2, .int z28), (1, .int z15), (3, .int v3), (0, .ref a)]) dX2_width_50 (by decide) rfl) (mpp 51 rfl ?_)
    refine mp_a (a_iinc (v := (v3 + 1)) (L' := [(3, .int (v3 + 1)), (2, .int z28), (1, .int z15), (0, .ref a)]) dX2_width_51 (by decide) rfl rfl rfl) (mpp 54 rfl ?_)
    try have e31 : (v3 + 1).toInt = v3.toInt + (1) := ti_add rfl rfl (by omega) (by omega)
    refine mp_a (a_goto (t := 19) dX2_width_54 (by decide)) ?_
    exact ih _ (by omega) _ _ _ _ e25 k27 rfl

set_option maxHeartbeats 4000000 in
theorem c_width {P : mP} {a : Nat} (hT : Typ P) (ha : rl a = 3) : EvP 4 10 [.ref a] P (fun r P' => (∃ x : Int32, r = some (.int x) ∧ (-2147483648 : Int) ≤ x.toInt ∧ x.toInt ≤ 2147483647) ∧ Typ P' ∧ KX P P') := by
  refine EvP.of qm_10 (Nat.le_of_ble_eq_true rfl) rfl ?_
  show MEvP _ none q_10 0 [(0, .ref a)] [] _ 0 0 _
  refine mp_a (a_aload_n dX2_width_0 rfl) (mpp 1 rfl ?_)
  refine mt_getI (i := 18) (k := 0) hT dX2_width_1 rfl ha (by decide) rfl (by decide) rfl (fun g1 g2 => mpp 4 rfl ?_)
  refine mp_a (a_iconst (v := 1) dX2_width_4 rfl) (mpp 5 rfl ?_)
  refine mp_Tb (t := 13) (j_icmp_ne dX2_width_5) (by decide) (fun c3 => ?_) (fun c3 => mpp 8 rfl ?_)
  · have c3 : (fv P a 0).toInt ≠ 1 := ti_ne c3
    refine mp_a (a_iconst (v := 0) dX2_width_13 rfl) (mpp 14 rfl ?_)
    refine mp_a (a_istore_n (L' := [(1, .int 0), (0, .ref a)]) dX2_width_14 (by decide) rfl) (mpp 15 rfl ?_)
    refine mp_a (a_iconst (v := 0) dX2_width_15 rfl) (mpp 16 rfl ?_)
    refine mp_a (a_istore_n (L' := [(2, .int 0), (1, .int 0), (0, .ref a)]) dX2_width_16 (by decide) rfl) (mpp 17 rfl ?_)
    refine mp_a (a_iconst (v := 0) dX2_width_17 rfl) (mpp 18 rfl ?_)
    refine mp_a (a_istore_n (L' := [(3, .int 0), (2, .int 0), (1, .int 0), (0, .ref a)]) dX2_width_18 (by decide) rfl) (mpp 19 rfl ?_)
    refine mp_a (a_iload_n dX2_width_19 rfl) (mpp 20 rfl ?_)
    refine mp_a (a_aload_n dX2_width_20 rfl) (mpp 21 rfl ?_)
    refine mt_getI (i := 26) (k := 1) hT dX2_width_21 rfl ha (by decide) rfl (by decide) rfl (fun g4 g5 => mpp 24 rfl ?_)
    refine mp_Tb (t := 57) (j_icmp_ge dX2_width_24) (by decide) (fun c6 => ?_) (fun c6 => mpp 27 rfl ?_)
    · have c6 : 0 ≥ (fv P a 1).toInt := ti_ge c6
      refine mp_a (a_iload_n dX2_width_57 rfl) (mpp 58 rfl ?_)
      refine mp_a (a_iload_n dX2_width_58 rfl) (mpp 59 rfl ?_)
      refine mp_t (s_isub (v := 0) dX2_width_59 rfl) (mpp 60 rfl ?_)
      exact mp_iret (⟨⟨_, rfl, (ti_full _).1, (ti_full _).2⟩, hT, (KX.refl P)⟩) dX2_width_60 (Or.inl rfl)
    · have c6 : 0 < (fv P a 1).toInt := ti_ge_n c6
      refine mp_a (a_iload_n dX2_width_27 rfl) (mpp 28 rfl ?_)
      refine mp_a (a_aload_n dX2_width_28 rfl) (mpp 29 rfl ?_)
      refine mp_a (a_iload_n dX2_width_29 rfl) (mpp 30 rfl ?_)
      refine mp_a (a_iconst (v := 1) dX2_width_30 rfl) (mpp 31 rfl ?_)
      refine mp_t (s_iadd (v := 1) dX2_width_31 rfl) (mpp 32 rfl ?_)
      refine mt_callv (i := 56) (q' := q_13) (As := [.int 1]) (rest := [.int 0]) hT dX2_width_32 rfl qm_13 (by decide) rfl ha (by decide) rfl (Nat.le_of_ble_eq_true rfl) rfl ⟨rfl, rfl⟩ ⟨Nat.le_of_ble_eq_true rfl, Nat.le_of_ble_eq_true rfl⟩ (EvP.mono (by decide) (c_placeOf hT ha)) (fun r7 P8 g9 => mpp 35 rfl ?_)
      obtain ⟨⟨x10, rfl, g11, g12⟩, e13, k14⟩ := g9
      have k15 := KX.trans (KX.refl P) k14
      show MEvP _ none q_10 35 [(3, .int 0), (2, .int 0), (1, .int 0), (0, .ref a)] [.int x10, .int 0] _ _ _ _
      obtain ⟨z16, h17⟩ : ∃ z16 : Int32, (if (8 : Nat) = 7 then (if 0 < x10 then x10 else 0) else (if x10 < 0 then x10 else 0)) = z16 := ⟨_, rfl⟩
      have e18 := ti_mm8 h17
      refine mp_math (i := 59) (k := 0) (v := z16) dX2_width_35 rfl (by decide) (Nat.le_of_ble_eq_true rfl) h17 ⟨Nat.le_of_ble_eq_true rfl, Nat.le_of_ble_eq_true rfl⟩ (mpp 38 rfl ?_)
      refine mp_a (a_istore_n (L' := [(1, .int z16), (3, .int 0), (2, .int 0), (0, .ref a)]) dX2_width_38 (by decide) rfl) (mpp 39 rfl ?_)
      refine mp_a (a_iload_n dX2_width_39 rfl) (mpp 40 rfl ?_)
      refine mp_a (a_aload_n dX2_width_40 rfl) (mpp 41 rfl ?_)
      refine mp_a (a_iload_n dX2_width_41 rfl) (mpp 42 rfl ?_)
      refine mp_a (a_iconst (v := 1) dX2_width_42 rfl) (mpp 43 rfl ?_)
      refine mp_t (s_iadd (v := 1) dX2_width_43 rfl) (mpp 44 rfl ?_)
      refine mt_callv (i := 56) (q' := q_13) (As := [.int 1]) (rest := [.int 0]) e13 dX2_width_44 rfl qm_13 (by decide) rfl ha (by decide) rfl (Nat.le_of_ble_eq_true rfl) rfl ⟨rfl, rfl⟩ ⟨Nat.le_of_ble_eq_true rfl, Nat.le_of_ble_eq_true rfl⟩ (EvP.mono (by decide) (c_placeOf e13 ha)) (fun r19 P20 g21 => mpp 47 rfl ?_)
      obtain ⟨⟨x22, rfl, g23, g24⟩, e25, k26⟩ := g21
      have k27 := KX.trans k15 k26
      show MEvP _ none q_10 47 [(1, .int z16), (3, .int 0), (2, .int 0), (0, .ref a)] [.int x22, .int 0] _ _ _ _
      obtain ⟨z28, h29⟩ : ∃ z28 : Int32, (if (7 : Nat) = 7 then (if 0 < x22 then x22 else 0) else (if x22 < 0 then x22 else 0)) = z28 := ⟨_, rfl⟩
      have e30 := ti_mm7 h29
      refine mp_math (i := 65) (k := 0) (v := z28) dX2_width_47 rfl (by decide) (Nat.le_of_ble_eq_true rfl) h29 ⟨Nat.le_of_ble_eq_true rfl, Nat.le_of_ble_eq_true rfl⟩ (mpp 50 rfl ?_)
      refine mp_a (a_istore_n (L' := [(2, .int z28), (1, .int z16), (3, .int 0), (0, .ref a)]) dX2_width_50 (by decide) rfl) (mpp 51 rfl ?_)
      refine mp_a (a_iinc (v := 1) (L' := [(3, .int 1), (2, .int z28), (1, .int z16), (0, .ref a)]) dX2_width_51 (by decide) rfl rfl rfl) (mpp 54 rfl ?_)
      refine mp_a (a_goto (t := 19) dX2_width_54 (by decide)) ?_
      exact c_width_loop ha _ _ _ _ _ e25 k27 rfl
  · have c3 : (fv P a 0).toInt = 1 := ti_ne_n c3
    refine mp_a (a_aload_n dX2_width_8 rfl) (mpp 9 rfl ?_)
    refine mt_callv (i := 68) (q' := q_11) (As := []) (rest := []) hT dX2_width_9 rfl qm_11 (by decide) rfl ha (by decide) rfl (Nat.le_of_ble_eq_true rfl) rfl ⟨rfl, rfl⟩ ⟨Nat.le_of_ble_eq_true rfl, Nat.le_of_ble_eq_true rfl⟩ (EvP.mono (by decide) (c_greatestSize hT ha)) (fun r31 P32 g33 => mpp 12 rfl ?_)
    obtain ⟨⟨x34, rfl, g35, g36⟩, e37, k38⟩ := g33
    have k39 := KX.trans (KX.refl P) k38
    show MEvP _ none q_10 12 [(0, .ref a)] [.int x34] _ _ _ _
    exact mp_iret (⟨⟨_, rfl, (ti_full _).1, (ti_full _).2⟩, e37, k39⟩) dX2_width_12 (Or.inl rfl)

set_option maxHeartbeats 4000000 in
theorem c_panelsBehind_loop {Po : mP} {a : Nat} {t : Int32} (ha : rl a = 3) : ∀ (n : Nat) (v3 : Int32) (v2 : Int32) (P : mP), Typ P → KX Po P → (2147483647 - v3.toInt).toNat = n → MEvP 3 none q_88 4 [(3, .int v3), (2, .int v2), (0, .ref a), (1, .int t)] [] P 0 0 (fun r P' => (∃ x : Int32, r = some (.int x) ∧ (-2147483648 : Int) ≤ x.toInt ∧ x.toInt ≤ 2147483647) ∧ Typ P' ∧ KX Po P') := by
  intro n
  induction n using Nat.strongRecOn with | _ n ih => ?_
  intro v3 v2 P hT hK hm
  have w_v3 := ti_full v3
  have w_v2 := ti_full v2
  refine mp_a (a_iload_n dX2_panelsBehind_4 rfl) (mpp 5 rfl ?_)
  refine mp_a (a_aload_n dX2_panelsBehind_5 rfl) (mpp 6 rfl ?_)
  refine mt_getI (i := 26) (k := 1) hT dX2_panelsBehind_6 rfl ha (by decide) rfl (by decide) rfl (fun g1 g2 => mpp 9 rfl ?_)
  refine mp_Tb (t := 39) (j_icmp_ge dX2_panelsBehind_9) (by decide) (fun c3 => ?_) (fun c3 => mpp 12 rfl ?_)
  · have c3 : v3.toInt ≥ (fv P a 1).toInt := ti_ge c3
    refine mp_a (a_iload_n dX2_panelsBehind_39 rfl) (mpp 40 rfl ?_)
    exact mp_iret (⟨⟨_, rfl, (ti_full _).1, (ti_full _).2⟩, hT, hK⟩) dX2_panelsBehind_40 (Or.inl rfl)
  · have c3 : v3.toInt < (fv P a 1).toInt := ti_ge_n c3
    refine mp_a (a_aload_n dX2_panelsBehind_12 rfl) (mpp 13 rfl ?_)
    refine mp_a (a_iload_n dX2_panelsBehind_13 rfl) (mpp 14 rfl ?_)
    refine mt_callv (i := 71) (q' := q_87) (As := [.int v3]) (rest := []) hT dX2_panelsBehind_14 rfl qm_87 (by decide) rfl ha (by decide) rfl (Nat.le_of_ble_eq_true rfl) rfl ⟨rfl, rfl⟩ ⟨Nat.le_of_ble_eq_true rfl, Nat.le_of_ble_eq_true rfl⟩ (EvP.mono (by decide) (c_leftEndOf hT ha)) (fun r4 P5 g6 => mpp 17 rfl ?_)
    obtain ⟨⟨x7, rfl, g8, g9⟩, e10, k11⟩ := g6
    have k12 := KX.trans hK k11
    show MEvP _ none q_88 17 [(3, .int v3), (2, .int v2), (0, .ref a), (1, .int t)] [.int x7] _ _ _ _
    refine mp_a (a_iload_n dX2_panelsBehind_17 rfl) (mpp 18 rfl ?_)
    refine mp_Tb (t := 33) (j_icmp_gt dX2_panelsBehind_18) (by decide) (fun c13 => ?_) (fun c13 => mpp 21 rfl ?_)
    · have c13 : x7.toInt > t.toInt := ti_gt c13
      refine mp_a (a_iinc (v := (v3 + 1)) (L' := [(3, .int (v3 + 1)), (2, .int v2), (0, .ref a), (1, .int t)]) dX2_panelsBehind_33 (by decide) rfl rfl rfl) (mpp 36 rfl ?_)
      try have e14 : (v3 + 1).toInt = v3.toInt + (1) := ti_add rfl rfl (by omega) (by omega)
      refine mp_a (a_goto (t := 4) dX2_panelsBehind_36 (by decide)) ?_
      exact ih _ (by omega) _ _ _ e10 k12 rfl
    · have c13 : x7.toInt ≤ t.toInt := ti_gt_n c13
      refine mp_a (a_iload_n dX2_panelsBehind_21 rfl) (mpp 22 rfl ?_)
      refine mp_a (a_aload_n dX2_panelsBehind_22 rfl) (mpp 23 rfl ?_)
      refine mp_a (a_iload_n dX2_panelsBehind_23 rfl) (mpp 24 rfl ?_)
      refine mt_callv (i := 77) (q' := q_89) (As := [.int v3]) (rest := [.int t]) e10 dX2_panelsBehind_24 rfl qm_89 (by decide) rfl ha (by decide) rfl (Nat.le_of_ble_eq_true rfl) rfl ⟨rfl, rfl⟩ ⟨Nat.le_of_ble_eq_true rfl, Nat.le_of_ble_eq_true rfl⟩ (EvP.mono (by decide) (c_rightEndOf e10 ha)) (fun r15 P16 g17 => mpp 27 rfl ?_)
      obtain ⟨⟨x18, rfl, g19, g20⟩, e21, k22⟩ := g17
      have k23 := KX.trans k12 k22
      show MEvP _ none q_88 27 [(3, .int v3), (2, .int v2), (0, .ref a), (1, .int t)] [.int x18, .int t] _ _ _ _
      refine mp_Tb (t := 33) (j_icmp_ge dX2_panelsBehind_27) (by decide) (fun c24 => ?_) (fun c24 => mpp 30 rfl ?_)
      · have c24 : t.toInt ≥ x18.toInt := ti_ge c24
        refine mp_a (a_iinc (v := (v3 + 1)) (L' := [(3, .int (v3 + 1)), (2, .int v2), (0, .ref a), (1, .int t)]) dX2_panelsBehind_33 (by decide) rfl rfl rfl) (mpp 36 rfl ?_)
        try have e25 : (v3 + 1).toInt = v3.toInt + (1) := ti_add rfl rfl (by omega) (by omega)
        refine mp_a (a_goto (t := 4) dX2_panelsBehind_36 (by decide)) ?_
        exact ih _ (by omega) _ _ _ e21 k23 rfl
      · have c24 : t.toInt < x18.toInt := ti_ge_n c24
        refine mp_a (a_iinc (v := (v2 + 1)) (L' := [(2, .int (v2 + 1)), (3, .int v3), (0, .ref a), (1, .int t)]) dX2_panelsBehind_30 (by decide) rfl rfl rfl) (mpp 33 rfl ?_)
        try have e26 : (v2 + 1).toInt = v2.toInt + (1) := ti_add rfl rfl (by omega) (by omega)
        refine mp_a (a_iinc (v := (v3 + 1)) (L' := [(3, .int (v3 + 1)), (2, .int (v2 + 1)), (0, .ref a), (1, .int t)]) dX2_panelsBehind_33 (by decide) rfl rfl rfl) (mpp 36 rfl ?_)
        try have e27 : (v3 + 1).toInt = v3.toInt + (1) := ti_add rfl rfl (by omega) (by omega)
        refine mp_a (a_goto (t := 4) dX2_panelsBehind_36 (by decide)) ?_
        exact ih _ (by omega) _ _ _ e21 k23 rfl

set_option maxHeartbeats 4000000 in
theorem c_panelsBehind {P : mP} {a : Nat} {t : Int32} (hT : Typ P) (ha : rl a = 3) : EvP 4 88 [.ref a, .int t] P (fun r P' => (∃ x : Int32, r = some (.int x) ∧ (-2147483648 : Int) ≤ x.toInt ∧ x.toInt ≤ 2147483647) ∧ Typ P' ∧ KX P P') := by
  refine EvP.of qm_88 (Nat.le_of_ble_eq_true rfl) rfl ?_
  show MEvP _ none q_88 0 [(0, .ref a), (1, .int t)] [] _ 0 0 _
  refine mp_a (a_iconst (v := 0) dX2_panelsBehind_0 rfl) (mpp 1 rfl ?_)
  refine mp_a (a_istore_n (L' := [(2, .int 0), (0, .ref a), (1, .int t)]) dX2_panelsBehind_1 (by decide) rfl) (mpp 2 rfl ?_)
  refine mp_a (a_iconst (v := 0) dX2_panelsBehind_2 rfl) (mpp 3 rfl ?_)
  refine mp_a (a_istore_n (L' := [(3, .int 0), (2, .int 0), (0, .ref a), (1, .int t)]) dX2_panelsBehind_3 (by decide) rfl) (mpp 4 rfl ?_)
  refine mp_a (a_iload_n dX2_panelsBehind_4 rfl) (mpp 5 rfl ?_)
  refine mp_a (a_aload_n dX2_panelsBehind_5 rfl) (mpp 6 rfl ?_)
  refine mt_getI (i := 26) (k := 1) hT dX2_panelsBehind_6 rfl ha (by decide) rfl (by decide) rfl (fun g1 g2 => mpp 9 rfl ?_)
  refine mp_Tb (t := 39) (j_icmp_ge dX2_panelsBehind_9) (by decide) (fun c3 => ?_) (fun c3 => mpp 12 rfl ?_)
  · have c3 : 0 ≥ (fv P a 1).toInt := ti_ge c3
    refine mp_a (a_iload_n dX2_panelsBehind_39 rfl) (mpp 40 rfl ?_)
    exact mp_iret (⟨⟨_, rfl, (ti_full _).1, (ti_full _).2⟩, hT, (KX.refl P)⟩) dX2_panelsBehind_40 (Or.inl rfl)
  · have c3 : 0 < (fv P a 1).toInt := ti_ge_n c3
    refine mp_a (a_aload_n dX2_panelsBehind_12 rfl) (mpp 13 rfl ?_)
    refine mp_a (a_iload_n dX2_panelsBehind_13 rfl) (mpp 14 rfl ?_)
    refine mt_callv (i := 71) (q' := q_87) (As := [.int 0]) (rest := []) hT dX2_panelsBehind_14 rfl qm_87 (by decide) rfl ha (by decide) rfl (Nat.le_of_ble_eq_true rfl) rfl ⟨rfl, rfl⟩ ⟨Nat.le_of_ble_eq_true rfl, Nat.le_of_ble_eq_true rfl⟩ (EvP.mono (by decide) (c_leftEndOf hT ha)) (fun r4 P5 g6 => mpp 17 rfl ?_)
    obtain ⟨⟨x7, rfl, g8, g9⟩, e10, k11⟩ := g6
    have k12 := KX.trans (KX.refl P) k11
    show MEvP _ none q_88 17 [(3, .int 0), (2, .int 0), (0, .ref a), (1, .int t)] [.int x7] _ _ _ _
    refine mp_a (a_iload_n dX2_panelsBehind_17 rfl) (mpp 18 rfl ?_)
    refine mp_Tb (t := 33) (j_icmp_gt dX2_panelsBehind_18) (by decide) (fun c13 => ?_) (fun c13 => mpp 21 rfl ?_)
    · have c13 : x7.toInt > t.toInt := ti_gt c13
      refine mp_a (a_iinc (v := 1) (L' := [(3, .int 1), (2, .int 0), (0, .ref a), (1, .int t)]) dX2_panelsBehind_33 (by decide) rfl rfl rfl) (mpp 36 rfl ?_)
      refine mp_a (a_goto (t := 4) dX2_panelsBehind_36 (by decide)) ?_
      exact c_panelsBehind_loop ha _ _ _ _ e10 k12 rfl
    · have c13 : x7.toInt ≤ t.toInt := ti_gt_n c13
      refine mp_a (a_iload_n dX2_panelsBehind_21 rfl) (mpp 22 rfl ?_)
      refine mp_a (a_aload_n dX2_panelsBehind_22 rfl) (mpp 23 rfl ?_)
      refine mp_a (a_iload_n dX2_panelsBehind_23 rfl) (mpp 24 rfl ?_)
      refine mt_callv (i := 77) (q' := q_89) (As := [.int 0]) (rest := [.int t]) e10 dX2_panelsBehind_24 rfl qm_89 (by decide) rfl ha (by decide) rfl (Nat.le_of_ble_eq_true rfl) rfl ⟨rfl, rfl⟩ ⟨Nat.le_of_ble_eq_true rfl, Nat.le_of_ble_eq_true rfl⟩ (EvP.mono (by decide) (c_rightEndOf e10 ha)) (fun r14 P15 g16 => mpp 27 rfl ?_)
      obtain ⟨⟨x17, rfl, g18, g19⟩, e20, k21⟩ := g16
      have k22 := KX.trans k12 k21
      show MEvP _ none q_88 27 [(3, .int 0), (2, .int 0), (0, .ref a), (1, .int t)] [.int x17, .int t] _ _ _ _
      refine mp_Tb (t := 33) (j_icmp_ge dX2_panelsBehind_27) (by decide) (fun c23 => ?_) (fun c23 => mpp 30 rfl ?_)
      · have c23 : t.toInt ≥ x17.toInt := ti_ge c23
        refine mp_a (a_iinc (v := 1) (L' := [(3, .int 1), (2, .int 0), (0, .ref a), (1, .int t)]) dX2_panelsBehind_33 (by decide) rfl rfl rfl) (mpp 36 rfl ?_)
        refine mp_a (a_goto (t := 4) dX2_panelsBehind_36 (by decide)) ?_
        exact c_panelsBehind_loop ha _ _ _ _ e20 k22 rfl
      · have c23 : t.toInt < x17.toInt := ti_ge_n c23
        refine mp_a (a_iinc (v := 1) (L' := [(2, .int 1), (3, .int 0), (0, .ref a), (1, .int t)]) dX2_panelsBehind_30 (by decide) rfl rfl rfl) (mpp 33 rfl ?_)
        refine mp_a (a_iinc (v := 1) (L' := [(3, .int 1), (2, .int 1), (0, .ref a), (1, .int t)]) dX2_panelsBehind_33 (by decide) rfl rfl rfl) (mpp 36 rfl ?_)
        refine mp_a (a_goto (t := 4) dX2_panelsBehind_36 (by decide)) ?_
        exact c_panelsBehind_loop ha _ _ _ _ e20 k22 rfl

set_option maxHeartbeats 4000000 in
theorem c_thickness_loop {Po : mP} {a : Nat} (ha : rl a = 3) : ∀ (n : Nat) (v2 : Int32) (v1 : Int32) (P : mP), Typ P → KX Po P → (2147483647 - v2.toInt).toNat = n → MEvP 4 none q_86 4 [(2, .int v2), (1, .int v1), (0, .ref a)] [] P 0 0 (fun r P' => (∃ x : Int32, r = some (.int x) ∧ (-2147483648 : Int) ≤ x.toInt ∧ x.toInt ≤ 2147483647) ∧ Typ P' ∧ KX Po P') := by
  intro n
  induction n using Nat.strongRecOn with | _ n ih => ?_
  intro v2 v1 P hT hK hm
  have w_v2 := ti_full v2
  have w_v1 := ti_full v1
  refine mp_a (a_iload_n dX2_thickness_4 rfl) (mpp 5 rfl ?_)
  refine mp_a (a_aload_n dX2_thickness_5 rfl) (mpp 6 rfl ?_)
  refine mt_getI (i := 26) (k := 1) hT dX2_thickness_6 rfl ha (by decide) rfl (by decide) rfl (fun g1 g2 => mpp 9 rfl ?_)
  refine mp_Tb (t := 32) (j_icmp_ge dX2_thickness_9) (by decide) (fun c3 => ?_) (fun c3 => mpp 12 rfl ?_)
  · have c3 : v2.toInt ≥ (fv P a 1).toInt := ti_ge c3
    refine mp_a (a_iload_n dX2_thickness_32 rfl) (mpp 33 rfl ?_)
    exact mp_iret (⟨⟨_, rfl, (ti_full _).1, (ti_full _).2⟩, hT, hK⟩) dX2_thickness_33 (Or.inl rfl)
  · have c3 : v2.toInt < (fv P a 1).toInt := ti_ge_n c3
    refine mp_a (a_iload_n dX2_thickness_12 rfl) (mpp 13 rfl ?_)
    refine mp_a (a_aload_n dX2_thickness_13 rfl) (mpp 14 rfl ?_)
    refine mp_a (a_aload_n dX2_thickness_14 rfl) (mpp 15 rfl ?_)
    refine mp_a (a_iload_n dX2_thickness_15 rfl) (mpp 16 rfl ?_)
    refine mt_callv (i := 71) (q' := q_87) (As := [.int v2]) (rest := [.ref a, .int v1]) hT dX2_thickness_16 rfl qm_87 (by decide) rfl ha (by decide) rfl (Nat.le_of_ble_eq_true rfl) rfl ⟨rfl, rfl⟩ ⟨Nat.le_of_ble_eq_true rfl, Nat.le_of_ble_eq_true rfl⟩ (EvP.mono (by decide) (c_leftEndOf hT ha)) (fun r4 P5 g6 => mpp 19 rfl ?_)
    obtain ⟨⟨x7, rfl, g8, g9⟩, e10, k11⟩ := g6
    have k12 := KX.trans hK k11
    show MEvP _ none q_86 19 [(2, .int v2), (1, .int v1), (0, .ref a)] [.int x7, .ref a, .int v1] _ _ _ _
    refine mt_callv (i := 74) (q' := q_88) (As := [.int x7]) (rest := [.int v1]) e10 dX2_thickness_19 rfl qm_88 (by decide) rfl ha (by decide) rfl (Nat.le_of_ble_eq_true rfl) rfl ⟨rfl, rfl⟩ ⟨Nat.le_of_ble_eq_true rfl, Nat.le_of_ble_eq_true rfl⟩ (EvP.mono (by decide) (c_panelsBehind e10 ha)) (fun r13 P14 g15 => mpp 22 rfl ?_)
    obtain ⟨⟨x16, rfl, g17, g18⟩, e19, k20⟩ := g15
    have k21 := KX.trans k12 k20
    show MEvP _ none q_86 22 [(2, .int v2), (1, .int v1), (0, .ref a)] [.int x16, .int v1] _ _ _ _
    obtain ⟨z22, h23⟩ : ∃ z22 : Int32, (if (7 : Nat) = 7 then (if v1 < x16 then x16 else v1) else (if x16 < v1 then x16 else v1)) = z22 := ⟨_, rfl⟩
    have e24 := ti_mm7 h23
    refine mp_math (i := 65) (k := 0) (v := z22) dX2_thickness_22 rfl (by decide) (Nat.le_of_ble_eq_true rfl) h23 ⟨Nat.le_of_ble_eq_true rfl, Nat.le_of_ble_eq_true rfl⟩ (mpp 25 rfl ?_)
    refine mp_a (a_istore_n (L' := [(1, .int z22), (2, .int v2), (0, .ref a)]) dX2_thickness_25 (by decide) rfl) (mpp 26 rfl ?_)
    refine mp_a (a_iinc (v := (v2 + 1)) (L' := [(2, .int (v2 + 1)), (1, .int z22), (0, .ref a)]) dX2_thickness_26 (by decide) rfl rfl rfl) (mpp 29 rfl ?_)
    try have e25 : (v2 + 1).toInt = v2.toInt + (1) := ti_add rfl rfl (by omega) (by omega)
    refine mp_a (a_goto (t := 4) dX2_thickness_29 (by decide)) ?_
    exact ih _ (by omega) _ _ _ e19 k21 rfl

set_option maxHeartbeats 4000000 in
theorem c_thickness {P : mP} {a : Nat} (hT : Typ P) (ha : rl a = 3) : EvP 5 86 [.ref a] P (fun r P' => (∃ x : Int32, r = some (.int x) ∧ (-2147483648 : Int) ≤ x.toInt ∧ x.toInt ≤ 2147483647) ∧ Typ P' ∧ KX P P') := by
  refine EvP.of qm_86 (Nat.le_of_ble_eq_true rfl) rfl ?_
  show MEvP _ none q_86 0 [(0, .ref a)] [] _ 0 0 _
  refine mp_a (a_iconst (v := 0) dX2_thickness_0 rfl) (mpp 1 rfl ?_)
  refine mp_a (a_istore_n (L' := [(1, .int 0), (0, .ref a)]) dX2_thickness_1 (by decide) rfl) (mpp 2 rfl ?_)
  refine mp_a (a_iconst (v := 0) dX2_thickness_2 rfl) (mpp 3 rfl ?_)
  refine mp_a (a_istore_n (L' := [(2, .int 0), (1, .int 0), (0, .ref a)]) dX2_thickness_3 (by decide) rfl) (mpp 4 rfl ?_)
  refine mp_a (a_iload_n dX2_thickness_4 rfl) (mpp 5 rfl ?_)
  refine mp_a (a_aload_n dX2_thickness_5 rfl) (mpp 6 rfl ?_)
  refine mt_getI (i := 26) (k := 1) hT dX2_thickness_6 rfl ha (by decide) rfl (by decide) rfl (fun g1 g2 => mpp 9 rfl ?_)
  refine mp_Tb (t := 32) (j_icmp_ge dX2_thickness_9) (by decide) (fun c3 => ?_) (fun c3 => mpp 12 rfl ?_)
  · have c3 : 0 ≥ (fv P a 1).toInt := ti_ge c3
    refine mp_a (a_iload_n dX2_thickness_32 rfl) (mpp 33 rfl ?_)
    exact mp_iret (⟨⟨_, rfl, (ti_full _).1, (ti_full _).2⟩, hT, (KX.refl P)⟩) dX2_thickness_33 (Or.inl rfl)
  · have c3 : 0 < (fv P a 1).toInt := ti_ge_n c3
    refine mp_a (a_iload_n dX2_thickness_12 rfl) (mpp 13 rfl ?_)
    refine mp_a (a_aload_n dX2_thickness_13 rfl) (mpp 14 rfl ?_)
    refine mp_a (a_aload_n dX2_thickness_14 rfl) (mpp 15 rfl ?_)
    refine mp_a (a_iload_n dX2_thickness_15 rfl) (mpp 16 rfl ?_)
    refine mt_callv (i := 71) (q' := q_87) (As := [.int 0]) (rest := [.ref a, .int 0]) hT dX2_thickness_16 rfl qm_87 (by decide) rfl ha (by decide) rfl (Nat.le_of_ble_eq_true rfl) rfl ⟨rfl, rfl⟩ ⟨Nat.le_of_ble_eq_true rfl, Nat.le_of_ble_eq_true rfl⟩ (EvP.mono (by decide) (c_leftEndOf hT ha)) (fun r4 P5 g6 => mpp 19 rfl ?_)
    obtain ⟨⟨x7, rfl, g8, g9⟩, e10, k11⟩ := g6
    have k12 := KX.trans (KX.refl P) k11
    show MEvP _ none q_86 19 [(2, .int 0), (1, .int 0), (0, .ref a)] [.int x7, .ref a, .int 0] _ _ _ _
    refine mt_callv (i := 74) (q' := q_88) (As := [.int x7]) (rest := [.int 0]) e10 dX2_thickness_19 rfl qm_88 (by decide) rfl ha (by decide) rfl (Nat.le_of_ble_eq_true rfl) rfl ⟨rfl, rfl⟩ ⟨Nat.le_of_ble_eq_true rfl, Nat.le_of_ble_eq_true rfl⟩ (EvP.mono (by decide) (c_panelsBehind e10 ha)) (fun r13 P14 g15 => mpp 22 rfl ?_)
    obtain ⟨⟨x16, rfl, g17, g18⟩, e19, k20⟩ := g15
    have k21 := KX.trans k12 k20
    show MEvP _ none q_86 22 [(2, .int 0), (1, .int 0), (0, .ref a)] [.int x16, .int 0] _ _ _ _
    obtain ⟨z22, h23⟩ : ∃ z22 : Int32, (if (7 : Nat) = 7 then (if 0 < x16 then x16 else 0) else (if x16 < 0 then x16 else 0)) = z22 := ⟨_, rfl⟩
    have e24 := ti_mm7 h23
    refine mp_math (i := 65) (k := 0) (v := z22) dX2_thickness_22 rfl (by decide) (Nat.le_of_ble_eq_true rfl) h23 ⟨Nat.le_of_ble_eq_true rfl, Nat.le_of_ble_eq_true rfl⟩ (mpp 25 rfl ?_)
    refine mp_a (a_istore_n (L' := [(1, .int z22), (2, .int 0), (0, .ref a)]) dX2_thickness_25 (by decide) rfl) (mpp 26 rfl ?_)
    refine mp_a (a_iinc (v := 1) (L' := [(2, .int 1), (1, .int z22), (0, .ref a)]) dX2_thickness_26 (by decide) rfl rfl rfl) (mpp 29 rfl ?_)
    refine mp_a (a_goto (t := 4) dX2_thickness_29 (by decide)) ?_
    exact c_thickness_loop ha _ _ _ _ e19 k21 rfl

set_option maxHeartbeats 4000000 in
theorem c_copyPiece {P : mP} {a b : Nat} (hT : Typ P) (ha : rl a = 3) (hb : rl b = 3) : EvP 2 18 [.ref a, .ref b] P (fun r P' => r = none ∧ Typ P' ∧ KX P P') := by
  refine EvP.of qm_18 (Nat.le_of_ble_eq_true rfl) rfl ?_
  show MEvP _ none q_18 0 [(0, .ref a), (1, .ref b)] [] _ 0 0 _
  refine mp_a (a_aload_n dX2_copyFrom_0 rfl) (mpp 1 rfl ?_)
  refine mp_a (a_aload_n dX2_copyFrom_1 rfl) (mpp 2 rfl ?_)
  refine mt_getI (i := 18) (k := 0) hT dX2_copyFrom_2 rfl hb (by decide) rfl (by decide) rfl (fun g1 g2 => mpp 5 rfl ?_)
  refine mt_putI (i := 18) (k := 0) (x := (fv P b 0)) hT dX2_copyFrom_5 rfl ha (by decide) rfl (by decide) rfl (ti_full (fv P b 0)) rfl rfl (fun P3 hT4 f5 f6 => mpp 8 rfl ?_)
  have k7 := KX.step (KX.refl P) ha (by decide) f6
  refine mp_a (a_aload_n dX2_copyFrom_8 rfl) (mpp 9 rfl ?_)
  refine mp_a (a_aload_n dX2_copyFrom_9 rfl) (mpp 10 rfl ?_)
  refine mt_getI (i := 26) (k := 1) hT4 dX2_copyFrom_10 rfl hb (by decide) rfl (by decide) rfl (fun g8 g9 => mpp 13 rfl ?_)
  refine mt_putI (i := 26) (k := 1) (x := (fv P3 b 1)) hT4 dX2_copyFrom_13 rfl ha (by decide) rfl (by decide) rfl ⟨by omega, by omega⟩ rfl rfl (fun P10 hT11 f12 f13 => mpp 16 rfl ?_)
  have k14 := KX.step k7 ha (by decide) f13
  refine mp_a (a_aload_n dX2_copyFrom_16 rfl) (mpp 17 rfl ?_)
  refine mp_a (a_aload_n dX2_copyFrom_17 rfl) (mpp 18 rfl ?_)
  refine mt_getI (i := 22) (k := 2) hT11 dX2_copyFrom_18 rfl hb (by decide) rfl (by decide) rfl (fun g15 g16 => mpp 21 rfl ?_)
  refine mt_putI (i := 22) (k := 2) (x := (fv P10 b 2)) hT11 dX2_copyFrom_21 rfl ha (by decide) rfl (by decide) rfl ⟨by omega, by omega⟩ (ti_fit (by omega)) rfl (fun P17 hT18 f19 f20 => mpp 24 rfl ?_)
  have k21 := KX.step k14 ha (by decide) f20
  refine mp_a (a_aload_n dX2_copyFrom_24 rfl) (mpp 25 rfl ?_)
  refine mt_getR (i := 9) (k := 3) hT18 dX2_copyFrom_25 rfl hb (by decide) rfl (by decide) rfl (fun q22 => mpp 28 rfl ?_)
  refine mp_a (a_aload_n dX2_copyFrom_28 rfl) (mpp 29 rfl ?_)
  refine mt_getR (i := 9) (k := 3) hT18 dX2_copyFrom_29 rfl ha (by decide) rfl (by decide) rfl (fun q23 => mpp 32 rfl ?_)
  refine mp_calls (i := 44) (q' := q_19) (As := [.ref (rv P17 b 3), .ref (rv P17 a 3)]) (rest := []) dX2_copyFrom_32 rfl qm_19 (by decide) rfl (Nat.le_of_ble_eq_true rfl) rfl ⟨rfl, rfl⟩ ⟨Nat.le_of_ble_eq_true rfl, Nat.le_of_ble_eq_true rfl⟩ (EvP.mono (by decide) (c_copyRow_sizes_sizes hT18 q22 q23)) (fun r24 P25 g26 => mpp 35 rfl ?_)
  obtain ⟨rfl, e28, k29⟩ := g26
  have k30 := KX.trans k21 k29
  show MEvP _ none q_18 35 [(0, .ref a), (1, .ref b)] [] _ _ _ _
  refine mp_a (a_aload_n dX2_copyFrom_35 rfl) (mpp 36 rfl ?_)
  refine mt_getR (i := 15) (k := 4) e28 dX2_copyFrom_36 rfl hb (by decide) rfl (by decide) rfl (fun q31 => mpp 39 rfl ?_)
  refine mp_a (a_aload_n dX2_copyFrom_39 rfl) (mpp 40 rfl ?_)
  refine mt_getR (i := 15) (k := 4) e28 dX2_copyFrom_40 rfl ha (by decide) rfl (by decide) rfl (fun q32 => mpp 43 rfl ?_)
  refine mp_calls (i := 44) (q' := q_19) (As := [.ref (rv P25 b 4), .ref (rv P25 a 4)]) (rest := []) dX2_copyFrom_43 rfl qm_19 (by decide) rfl (Nat.le_of_ble_eq_true rfl) rfl ⟨rfl, rfl⟩ ⟨Nat.le_of_ble_eq_true rfl, Nat.le_of_ble_eq_true rfl⟩ (EvP.mono (by decide) (c_copyRow_creases_creases e28 q31 q32)) (fun r33 P34 g35 => mpp 46 rfl ?_)
  obtain ⟨rfl, e37, k38⟩ := g35
  have k39 := KX.trans k30 k38
  show MEvP _ none q_18 46 [(0, .ref a), (1, .ref b)] [] _ _ _ _
  exact mp_ret (⟨rfl, e37, k39⟩) dX2_copyFrom_46 rfl

set_option maxHeartbeats 4000000 in
theorem c_becomeRotated_loop {Po : mP} {a b : Nat} {t : Int32} (ha : rl a = 3) (hb : rl b = 3) : ∀ (n : Nat) (v3 : Int32) (v4 : Int32) (P : mP), Typ P → KX Po P → (2147483647 - v3.toInt).toNat = n → MEvP 1 none q_34 2 [(3, .int v3), (4, .int v4), (0, .ref a), (1, .ref b), (2, .int t)] [] P 0 0 (fun r P' => r = none ∧ Typ P' ∧ KX Po P') := by
  intro n
  induction n using Nat.strongRecOn with | _ n ih => ?_
  intro v3 v4 P hT hK hm
  have w_v3 := ti_full v3
  have w_v4 := ti_full v4
  refine mp_a (a_iload_n dX2_becomeRotated_2 rfl) (mpp 3 rfl ?_)
  refine mp_a (a_aload_n dX2_becomeRotated_3 rfl) (mpp 4 rfl ?_)
  refine mt_getI (i := 26) (k := 1) hT dX2_becomeRotated_4 rfl ha (by decide) rfl (by decide) rfl (fun g1 g2 => mpp 7 rfl ?_)
  refine mp_Tb (t := 76) (j_icmp_ge dX2_becomeRotated_7) (by decide) (fun c3 => ?_) (fun c3 => mpp 10 rfl ?_)
  · have c3 : v3.toInt ≥ (fv P a 1).toInt := ti_ge c3
    exact mp_ret (⟨rfl, hT, hK⟩) dX2_becomeRotated_76 rfl
  · have c3 : v3.toInt < (fv P a 1).toInt := ti_ge_n c3
    refine mp_a (a_iload_n dX2_becomeRotated_10 rfl) (mpp 11 rfl ?_)
    refine mp_a (a_iload_n dX2_becomeRotated_11 rfl) (mpp 12 rfl ?_)
    refine mp_t (s_iadd (v := (t + v3)) dX2_becomeRotated_12 rfl) (mpp 13 rfl ?_)
    try have e4 : (t + v3).toInt = t.toInt + v3.toInt := ti_add rfl rfl (by omega) (by omega)
    refine mp_a (a_aload_n dX2_becomeRotated_13 rfl) (mpp 14 rfl ?_)
    refine mt_getI (i := 26) (k := 1) hT dX2_becomeRotated_14 rfl ha (by decide) rfl (by decide) rfl (fun g5 g6 => mpp 17 rfl ?_)
    refine mp_Tb (t := 26) (j_icmp_ge dX2_becomeRotated_17) (by decide) (fun c7 => ?_) (fun c7 => mpp 20 rfl ?_)
    · have c7 : (t + v3).toInt ≥ (fv P a 1).toInt := ti_ge c7
      refine mp_a (a_iload_n dX2_becomeRotated_26 rfl) (mpp 27 rfl ?_)
      refine mp_a (a_iload_n dX2_becomeRotated_27 rfl) (mpp 28 rfl ?_)
      refine mp_t (s_iadd (v := (t + v3)) dX2_becomeRotated_28 rfl) (mpp 29 rfl ?_)
      try have e8 : (t + v3).toInt = t.toInt + v3.toInt := ti_add rfl rfl (by omega) (by omega)
      refine mp_a (a_aload_n dX2_becomeRotated_29 rfl) (mpp 30 rfl ?_)
      refine mt_getI (i := 26) (k := 1) hT dX2_becomeRotated_30 rfl ha (by decide) rfl (by decide) rfl (fun g9 g10 => mpp 33 rfl ?_)
      refine mp_t (s_isub (v := ((t + v3) - (fv P a 1))) dX2_becomeRotated_33 rfl) (mpp 34 rfl ?_)
      try have e11 : ((t + v3) - (fv P a 1)).toInt = (t + v3).toInt - (fv P a 1).toInt := ti_sub rfl rfl (by omega) (by omega)
      refine mp_a (a_istore (L' := [(4, .int ((t + v3) - (fv P a 1))), (3, .int v3), (0, .ref a), (1, .ref b), (2, .int t)]) dX2_becomeRotated_34 (by decide) rfl) (mpp 36 rfl ?_)
      refine mp_a (a_aload_n dX2_becomeRotated_36 rfl) (mpp 37 rfl ?_)
      refine mt_getR (i := 9) (k := 3) hT dX2_becomeRotated_37 rfl ha (by decide) rfl (by decide) rfl (fun q12 => mpp 40 rfl ?_)
      refine mp_a (a_iload_n dX2_becomeRotated_40 rfl) (mpp 41 rfl ?_)
      refine mp_a (a_aload_n dX2_becomeRotated_41 rfl) (mpp 42 rfl ?_)
      refine mt_getR (i := 9) (k := 3) hT dX2_becomeRotated_42 rfl hb (by decide) rfl (by decide) rfl (fun q13 => mpp 45 rfl ?_)
      refine mp_a (a_iload dX2_becomeRotated_45 rfl) (mpp 47 rfl ?_)
      refine mp_calls (i := 48) (q' := q_12) (As := [.ref (rv P b 3), .int ((t + v3) - (fv P a 1))]) (rest := [.int v3, .ref (rv P a 3)]) dX2_becomeRotated_47 rfl qm_12 (by decide) rfl (Nat.le_of_ble_eq_true rfl) rfl ⟨rfl, rfl⟩ ⟨Nat.le_of_ble_eq_true rfl, Nat.le_of_ble_eq_true rfl⟩ (EvP.mono (by decide) (c_at_sizes hT q13)) (fun r14 P15 g16 => mpp 50 rfl ?_)
      obtain ⟨⟨x17, rfl, g18, g19⟩, e20⟩ := g16
      have e20 := e20.symm
      subst e20
      show MEvP _ none q_34 50 [(4, .int ((t + v3) - (fv P a 1))), (3, .int v3), (0, .ref a), (1, .ref b), (2, .int t)] [.int x17, .int v3, .ref (rv P a 3)] _ _ _ _
      refine mp_calls (i := 29) (q' := q_22) (As := [.ref (rv P a 3), .int v3, .int x17]) (rest := []) dX2_becomeRotated_50 rfl qm_22 (by decide) rfl (Nat.le_of_ble_eq_true rfl) rfl ⟨rfl, rfl⟩ ⟨Nat.le_of_ble_eq_true rfl, Nat.le_of_ble_eq_true rfl⟩ (EvP.mono (by decide) (c_put_sizes hT q12)) (fun r22 P23 g24 => mpp 53 rfl ?_)
      obtain ⟨rfl, e26, k27⟩ := g24
      have k28 := KX.trans hK k27
      show MEvP _ none q_34 53 [(4, .int ((t + v3) - (fv P a 1))), (3, .int v3), (0, .ref a), (1, .ref b), (2, .int t)] [] _ _ _ _
      refine mp_a (a_aload_n dX2_becomeRotated_53 rfl) (mpp 54 rfl ?_)
      refine mt_getR (i := 15) (k := 4) e26 dX2_becomeRotated_54 rfl ha (by decide) rfl (by decide) rfl (fun q29 => mpp 57 rfl ?_)
      refine mp_a (a_iload_n dX2_becomeRotated_57 rfl) (mpp 58 rfl ?_)
      refine mp_a (a_aload_n dX2_becomeRotated_58 rfl) (mpp 59 rfl ?_)
      refine mt_getR (i := 15) (k := 4) e26 dX2_becomeRotated_59 rfl hb (by decide) rfl (by decide) rfl (fun q30 => mpp 62 rfl ?_)
      refine mp_a (a_iload dX2_becomeRotated_62 rfl) (mpp 64 rfl ?_)
      refine mp_calls (i := 48) (q' := q_12) (As := [.ref (rv P23 b 4), .int ((t + v3) - (fv P a 1))]) (rest := [.int v3, .ref (rv P23 a 4)]) dX2_becomeRotated_64 rfl qm_12 (by decide) rfl (Nat.le_of_ble_eq_true rfl) rfl ⟨rfl, rfl⟩ ⟨Nat.le_of_ble_eq_true rfl, Nat.le_of_ble_eq_true rfl⟩ (EvP.mono (by decide) (c_at_creases e26 q30)) (fun r31 P32 g33 => mpp 67 rfl ?_)
      obtain ⟨⟨x34, rfl, g35, g36⟩, e37⟩ := g33
      have e37 := e37.symm
      subst e37
      show MEvP _ none q_34 67 [(4, .int ((t + v3) - (fv P a 1))), (3, .int v3), (0, .ref a), (1, .ref b), (2, .int t)] [.int x34, .int v3, .ref (rv P23 a 4)] _ _ _ _
      refine mp_calls (i := 29) (q' := q_22) (As := [.ref (rv P23 a 4), .int v3, .int x34]) (rest := []) dX2_becomeRotated_67 rfl qm_22 (by decide) rfl (Nat.le_of_ble_eq_true rfl) rfl ⟨rfl, rfl⟩ ⟨Nat.le_of_ble_eq_true rfl, Nat.le_of_ble_eq_true rfl⟩ (EvP.mono (by decide) (c_put_creases e26 q29)) (fun r39 P40 g41 => mpp 70 rfl ?_)
      obtain ⟨rfl, e43, k44⟩ := g41
      have k45 := KX.trans k28 k44
      show MEvP _ none q_34 70 [(4, .int ((t + v3) - (fv P a 1))), (3, .int v3), (0, .ref a), (1, .ref b), (2, .int t)] [] _ _ _ _
      refine mp_a (a_iinc (v := (v3 + 1)) (L' := [(3, .int (v3 + 1)), (4, .int ((t + v3) - (fv P a 1))), (0, .ref a), (1, .ref b), (2, .int t)]) dX2_becomeRotated_70 (by decide) rfl rfl rfl) (mpp 73 rfl ?_)
      try have e46 : (v3 + 1).toInt = v3.toInt + (1) := ti_add rfl rfl (by omega) (by omega)
      refine mp_a (a_goto (t := 2) dX2_becomeRotated_73 (by decide)) ?_
      exact ih _ (by omega) _ _ _ e43 k45 rfl
    · have c7 : (t + v3).toInt < (fv P a 1).toInt := ti_ge_n c7
      refine mp_a (a_iload_n dX2_becomeRotated_20 rfl) (mpp 21 rfl ?_)
      refine mp_a (a_iload_n dX2_becomeRotated_21 rfl) (mpp 22 rfl ?_)
      refine mp_t (s_iadd (v := (t + v3)) dX2_becomeRotated_22 rfl) (mpp 23 rfl ?_)
      try have e47 : (t + v3).toInt = t.toInt + v3.toInt := ti_add rfl rfl (by omega) (by omega)
      refine mp_a (a_goto (t := 34) dX2_becomeRotated_23 (by decide)) ?_
      refine mp_a (a_istore (L' := [(4, .int (t + v3)), (3, .int v3), (0, .ref a), (1, .ref b), (2, .int t)]) dX2_becomeRotated_34 (by decide) rfl) (mpp 36 rfl ?_)
      refine mp_a (a_aload_n dX2_becomeRotated_36 rfl) (mpp 37 rfl ?_)
      refine mt_getR (i := 9) (k := 3) hT dX2_becomeRotated_37 rfl ha (by decide) rfl (by decide) rfl (fun q48 => mpp 40 rfl ?_)
      refine mp_a (a_iload_n dX2_becomeRotated_40 rfl) (mpp 41 rfl ?_)
      refine mp_a (a_aload_n dX2_becomeRotated_41 rfl) (mpp 42 rfl ?_)
      refine mt_getR (i := 9) (k := 3) hT dX2_becomeRotated_42 rfl hb (by decide) rfl (by decide) rfl (fun q49 => mpp 45 rfl ?_)
      refine mp_a (a_iload dX2_becomeRotated_45 rfl) (mpp 47 rfl ?_)
      refine mp_calls (i := 48) (q' := q_12) (As := [.ref (rv P b 3), .int (t + v3)]) (rest := [.int v3, .ref (rv P a 3)]) dX2_becomeRotated_47 rfl qm_12 (by decide) rfl (Nat.le_of_ble_eq_true rfl) rfl ⟨rfl, rfl⟩ ⟨Nat.le_of_ble_eq_true rfl, Nat.le_of_ble_eq_true rfl⟩ (EvP.mono (by decide) (c_at_sizes hT q49)) (fun r50 P51 g52 => mpp 50 rfl ?_)
      obtain ⟨⟨x53, rfl, g54, g55⟩, e56⟩ := g52
      have e56 := e56.symm
      subst e56
      show MEvP _ none q_34 50 [(4, .int (t + v3)), (3, .int v3), (0, .ref a), (1, .ref b), (2, .int t)] [.int x53, .int v3, .ref (rv P a 3)] _ _ _ _
      refine mp_calls (i := 29) (q' := q_22) (As := [.ref (rv P a 3), .int v3, .int x53]) (rest := []) dX2_becomeRotated_50 rfl qm_22 (by decide) rfl (Nat.le_of_ble_eq_true rfl) rfl ⟨rfl, rfl⟩ ⟨Nat.le_of_ble_eq_true rfl, Nat.le_of_ble_eq_true rfl⟩ (EvP.mono (by decide) (c_put_sizes hT q48)) (fun r58 P59 g60 => mpp 53 rfl ?_)
      obtain ⟨rfl, e62, k63⟩ := g60
      have k64 := KX.trans hK k63
      show MEvP _ none q_34 53 [(4, .int (t + v3)), (3, .int v3), (0, .ref a), (1, .ref b), (2, .int t)] [] _ _ _ _
      refine mp_a (a_aload_n dX2_becomeRotated_53 rfl) (mpp 54 rfl ?_)
      refine mt_getR (i := 15) (k := 4) e62 dX2_becomeRotated_54 rfl ha (by decide) rfl (by decide) rfl (fun q65 => mpp 57 rfl ?_)
      refine mp_a (a_iload_n dX2_becomeRotated_57 rfl) (mpp 58 rfl ?_)
      refine mp_a (a_aload_n dX2_becomeRotated_58 rfl) (mpp 59 rfl ?_)
      refine mt_getR (i := 15) (k := 4) e62 dX2_becomeRotated_59 rfl hb (by decide) rfl (by decide) rfl (fun q66 => mpp 62 rfl ?_)
      refine mp_a (a_iload dX2_becomeRotated_62 rfl) (mpp 64 rfl ?_)
      refine mp_calls (i := 48) (q' := q_12) (As := [.ref (rv P59 b 4), .int (t + v3)]) (rest := [.int v3, .ref (rv P59 a 4)]) dX2_becomeRotated_64 rfl qm_12 (by decide) rfl (Nat.le_of_ble_eq_true rfl) rfl ⟨rfl, rfl⟩ ⟨Nat.le_of_ble_eq_true rfl, Nat.le_of_ble_eq_true rfl⟩ (EvP.mono (by decide) (c_at_creases e62 q66)) (fun r67 P68 g69 => mpp 67 rfl ?_)
      obtain ⟨⟨x70, rfl, g71, g72⟩, e73⟩ := g69
      have e73 := e73.symm
      subst e73
      show MEvP _ none q_34 67 [(4, .int (t + v3)), (3, .int v3), (0, .ref a), (1, .ref b), (2, .int t)] [.int x70, .int v3, .ref (rv P59 a 4)] _ _ _ _
      refine mp_calls (i := 29) (q' := q_22) (As := [.ref (rv P59 a 4), .int v3, .int x70]) (rest := []) dX2_becomeRotated_67 rfl qm_22 (by decide) rfl (Nat.le_of_ble_eq_true rfl) rfl ⟨rfl, rfl⟩ ⟨Nat.le_of_ble_eq_true rfl, Nat.le_of_ble_eq_true rfl⟩ (EvP.mono (by decide) (c_put_creases e62 q65)) (fun r75 P76 g77 => mpp 70 rfl ?_)
      obtain ⟨rfl, e79, k80⟩ := g77
      have k81 := KX.trans k64 k80
      show MEvP _ none q_34 70 [(4, .int (t + v3)), (3, .int v3), (0, .ref a), (1, .ref b), (2, .int t)] [] _ _ _ _
      refine mp_a (a_iinc (v := (v3 + 1)) (L' := [(3, .int (v3 + 1)), (4, .int (t + v3)), (0, .ref a), (1, .ref b), (2, .int t)]) dX2_becomeRotated_70 (by decide) rfl rfl rfl) (mpp 73 rfl ?_)
      try have e82 : (v3 + 1).toInt = v3.toInt + (1) := ti_add rfl rfl (by omega) (by omega)
      refine mp_a (a_goto (t := 2) dX2_becomeRotated_73 (by decide)) ?_
      exact ih _ (by omega) _ _ _ e79 k81 rfl

set_option maxHeartbeats 4000000 in
theorem c_becomeRotated {P : mP} {a b : Nat} {t : Int32} (hT : Typ P) (ha : rl a = 3) (hb : rl b = 3) : EvP 2 34 [.ref a, .ref b, .int t] P (fun r P' => r = none ∧ Typ P' ∧ KX P P') := by
  refine EvP.of qm_34 (Nat.le_of_ble_eq_true rfl) rfl ?_
  show MEvP _ none q_34 0 [(0, .ref a), (1, .ref b), (2, .int t)] [] _ 0 0 _
  refine mp_a (a_iconst (v := 0) dX2_becomeRotated_0 rfl) (mpp 1 rfl ?_)
  refine mp_a (a_istore_n (L' := [(3, .int 0), (0, .ref a), (1, .ref b), (2, .int t)]) dX2_becomeRotated_1 (by decide) rfl) (mpp 2 rfl ?_)
  refine mp_a (a_iload_n dX2_becomeRotated_2 rfl) (mpp 3 rfl ?_)
  refine mp_a (a_aload_n dX2_becomeRotated_3 rfl) (mpp 4 rfl ?_)
  refine mt_getI (i := 26) (k := 1) hT dX2_becomeRotated_4 rfl ha (by decide) rfl (by decide) rfl (fun g1 g2 => mpp 7 rfl ?_)
  refine mp_Tb (t := 76) (j_icmp_ge dX2_becomeRotated_7) (by decide) (fun c3 => ?_) (fun c3 => mpp 10 rfl ?_)
  · have c3 : 0 ≥ (fv P a 1).toInt := ti_ge c3
    exact mp_ret (⟨rfl, hT, (KX.refl P)⟩) dX2_becomeRotated_76 rfl
  · have c3 : 0 < (fv P a 1).toInt := ti_ge_n c3
    refine mp_a (a_iload_n dX2_becomeRotated_10 rfl) (mpp 11 rfl ?_)
    refine mp_a (a_iload_n dX2_becomeRotated_11 rfl) (mpp 12 rfl ?_)
    refine mp_t (s_iadd (v := (t + 0)) dX2_becomeRotated_12 rfl) (mpp 13 rfl ?_)
    try have e4 : (t + 0).toInt = t.toInt + 0 := ti_add rfl rfl (by omega) (by omega)
    refine mp_a (a_aload_n dX2_becomeRotated_13 rfl) (mpp 14 rfl ?_)
    refine mt_getI (i := 26) (k := 1) hT dX2_becomeRotated_14 rfl ha (by decide) rfl (by decide) rfl (fun g5 g6 => mpp 17 rfl ?_)
    refine mp_Tb (t := 26) (j_icmp_ge dX2_becomeRotated_17) (by decide) (fun c7 => ?_) (fun c7 => mpp 20 rfl ?_)
    · have c7 : (t + 0).toInt ≥ (fv P a 1).toInt := ti_ge c7
      refine mp_a (a_iload_n dX2_becomeRotated_26 rfl) (mpp 27 rfl ?_)
      refine mp_a (a_iload_n dX2_becomeRotated_27 rfl) (mpp 28 rfl ?_)
      refine mp_t (s_iadd (v := (t + 0)) dX2_becomeRotated_28 rfl) (mpp 29 rfl ?_)
      try have e8 : (t + 0).toInt = t.toInt + 0 := ti_add rfl rfl (by omega) (by omega)
      refine mp_a (a_aload_n dX2_becomeRotated_29 rfl) (mpp 30 rfl ?_)
      refine mt_getI (i := 26) (k := 1) hT dX2_becomeRotated_30 rfl ha (by decide) rfl (by decide) rfl (fun g9 g10 => mpp 33 rfl ?_)
      refine mp_t (s_isub (v := ((t + 0) - (fv P a 1))) dX2_becomeRotated_33 rfl) (mpp 34 rfl ?_)
      try have e11 : ((t + 0) - (fv P a 1)).toInt = (t + 0).toInt - (fv P a 1).toInt := ti_sub rfl rfl (by omega) (by omega)
      refine mp_a (a_istore (L' := [(4, .int ((t + 0) - (fv P a 1))), (3, .int 0), (0, .ref a), (1, .ref b), (2, .int t)]) dX2_becomeRotated_34 (by decide) rfl) (mpp 36 rfl ?_)
      refine mp_a (a_aload_n dX2_becomeRotated_36 rfl) (mpp 37 rfl ?_)
      refine mt_getR (i := 9) (k := 3) hT dX2_becomeRotated_37 rfl ha (by decide) rfl (by decide) rfl (fun q12 => mpp 40 rfl ?_)
      refine mp_a (a_iload_n dX2_becomeRotated_40 rfl) (mpp 41 rfl ?_)
      refine mp_a (a_aload_n dX2_becomeRotated_41 rfl) (mpp 42 rfl ?_)
      refine mt_getR (i := 9) (k := 3) hT dX2_becomeRotated_42 rfl hb (by decide) rfl (by decide) rfl (fun q13 => mpp 45 rfl ?_)
      refine mp_a (a_iload dX2_becomeRotated_45 rfl) (mpp 47 rfl ?_)
      refine mp_calls (i := 48) (q' := q_12) (As := [.ref (rv P b 3), .int ((t + 0) - (fv P a 1))]) (rest := [.int 0, .ref (rv P a 3)]) dX2_becomeRotated_47 rfl qm_12 (by decide) rfl (Nat.le_of_ble_eq_true rfl) rfl ⟨rfl, rfl⟩ ⟨Nat.le_of_ble_eq_true rfl, Nat.le_of_ble_eq_true rfl⟩ (EvP.mono (by decide) (c_at_sizes hT q13)) (fun r14 P15 g16 => mpp 50 rfl ?_)
      obtain ⟨⟨x17, rfl, g18, g19⟩, e20⟩ := g16
      have e20 := e20.symm
      subst e20
      show MEvP _ none q_34 50 [(4, .int ((t + 0) - (fv P a 1))), (3, .int 0), (0, .ref a), (1, .ref b), (2, .int t)] [.int x17, .int 0, .ref (rv P a 3)] _ _ _ _
      refine mp_calls (i := 29) (q' := q_22) (As := [.ref (rv P a 3), .int 0, .int x17]) (rest := []) dX2_becomeRotated_50 rfl qm_22 (by decide) rfl (Nat.le_of_ble_eq_true rfl) rfl ⟨rfl, rfl⟩ ⟨Nat.le_of_ble_eq_true rfl, Nat.le_of_ble_eq_true rfl⟩ (EvP.mono (by decide) (c_put_sizes hT q12)) (fun r22 P23 g24 => mpp 53 rfl ?_)
      obtain ⟨rfl, e26, k27⟩ := g24
      have k28 := KX.trans (KX.refl P) k27
      show MEvP _ none q_34 53 [(4, .int ((t + 0) - (fv P a 1))), (3, .int 0), (0, .ref a), (1, .ref b), (2, .int t)] [] _ _ _ _
      refine mp_a (a_aload_n dX2_becomeRotated_53 rfl) (mpp 54 rfl ?_)
      refine mt_getR (i := 15) (k := 4) e26 dX2_becomeRotated_54 rfl ha (by decide) rfl (by decide) rfl (fun q29 => mpp 57 rfl ?_)
      refine mp_a (a_iload_n dX2_becomeRotated_57 rfl) (mpp 58 rfl ?_)
      refine mp_a (a_aload_n dX2_becomeRotated_58 rfl) (mpp 59 rfl ?_)
      refine mt_getR (i := 15) (k := 4) e26 dX2_becomeRotated_59 rfl hb (by decide) rfl (by decide) rfl (fun q30 => mpp 62 rfl ?_)
      refine mp_a (a_iload dX2_becomeRotated_62 rfl) (mpp 64 rfl ?_)
      refine mp_calls (i := 48) (q' := q_12) (As := [.ref (rv P23 b 4), .int ((t + 0) - (fv P a 1))]) (rest := [.int 0, .ref (rv P23 a 4)]) dX2_becomeRotated_64 rfl qm_12 (by decide) rfl (Nat.le_of_ble_eq_true rfl) rfl ⟨rfl, rfl⟩ ⟨Nat.le_of_ble_eq_true rfl, Nat.le_of_ble_eq_true rfl⟩ (EvP.mono (by decide) (c_at_creases e26 q30)) (fun r31 P32 g33 => mpp 67 rfl ?_)
      obtain ⟨⟨x34, rfl, g35, g36⟩, e37⟩ := g33
      have e37 := e37.symm
      subst e37
      show MEvP _ none q_34 67 [(4, .int ((t + 0) - (fv P a 1))), (3, .int 0), (0, .ref a), (1, .ref b), (2, .int t)] [.int x34, .int 0, .ref (rv P23 a 4)] _ _ _ _
      refine mp_calls (i := 29) (q' := q_22) (As := [.ref (rv P23 a 4), .int 0, .int x34]) (rest := []) dX2_becomeRotated_67 rfl qm_22 (by decide) rfl (Nat.le_of_ble_eq_true rfl) rfl ⟨rfl, rfl⟩ ⟨Nat.le_of_ble_eq_true rfl, Nat.le_of_ble_eq_true rfl⟩ (EvP.mono (by decide) (c_put_creases e26 q29)) (fun r39 P40 g41 => mpp 70 rfl ?_)
      obtain ⟨rfl, e43, k44⟩ := g41
      have k45 := KX.trans k28 k44
      show MEvP _ none q_34 70 [(4, .int ((t + 0) - (fv P a 1))), (3, .int 0), (0, .ref a), (1, .ref b), (2, .int t)] [] _ _ _ _
      refine mp_a (a_iinc (v := 1) (L' := [(3, .int 1), (4, .int ((t + 0) - (fv P a 1))), (0, .ref a), (1, .ref b), (2, .int t)]) dX2_becomeRotated_70 (by decide) rfl rfl rfl) (mpp 73 rfl ?_)
      refine mp_a (a_goto (t := 2) dX2_becomeRotated_73 (by decide)) ?_
      exact c_becomeRotated_loop ha hb _ _ _ _ e43 k45 rfl
    · have c7 : (t + 0).toInt < (fv P a 1).toInt := ti_ge_n c7
      refine mp_a (a_iload_n dX2_becomeRotated_20 rfl) (mpp 21 rfl ?_)
      refine mp_a (a_iload_n dX2_becomeRotated_21 rfl) (mpp 22 rfl ?_)
      refine mp_t (s_iadd (v := (t + 0)) dX2_becomeRotated_22 rfl) (mpp 23 rfl ?_)
      try have e46 : (t + 0).toInt = t.toInt + 0 := ti_add rfl rfl (by omega) (by omega)
      refine mp_a (a_goto (t := 34) dX2_becomeRotated_23 (by decide)) ?_
      refine mp_a (a_istore (L' := [(4, .int (t + 0)), (3, .int 0), (0, .ref a), (1, .ref b), (2, .int t)]) dX2_becomeRotated_34 (by decide) rfl) (mpp 36 rfl ?_)
      refine mp_a (a_aload_n dX2_becomeRotated_36 rfl) (mpp 37 rfl ?_)
      refine mt_getR (i := 9) (k := 3) hT dX2_becomeRotated_37 rfl ha (by decide) rfl (by decide) rfl (fun q47 => mpp 40 rfl ?_)
      refine mp_a (a_iload_n dX2_becomeRotated_40 rfl) (mpp 41 rfl ?_)
      refine mp_a (a_aload_n dX2_becomeRotated_41 rfl) (mpp 42 rfl ?_)
      refine mt_getR (i := 9) (k := 3) hT dX2_becomeRotated_42 rfl hb (by decide) rfl (by decide) rfl (fun q48 => mpp 45 rfl ?_)
      refine mp_a (a_iload dX2_becomeRotated_45 rfl) (mpp 47 rfl ?_)
      refine mp_calls (i := 48) (q' := q_12) (As := [.ref (rv P b 3), .int (t + 0)]) (rest := [.int 0, .ref (rv P a 3)]) dX2_becomeRotated_47 rfl qm_12 (by decide) rfl (Nat.le_of_ble_eq_true rfl) rfl ⟨rfl, rfl⟩ ⟨Nat.le_of_ble_eq_true rfl, Nat.le_of_ble_eq_true rfl⟩ (EvP.mono (by decide) (c_at_sizes hT q48)) (fun r49 P50 g51 => mpp 50 rfl ?_)
      obtain ⟨⟨x52, rfl, g53, g54⟩, e55⟩ := g51
      have e55 := e55.symm
      subst e55
      show MEvP _ none q_34 50 [(4, .int (t + 0)), (3, .int 0), (0, .ref a), (1, .ref b), (2, .int t)] [.int x52, .int 0, .ref (rv P a 3)] _ _ _ _
      refine mp_calls (i := 29) (q' := q_22) (As := [.ref (rv P a 3), .int 0, .int x52]) (rest := []) dX2_becomeRotated_50 rfl qm_22 (by decide) rfl (Nat.le_of_ble_eq_true rfl) rfl ⟨rfl, rfl⟩ ⟨Nat.le_of_ble_eq_true rfl, Nat.le_of_ble_eq_true rfl⟩ (EvP.mono (by decide) (c_put_sizes hT q47)) (fun r57 P58 g59 => mpp 53 rfl ?_)
      obtain ⟨rfl, e61, k62⟩ := g59
      have k63 := KX.trans (KX.refl P) k62
      show MEvP _ none q_34 53 [(4, .int (t + 0)), (3, .int 0), (0, .ref a), (1, .ref b), (2, .int t)] [] _ _ _ _
      refine mp_a (a_aload_n dX2_becomeRotated_53 rfl) (mpp 54 rfl ?_)
      refine mt_getR (i := 15) (k := 4) e61 dX2_becomeRotated_54 rfl ha (by decide) rfl (by decide) rfl (fun q64 => mpp 57 rfl ?_)
      refine mp_a (a_iload_n dX2_becomeRotated_57 rfl) (mpp 58 rfl ?_)
      refine mp_a (a_aload_n dX2_becomeRotated_58 rfl) (mpp 59 rfl ?_)
      refine mt_getR (i := 15) (k := 4) e61 dX2_becomeRotated_59 rfl hb (by decide) rfl (by decide) rfl (fun q65 => mpp 62 rfl ?_)
      refine mp_a (a_iload dX2_becomeRotated_62 rfl) (mpp 64 rfl ?_)
      refine mp_calls (i := 48) (q' := q_12) (As := [.ref (rv P58 b 4), .int (t + 0)]) (rest := [.int 0, .ref (rv P58 a 4)]) dX2_becomeRotated_64 rfl qm_12 (by decide) rfl (Nat.le_of_ble_eq_true rfl) rfl ⟨rfl, rfl⟩ ⟨Nat.le_of_ble_eq_true rfl, Nat.le_of_ble_eq_true rfl⟩ (EvP.mono (by decide) (c_at_creases e61 q65)) (fun r66 P67 g68 => mpp 67 rfl ?_)
      obtain ⟨⟨x69, rfl, g70, g71⟩, e72⟩ := g68
      have e72 := e72.symm
      subst e72
      show MEvP _ none q_34 67 [(4, .int (t + 0)), (3, .int 0), (0, .ref a), (1, .ref b), (2, .int t)] [.int x69, .int 0, .ref (rv P58 a 4)] _ _ _ _
      refine mp_calls (i := 29) (q' := q_22) (As := [.ref (rv P58 a 4), .int 0, .int x69]) (rest := []) dX2_becomeRotated_67 rfl qm_22 (by decide) rfl (Nat.le_of_ble_eq_true rfl) rfl ⟨rfl, rfl⟩ ⟨Nat.le_of_ble_eq_true rfl, Nat.le_of_ble_eq_true rfl⟩ (EvP.mono (by decide) (c_put_creases e61 q64)) (fun r74 P75 g76 => mpp 70 rfl ?_)
      obtain ⟨rfl, e78, k79⟩ := g76
      have k80 := KX.trans k63 k79
      show MEvP _ none q_34 70 [(4, .int (t + 0)), (3, .int 0), (0, .ref a), (1, .ref b), (2, .int t)] [] _ _ _ _
      refine mp_a (a_iinc (v := 1) (L' := [(3, .int 1), (4, .int (t + 0)), (0, .ref a), (1, .ref b), (2, .int t)]) dX2_becomeRotated_70 (by decide) rfl rfl rfl) (mpp 73 rfl ?_)
      refine mp_a (a_goto (t := 2) dX2_becomeRotated_73 (by decide)) ?_
      exact c_becomeRotated_loop ha hb _ _ _ _ e78 k80 rfl

set_option maxHeartbeats 4000000 in
theorem c_pieceAt {P : mP} {a : Nat} {t : Int32} (hT : Typ P) (ha : rl a = 1) : EvP 1 9 [.ref a, .int t] P (fun r P' => (r = some .null ∨ ∃ b : Nat, r = some (.ref b) ∧ rl b = 3) ∧ P' = P) := by
  refine EvP.of qm_9 (Nat.le_of_ble_eq_true rfl) rfl ?_
  show MEvP _ none q_9 0 [(0, .ref a), (1, .int t)] [] _ 0 0 _
  refine mp_a (a_iload_n dX5_pieceAt_0 rfl) (mpp 1 rfl ?_)
  refine mp_Tb (t := 30) (j_if_lt dX5_pieceAt_1) (by decide) (fun c1 => ?_) (fun c1 => mpp 4 rfl ?_)
  · have c1 : t.toInt < 0 := ti_lt c1
    refine mp_a (a_null dX5_pieceAt_30) (mpp 31 rfl ?_)
    exact mp_aretN (⟨Or.inl rfl, rfl⟩) dX5_pieceAt_31 rfl
  · have c1 : t.toInt ≥ 0 := ti_lt_n c1
    refine mp_a (a_iload_n dX5_pieceAt_4 rfl) (mpp 5 rfl ?_)
    refine mp_a (a_aload_n dX5_pieceAt_5 rfl) (mpp 6 rfl ?_)
    refine mt_getI (i := 22) (k := 1) hT dX5_pieceAt_6 rfl ha (by decide) rfl (by decide) rfl (fun g2 g3 => mpp 9 rfl ?_)
    refine mp_Tb (t := 30) (j_icmp_ge dX5_pieceAt_9) (by decide) (fun c4 => ?_) (fun c4 => mpp 12 rfl ?_)
    · have c4 : t.toInt ≥ (fv P a 1).toInt := ti_ge c4
      refine mp_a (a_null dX5_pieceAt_30) (mpp 31 rfl ?_)
      exact mp_aretN (⟨Or.inl rfl, rfl⟩) dX5_pieceAt_31 rfl
    · have c4 : t.toInt < (fv P a 1).toInt := ti_ge_n c4
      refine mp_a (a_iload_n dX5_pieceAt_12 rfl) (mpp 13 rfl ?_)
      refine mp_a (a_aload_n dX5_pieceAt_13 rfl) (mpp 14 rfl ?_)
      refine mt_getR (i := 11) (k := 0) hT dX5_pieceAt_14 rfl ha (by decide) rfl (by decide) rfl (fun q5 => mpp 17 rfl ?_)
      refine mt_len (n := 8) hT dX5_pieceAt_17 q5 (by decide) (by decide) rfl (mpp 18 rfl ?_)
      refine mp_Tb (t := 30) (j_icmp_ge dX5_pieceAt_18) (by decide) (fun c6 => ?_) (fun c6 => mpp 21 rfl ?_)
      · have c6 : t.toInt ≥ 8 := ti_ge c6
        refine mp_a (a_null dX5_pieceAt_30) (mpp 31 rfl ?_)
        exact mp_aretN (⟨Or.inl rfl, rfl⟩) dX5_pieceAt_31 rfl
      · have c6 : t.toInt < 8 := ti_ge_n c6
        refine mp_a (a_aload_n dX5_pieceAt_21 rfl) (mpp 22 rfl ?_)
        refine mt_getR (i := 11) (k := 0) hT dX5_pieceAt_22 rfl ha (by decide) rfl (by decide) rfl (fun q7 => mpp 25 rfl ?_)
        refine mp_a (a_iload_n dX5_pieceAt_25 rfl) (mpp 26 rfl ?_)
        refine mt_aal (n := 8) hT dX5_pieceAt_26 q7 (by decide) (by decide) rfl (by omega) (by omega) rfl (fun q8 => mpp 27 rfl ?_)
        refine mp_a (a_goto (t := 31) dX5_pieceAt_27 (by decide)) ?_
        exact mp_aret (⟨Or.inr ⟨_, rfl, q8⟩, rfl⟩) dX5_pieceAt_31 rfl

set_option maxHeartbeats 4000000 in
theorem c_copyState_loop {Po : mP} {a b : Nat} (ha : rl a = 1) (hb : rl b = 1) : ∀ (n : Nat) (v2 : Int32) (w4 : Value) (w3 : Value) (P : mP), Typ P → KX Po P → (2147483647 - v2.toInt).toNat = n → MEvP 2 none q_17 26 [(2, .int v2), (4, w4), (3, w3), (0, .ref a), (1, .ref b)] [] P 0 0 (fun r P' => r = none ∧ Typ P' ∧ KX Po P') := by
  intro n
  induction n using Nat.strongRecOn with | _ n ih => ?_
  intro v2 w4 w3 P hT hK hm
  have w_v2 := ti_full v2
  refine mp_a (a_iload_n dX5_copyFrom_26 rfl) (mpp 27 rfl ?_)
  refine mp_a (a_aload_n dX5_copyFrom_27 rfl) (mpp 28 rfl ?_)
  refine mt_getI (i := 22) (k := 1) hT dX5_copyFrom_28 rfl ha (by decide) rfl (by decide) rfl (fun g1 g2 => mpp 31 rfl ?_)
  refine mp_Tb (t := 68) (j_icmp_ge dX5_copyFrom_31) (by decide) (fun c3 => ?_) (fun c3 => mpp 34 rfl ?_)
  · have c3 : v2.toInt ≥ (fv P a 1).toInt := ti_ge c3
    exact mp_ret (⟨rfl, hT, hK⟩) dX5_copyFrom_68 rfl
  · have c3 : v2.toInt < (fv P a 1).toInt := ti_ge_n c3
    refine mp_a (a_aload_n dX5_copyFrom_34 rfl) (mpp 35 rfl ?_)
    refine mp_a (a_iload_n dX5_copyFrom_35 rfl) (mpp 36 rfl ?_)
    refine mt_callv (i := 28) (q' := q_9) (As := [.int v2]) (rest := []) hT dX5_copyFrom_36 rfl qm_9 (by decide) rfl ha (by decide) rfl (Nat.le_of_ble_eq_true rfl) rfl ⟨rfl, rfl⟩ ⟨Nat.le_of_ble_eq_true rfl, Nat.le_of_ble_eq_true rfl⟩ (EvP.mono (by decide) (c_pieceAt hT ha)) (fun r4 P5 g6 => mpp 39 rfl ?_)
    obtain ⟨g6, e7⟩ := g6
    have e7 := e7.symm
    subst e7
    rcases g6 with rfl | ⟨b8, rfl, q9⟩
    · show MEvP _ none q_17 39 [(2, .int v2), (4, w4), (3, w3), (0, .ref a), (1, .ref b)] [.null] _ _ _ _
      refine mp_a (a_astore_nN (L' := [(3, .null), (2, .int v2), (4, w4), (0, .ref a), (1, .ref b)]) dX5_copyFrom_39 (by decide) rfl) (mpp 40 rfl ?_)
      refine mp_a (a_aload_n dX5_copyFrom_40 rfl) (mpp 41 rfl ?_)
      refine mp_a (a_iload_n dX5_copyFrom_41 rfl) (mpp 42 rfl ?_)
      refine mt_callv (i := 28) (q' := q_9) (As := [.int v2]) (rest := []) hT dX5_copyFrom_42 rfl qm_9 (by decide) rfl hb (by decide) rfl (Nat.le_of_ble_eq_true rfl) rfl ⟨rfl, rfl⟩ ⟨Nat.le_of_ble_eq_true rfl, Nat.le_of_ble_eq_true rfl⟩ (EvP.mono (by decide) (c_pieceAt hT hb)) (fun r10 P11 g12 => mpp 45 rfl ?_)
      obtain ⟨g12, e13⟩ := g12
      have e13 := e13.symm
      subst e13
      rcases g12 with rfl | ⟨b14, rfl, q15⟩
      · show MEvP _ none q_17 45 [(3, .null), (2, .int v2), (4, w4), (0, .ref a), (1, .ref b)] [.null] _ _ _ _
        refine mp_a (a_astoreN (L' := [(4, .null), (3, .null), (2, .int v2), (0, .ref a), (1, .ref b)]) dX5_copyFrom_45 (by decide) rfl) (mpp 47 rfl ?_)
        refine mp_a (a_aload_nN dX5_copyFrom_47 rfl) (mpp 48 rfl ?_)
        refine mp_t (s_ifnullN (t := 62) dX5_copyFrom_48 (by decide)) ?_
        refine mp_a (a_iinc (v := (v2 + 1)) (L' := [(2, .int (v2 + 1)), (4, .null), (3, .null), (0, .ref a), (1, .ref b)]) dX5_copyFrom_62 (by decide) rfl rfl rfl) (mpp 65 rfl ?_)
        try have e16 : (v2 + 1).toInt = v2.toInt + (1) := ti_add rfl rfl (by omega) (by omega)
        refine mp_a (a_goto (t := 26) dX5_copyFrom_65 (by decide)) ?_
        exact ih _ (by omega) _ _ _ _ hT hK rfl
      · show MEvP _ none q_17 45 [(3, .null), (2, .int v2), (4, w4), (0, .ref a), (1, .ref b)] [.ref b14] _ _ _ _
        refine mp_a (a_astore (L' := [(4, .ref b14), (3, .null), (2, .int v2), (0, .ref a), (1, .ref b)]) dX5_copyFrom_45 (by decide) rfl) (mpp 47 rfl ?_)
        refine mp_a (a_aload_nN dX5_copyFrom_47 rfl) (mpp 48 rfl ?_)
        refine mp_t (s_ifnullN (t := 62) dX5_copyFrom_48 (by decide)) ?_
        refine mp_a (a_iinc (v := (v2 + 1)) (L' := [(2, .int (v2 + 1)), (4, .ref b14), (3, .null), (0, .ref a), (1, .ref b)]) dX5_copyFrom_62 (by decide) rfl rfl rfl) (mpp 65 rfl ?_)
        try have e17 : (v2 + 1).toInt = v2.toInt + (1) := ti_add rfl rfl (by omega) (by omega)
        refine mp_a (a_goto (t := 26) dX5_copyFrom_65 (by decide)) ?_
        exact ih _ (by omega) _ _ _ _ hT hK rfl
    · show MEvP _ none q_17 39 [(2, .int v2), (4, w4), (3, w3), (0, .ref a), (1, .ref b)] [.ref b8] _ _ _ _
      refine mp_a (a_astore_n (L' := [(3, .ref b8), (2, .int v2), (4, w4), (0, .ref a), (1, .ref b)]) dX5_copyFrom_39 (by decide) rfl) (mpp 40 rfl ?_)
      refine mp_a (a_aload_n dX5_copyFrom_40 rfl) (mpp 41 rfl ?_)
      refine mp_a (a_iload_n dX5_copyFrom_41 rfl) (mpp 42 rfl ?_)
      refine mt_callv (i := 28) (q' := q_9) (As := [.int v2]) (rest := []) hT dX5_copyFrom_42 rfl qm_9 (by decide) rfl hb (by decide) rfl (Nat.le_of_ble_eq_true rfl) rfl ⟨rfl, rfl⟩ ⟨Nat.le_of_ble_eq_true rfl, Nat.le_of_ble_eq_true rfl⟩ (EvP.mono (by decide) (c_pieceAt hT hb)) (fun r18 P19 g20 => mpp 45 rfl ?_)
      obtain ⟨g20, e21⟩ := g20
      have e21 := e21.symm
      subst e21
      rcases g20 with rfl | ⟨b22, rfl, q23⟩
      · show MEvP _ none q_17 45 [(3, .ref b8), (2, .int v2), (4, w4), (0, .ref a), (1, .ref b)] [.null] _ _ _ _
        refine mp_a (a_astoreN (L' := [(4, .null), (3, .ref b8), (2, .int v2), (0, .ref a), (1, .ref b)]) dX5_copyFrom_45 (by decide) rfl) (mpp 47 rfl ?_)
        refine mp_a (a_aload_n dX5_copyFrom_47 rfl) (mpp 48 rfl ?_)
        refine mp_t (s_ifnullR dX5_copyFrom_48) (mpp 51 rfl ?_)
        refine mp_a (a_aloadN dX5_copyFrom_51 rfl) (mpp 53 rfl ?_)
        refine mp_t (s_ifnullN (t := 62) dX5_copyFrom_53 (by decide)) ?_
        refine mp_a (a_iinc (v := (v2 + 1)) (L' := [(2, .int (v2 + 1)), (4, .null), (3, .ref b8), (0, .ref a), (1, .ref b)]) dX5_copyFrom_62 (by decide) rfl rfl rfl) (mpp 65 rfl ?_)
        try have e24 : (v2 + 1).toInt = v2.toInt + (1) := ti_add rfl rfl (by omega) (by omega)
        refine mp_a (a_goto (t := 26) dX5_copyFrom_65 (by decide)) ?_
        exact ih _ (by omega) _ _ _ _ hT hK rfl
      · show MEvP _ none q_17 45 [(3, .ref b8), (2, .int v2), (4, w4), (0, .ref a), (1, .ref b)] [.ref b22] _ _ _ _
        refine mp_a (a_astore (L' := [(4, .ref b22), (3, .ref b8), (2, .int v2), (0, .ref a), (1, .ref b)]) dX5_copyFrom_45 (by decide) rfl) (mpp 47 rfl ?_)
        refine mp_a (a_aload_n dX5_copyFrom_47 rfl) (mpp 48 rfl ?_)
        refine mp_t (s_ifnullR dX5_copyFrom_48) (mpp 51 rfl ?_)
        refine mp_a (a_aload dX5_copyFrom_51 rfl) (mpp 53 rfl ?_)
        refine mp_t (s_ifnullR dX5_copyFrom_53) (mpp 56 rfl ?_)
        refine mp_a (a_aload_n dX5_copyFrom_56 rfl) (mpp 57 rfl ?_)
        refine mp_a (a_aload dX5_copyFrom_57 rfl) (mpp 59 rfl ?_)
        refine mt_callv (i := 32) (q' := q_18) (As := [.ref b22]) (rest := []) hT dX5_copyFrom_59 rfl qm_18 (by decide) rfl q9 (by decide) rfl (Nat.le_of_ble_eq_true rfl) rfl ⟨rfl, rfl⟩ ⟨Nat.le_of_ble_eq_true rfl, Nat.le_of_ble_eq_true rfl⟩ (EvP.mono (by decide) (c_copyPiece hT q9 q23)) (fun r25 P26 g27 => mpp 62 rfl ?_)
        obtain ⟨rfl, e29, k30⟩ := g27
        have k31 := KX.trans hK k30
        show MEvP _ none q_17 62 [(4, .ref b22), (3, .ref b8), (2, .int v2), (0, .ref a), (1, .ref b)] [] _ _ _ _
        refine mp_a (a_iinc (v := (v2 + 1)) (L' := [(2, .int (v2 + 1)), (4, .ref b22), (3, .ref b8), (0, .ref a), (1, .ref b)]) dX5_copyFrom_62 (by decide) rfl rfl rfl) (mpp 65 rfl ?_)
        try have e32 : (v2 + 1).toInt = v2.toInt + (1) := ti_add rfl rfl (by omega) (by omega)
        refine mp_a (a_goto (t := 26) dX5_copyFrom_65 (by decide)) ?_
        exact ih _ (by omega) _ _ _ _ e29 k31 rfl

set_option maxHeartbeats 4000000 in
theorem c_copyState {P : mP} {a b : Nat} (hT : Typ P) (ha : rl a = 1) (hb : rl b = 1) : EvP 3 17 [.ref a, .ref b] P (fun r P' => r = none ∧ Typ P' ∧ KX P P') := by
  refine EvP.of qm_17 (Nat.le_of_ble_eq_true rfl) rfl ?_
  show MEvP _ none q_17 0 [(0, .ref a), (1, .ref b)] [] _ 0 0 _
  refine mp_a (a_aload_n dX5_copyFrom_0 rfl) (mpp 1 rfl ?_)
  refine mp_a (a_aload_n dX5_copyFrom_1 rfl) (mpp 2 rfl ?_)
  refine mt_getI (i := 22) (k := 1) hT dX5_copyFrom_2 rfl hb (by decide) rfl (by decide) rfl (fun g1 g2 => mpp 5 rfl ?_)
  refine mt_putI (i := 22) (k := 1) (x := (fv P b 1)) hT dX5_copyFrom_5 rfl ha (by decide) rfl (by decide) rfl (ti_full (fv P b 1)) rfl rfl (fun P3 hT4 f5 f6 => mpp 8 rfl ?_)
  have k7 := KX.step (KX.refl P) ha (by decide) f6
  refine mp_a (a_aload_n dX5_copyFrom_8 rfl) (mpp 9 rfl ?_)
  refine mp_a (a_aload_n dX5_copyFrom_9 rfl) (mpp 10 rfl ?_)
  refine mt_getI (i := 17) (k := 2) hT4 dX5_copyFrom_10 rfl hb (by decide) rfl (by decide) rfl (fun g8 g9 => mpp 13 rfl ?_)
  refine mt_putI (i := 17) (k := 2) (x := (fv P3 b 2)) hT4 dX5_copyFrom_13 rfl ha (by decide) rfl (by decide) rfl (ti_full (fv P3 b 2)) rfl rfl (fun P10 hT11 f12 f13 => mpp 16 rfl ?_)
  have k14 := KX.step k7 ha (by decide) f13
  refine mp_a (a_aload_n dX5_copyFrom_16 rfl) (mpp 17 rfl ?_)
  refine mp_a (a_aload_n dX5_copyFrom_17 rfl) (mpp 18 rfl ?_)
  refine mt_getI (i := 25) (k := 3) hT11 dX5_copyFrom_18 rfl hb (by decide) rfl (by decide) rfl (fun g15 g16 => mpp 21 rfl ?_)
  refine mt_putI (i := 25) (k := 3) (x := (fv P10 b 3)) hT11 dX5_copyFrom_21 rfl ha (by decide) rfl (by decide) rfl (ti_full (fv P10 b 3)) rfl rfl (fun P17 hT18 f19 f20 => mpp 24 rfl ?_)
  have k21 := KX.step k14 ha (by decide) f20
  refine mp_a (a_iconst (v := 0) dX5_copyFrom_24 rfl) (mpp 25 rfl ?_)
  refine mp_a (a_istore_n (L' := [(2, .int 0), (0, .ref a), (1, .ref b)]) dX5_copyFrom_25 (by decide) rfl) (mpp 26 rfl ?_)
  refine mp_a (a_iload_n dX5_copyFrom_26 rfl) (mpp 27 rfl ?_)
  refine mp_a (a_aload_n dX5_copyFrom_27 rfl) (mpp 28 rfl ?_)
  refine mt_getI (i := 22) (k := 1) hT18 dX5_copyFrom_28 rfl ha (by decide) rfl (by decide) rfl (fun g22 g23 => mpp 31 rfl ?_)
  refine mp_Tb (t := 68) (j_icmp_ge dX5_copyFrom_31) (by decide) (fun c24 => ?_) (fun c24 => mpp 34 rfl ?_)
  · have c24 : 0 ≥ (fv P17 a 1).toInt := ti_ge c24
    exact mp_ret (⟨rfl, hT18, k21⟩) dX5_copyFrom_68 rfl
  · have c24 : 0 < (fv P17 a 1).toInt := ti_ge_n c24
    refine mp_a (a_aload_n dX5_copyFrom_34 rfl) (mpp 35 rfl ?_)
    refine mp_a (a_iload_n dX5_copyFrom_35 rfl) (mpp 36 rfl ?_)
    refine mt_callv (i := 28) (q' := q_9) (As := [.int 0]) (rest := []) hT18 dX5_copyFrom_36 rfl qm_9 (by decide) rfl ha (by decide) rfl (Nat.le_of_ble_eq_true rfl) rfl ⟨rfl, rfl⟩ ⟨Nat.le_of_ble_eq_true rfl, Nat.le_of_ble_eq_true rfl⟩ (EvP.mono (by decide) (c_pieceAt hT18 ha)) (fun r25 P26 g27 => mpp 39 rfl ?_)
    obtain ⟨g27, e28⟩ := g27
    have e28 := e28.symm
    subst e28
    rcases g27 with rfl | ⟨b29, rfl, q30⟩
    · show MEvP _ none q_17 39 [(2, .int 0), (0, .ref a), (1, .ref b)] [.null] _ _ _ _
      refine mp_a (a_astore_nN (L' := [(3, .null), (2, .int 0), (0, .ref a), (1, .ref b)]) dX5_copyFrom_39 (by decide) rfl) (mpp 40 rfl ?_)
      refine mp_a (a_aload_n dX5_copyFrom_40 rfl) (mpp 41 rfl ?_)
      refine mp_a (a_iload_n dX5_copyFrom_41 rfl) (mpp 42 rfl ?_)
      refine mt_callv (i := 28) (q' := q_9) (As := [.int 0]) (rest := []) hT18 dX5_copyFrom_42 rfl qm_9 (by decide) rfl hb (by decide) rfl (Nat.le_of_ble_eq_true rfl) rfl ⟨rfl, rfl⟩ ⟨Nat.le_of_ble_eq_true rfl, Nat.le_of_ble_eq_true rfl⟩ (EvP.mono (by decide) (c_pieceAt hT18 hb)) (fun r31 P32 g33 => mpp 45 rfl ?_)
      obtain ⟨g33, e34⟩ := g33
      have e34 := e34.symm
      subst e34
      rcases g33 with rfl | ⟨b35, rfl, q36⟩
      · show MEvP _ none q_17 45 [(3, .null), (2, .int 0), (0, .ref a), (1, .ref b)] [.null] _ _ _ _
        refine mp_a (a_astoreN (L' := [(4, .null), (3, .null), (2, .int 0), (0, .ref a), (1, .ref b)]) dX5_copyFrom_45 (by decide) rfl) (mpp 47 rfl ?_)
        refine mp_a (a_aload_nN dX5_copyFrom_47 rfl) (mpp 48 rfl ?_)
        refine mp_t (s_ifnullN (t := 62) dX5_copyFrom_48 (by decide)) ?_
        refine mp_a (a_iinc (v := 1) (L' := [(2, .int 1), (4, .null), (3, .null), (0, .ref a), (1, .ref b)]) dX5_copyFrom_62 (by decide) rfl rfl rfl) (mpp 65 rfl ?_)
        refine mp_a (a_goto (t := 26) dX5_copyFrom_65 (by decide)) ?_
        exact c_copyState_loop ha hb _ _ _ _ _ hT18 k21 rfl
      · show MEvP _ none q_17 45 [(3, .null), (2, .int 0), (0, .ref a), (1, .ref b)] [.ref b35] _ _ _ _
        refine mp_a (a_astore (L' := [(4, .ref b35), (3, .null), (2, .int 0), (0, .ref a), (1, .ref b)]) dX5_copyFrom_45 (by decide) rfl) (mpp 47 rfl ?_)
        refine mp_a (a_aload_nN dX5_copyFrom_47 rfl) (mpp 48 rfl ?_)
        refine mp_t (s_ifnullN (t := 62) dX5_copyFrom_48 (by decide)) ?_
        refine mp_a (a_iinc (v := 1) (L' := [(2, .int 1), (4, .ref b35), (3, .null), (0, .ref a), (1, .ref b)]) dX5_copyFrom_62 (by decide) rfl rfl rfl) (mpp 65 rfl ?_)
        refine mp_a (a_goto (t := 26) dX5_copyFrom_65 (by decide)) ?_
        exact c_copyState_loop ha hb _ _ _ _ _ hT18 k21 rfl
    · show MEvP _ none q_17 39 [(2, .int 0), (0, .ref a), (1, .ref b)] [.ref b29] _ _ _ _
      refine mp_a (a_astore_n (L' := [(3, .ref b29), (2, .int 0), (0, .ref a), (1, .ref b)]) dX5_copyFrom_39 (by decide) rfl) (mpp 40 rfl ?_)
      refine mp_a (a_aload_n dX5_copyFrom_40 rfl) (mpp 41 rfl ?_)
      refine mp_a (a_iload_n dX5_copyFrom_41 rfl) (mpp 42 rfl ?_)
      refine mt_callv (i := 28) (q' := q_9) (As := [.int 0]) (rest := []) hT18 dX5_copyFrom_42 rfl qm_9 (by decide) rfl hb (by decide) rfl (Nat.le_of_ble_eq_true rfl) rfl ⟨rfl, rfl⟩ ⟨Nat.le_of_ble_eq_true rfl, Nat.le_of_ble_eq_true rfl⟩ (EvP.mono (by decide) (c_pieceAt hT18 hb)) (fun r37 P38 g39 => mpp 45 rfl ?_)
      obtain ⟨g39, e40⟩ := g39
      have e40 := e40.symm
      subst e40
      rcases g39 with rfl | ⟨b41, rfl, q42⟩
      · show MEvP _ none q_17 45 [(3, .ref b29), (2, .int 0), (0, .ref a), (1, .ref b)] [.null] _ _ _ _
        refine mp_a (a_astoreN (L' := [(4, .null), (3, .ref b29), (2, .int 0), (0, .ref a), (1, .ref b)]) dX5_copyFrom_45 (by decide) rfl) (mpp 47 rfl ?_)
        refine mp_a (a_aload_n dX5_copyFrom_47 rfl) (mpp 48 rfl ?_)
        refine mp_t (s_ifnullR dX5_copyFrom_48) (mpp 51 rfl ?_)
        refine mp_a (a_aloadN dX5_copyFrom_51 rfl) (mpp 53 rfl ?_)
        refine mp_t (s_ifnullN (t := 62) dX5_copyFrom_53 (by decide)) ?_
        refine mp_a (a_iinc (v := 1) (L' := [(2, .int 1), (4, .null), (3, .ref b29), (0, .ref a), (1, .ref b)]) dX5_copyFrom_62 (by decide) rfl rfl rfl) (mpp 65 rfl ?_)
        refine mp_a (a_goto (t := 26) dX5_copyFrom_65 (by decide)) ?_
        exact c_copyState_loop ha hb _ _ _ _ _ hT18 k21 rfl
      · show MEvP _ none q_17 45 [(3, .ref b29), (2, .int 0), (0, .ref a), (1, .ref b)] [.ref b41] _ _ _ _
        refine mp_a (a_astore (L' := [(4, .ref b41), (3, .ref b29), (2, .int 0), (0, .ref a), (1, .ref b)]) dX5_copyFrom_45 (by decide) rfl) (mpp 47 rfl ?_)
        refine mp_a (a_aload_n dX5_copyFrom_47 rfl) (mpp 48 rfl ?_)
        refine mp_t (s_ifnullR dX5_copyFrom_48) (mpp 51 rfl ?_)
        refine mp_a (a_aload dX5_copyFrom_51 rfl) (mpp 53 rfl ?_)
        refine mp_t (s_ifnullR dX5_copyFrom_53) (mpp 56 rfl ?_)
        refine mp_a (a_aload_n dX5_copyFrom_56 rfl) (mpp 57 rfl ?_)
        refine mp_a (a_aload dX5_copyFrom_57 rfl) (mpp 59 rfl ?_)
        refine mt_callv (i := 32) (q' := q_18) (As := [.ref b41]) (rest := []) hT18 dX5_copyFrom_59 rfl qm_18 (by decide) rfl q30 (by decide) rfl (Nat.le_of_ble_eq_true rfl) rfl ⟨rfl, rfl⟩ ⟨Nat.le_of_ble_eq_true rfl, Nat.le_of_ble_eq_true rfl⟩ (EvP.mono (by decide) (c_copyPiece hT18 q30 q42)) (fun r43 P44 g45 => mpp 62 rfl ?_)
        obtain ⟨rfl, e47, k48⟩ := g45
        have k49 := KX.trans k21 k48
        show MEvP _ none q_17 62 [(4, .ref b41), (3, .ref b29), (2, .int 0), (0, .ref a), (1, .ref b)] [] _ _ _ _
        refine mp_a (a_iinc (v := 1) (L' := [(2, .int 1), (4, .ref b41), (3, .ref b29), (0, .ref a), (1, .ref b)]) dX5_copyFrom_62 (by decide) rfl rfl rfl) (mpp 65 rfl ?_)
        refine mp_a (a_goto (t := 26) dX5_copyFrom_65 (by decide)) ?_
        exact c_copyState_loop ha hb _ _ _ _ _ e47 k49 rfl

set_option maxHeartbeats 4000000 in
theorem c_addCopyOf {P : mP} {a b : Nat} (hT : Typ P) (ha : rl a = 1) (hb : rl b = 3) : EvP 3 27 [.ref a, .ref b] P (fun r P' => r = none ∧ Typ P' ∧ KX P P') := by
  refine EvP.of qm_27 (Nat.le_of_ble_eq_true rfl) rfl ?_
  show MEvP _ none q_27 0 [(0, .ref a), (1, .ref b)] [] _ 0 0 _
  refine mp_a (a_aload_n dX5_addCopyOf_0 rfl) (mpp 1 rfl ?_)
  refine mt_getI (i := 22) (k := 1) hT dX5_addCopyOf_1 rfl ha (by decide) rfl (by decide) rfl (fun g1 g2 => mpp 4 rfl ?_)
  refine mp_a (a_aload_n dX5_addCopyOf_4 rfl) (mpp 5 rfl ?_)
  refine mt_getR (i := 11) (k := 0) hT dX5_addCopyOf_5 rfl ha (by decide) rfl (by decide) rfl (fun q3 => mpp 8 rfl ?_)
  refine mt_len (n := 8) hT dX5_addCopyOf_8 q3 (by decide) (by decide) rfl (mpp 9 rfl ?_)
  refine mp_Tb (t := 13) (j_icmp_lt dX5_addCopyOf_9) (by decide) (fun c4 => ?_) (fun c4 => mpp 12 rfl ?_)
  · have c4 : (fv P a 1).toInt < 8 := ti_lt c4
    refine mp_a (a_aload_n dX5_addCopyOf_13 rfl) (mpp 14 rfl ?_)
    refine mp_t (s_dup dX5_addCopyOf_14 rfl) (mpp 15 rfl ?_)
    refine mt_getI (i := 22) (k := 1) hT dX5_addCopyOf_15 rfl ha (by decide) rfl (by decide) rfl (fun g5 g6 => mpp 18 rfl ?_)
    refine mp_a (a_iconst (v := 1) dX5_addCopyOf_18 rfl) (mpp 19 rfl ?_)
    refine mp_t (s_iadd (v := ((fv P a 1) + 1)) dX5_addCopyOf_19 rfl) (mpp 20 rfl ?_)
    try have e7 : ((fv P a 1) + 1).toInt = (fv P a 1).toInt + 1 := ti_add rfl rfl (by omega) (by omega)
    refine mt_putI (i := 22) (k := 1) (x := ((fv P a 1) + 1)) hT dX5_addCopyOf_20 rfl ha (by decide) rfl (by decide) rfl (ti_full ((fv P a 1) + 1)) rfl rfl (fun P8 hT9 f10 f11 => mpp 23 rfl ?_)
    have k12 := KX.step (KX.refl P) ha (by decide) f11
    refine mp_a (a_aload_n dX5_addCopyOf_23 rfl) (mpp 24 rfl ?_)
    refine mp_a (a_aload_n dX5_addCopyOf_24 rfl) (mpp 25 rfl ?_)
    refine mt_getI (i := 22) (k := 1) hT9 dX5_addCopyOf_25 rfl ha (by decide) rfl (by decide) rfl (fun g13 g14 => mpp 28 rfl ?_)
    refine mp_a (a_iconst (v := 1) dX5_addCopyOf_28 rfl) (mpp 29 rfl ?_)
    refine mp_t (s_isub (v := ((fv P8 a 1) - 1)) dX5_addCopyOf_29 rfl) (mpp 30 rfl ?_)
    try have e15 : ((fv P8 a 1) - 1).toInt = (fv P8 a 1).toInt - 1 := ti_sub rfl rfl (by omega) (by omega)
    refine mt_callv (i := 28) (q' := q_9) (As := [.int ((fv P8 a 1) - 1)]) (rest := []) hT9 dX5_addCopyOf_30 rfl qm_9 (by decide) rfl ha (by decide) rfl (Nat.le_of_ble_eq_true rfl) rfl ⟨rfl, rfl⟩ ⟨Nat.le_of_ble_eq_true rfl, Nat.le_of_ble_eq_true rfl⟩ (EvP.mono (by decide) (c_pieceAt hT9 ha)) (fun r16 P17 g18 => mpp 33 rfl ?_)
    obtain ⟨g18, e19⟩ := g18
    have e19 := e19.symm
    subst e19
    rcases g18 with rfl | ⟨b20, rfl, q21⟩
    · show MEvP _ none q_27 33 [(0, .ref a), (1, .ref b)] [.null] _ _ _ _
      refine mp_a (a_astore_nN (L' := [(2, .null), (0, .ref a), (1, .ref b)]) dX5_addCopyOf_33 (by decide) rfl) (mpp 34 rfl ?_)
      refine mp_a (a_aload_nN dX5_addCopyOf_34 rfl) (mpp 35 rfl ?_)
      refine mp_t (s_ifnullN (t := 43) dX5_addCopyOf_35 (by decide)) ?_
      exact mp_ret (⟨rfl, hT9, k12⟩) dX5_addCopyOf_43 rfl
    · show MEvP _ none q_27 33 [(0, .ref a), (1, .ref b)] [.ref b20] _ _ _ _
      refine mp_a (a_astore_n (L' := [(2, .ref b20), (0, .ref a), (1, .ref b)]) dX5_addCopyOf_33 (by decide) rfl) (mpp 34 rfl ?_)
      refine mp_a (a_aload_n dX5_addCopyOf_34 rfl) (mpp 35 rfl ?_)
      refine mp_t (s_ifnullR dX5_addCopyOf_35) (mpp 38 rfl ?_)
      refine mp_a (a_aload_n dX5_addCopyOf_38 rfl) (mpp 39 rfl ?_)
      refine mp_a (a_aload_n dX5_addCopyOf_39 rfl) (mpp 40 rfl ?_)
      refine mt_callv (i := 32) (q' := q_18) (As := [.ref b]) (rest := []) hT9 dX5_addCopyOf_40 rfl qm_18 (by decide) rfl q21 (by decide) rfl (Nat.le_of_ble_eq_true rfl) rfl ⟨rfl, rfl⟩ ⟨Nat.le_of_ble_eq_true rfl, Nat.le_of_ble_eq_true rfl⟩ (EvP.mono (by decide) (c_copyPiece hT9 q21 hb)) (fun r22 P23 g24 => mpp 43 rfl ?_)
      obtain ⟨rfl, e26, k27⟩ := g24
      have k28 := KX.trans k12 k27
      show MEvP _ none q_27 43 [(2, .ref b20), (0, .ref a), (1, .ref b)] [] _ _ _ _
      exact mp_ret (⟨rfl, e26, k28⟩) dX5_addCopyOf_43 rfl
  · have c4 : (fv P a 1).toInt ≥ 8 := ti_lt_n c4
    exact mp_ret (⟨rfl, hT, (KX.refl P)⟩) dX5_addCopyOf_12 rfl

set_option maxHeartbeats 4000000 in
theorem c_occupied_loop {Po : mP} {a : Nat} (ha : rl a = 1) : ∀ (n : Nat) (v2 : Int32) (w3 : Value) (v1 : Int32) (P : mP), Typ P → KX Po P → (2147483647 - v2.toInt).toNat = n → MEvP 4 none q_8 4 [(2, .int v2), (3, w3), (1, .int v1), (0, .ref a)] [] P 0 0 (fun r P' => (∃ x : Int32, r = some (.int x) ∧ (-2147483648 : Int) ≤ x.toInt ∧ x.toInt ≤ 2147483647) ∧ Typ P' ∧ KX Po P') := by
  intro n
  induction n using Nat.strongRecOn with | _ n ih => ?_
  intro v2 w3 v1 P hT hK hm
  have w_v2 := ti_full v2
  have w_v1 := ti_full v1
  refine mp_a (a_iload_n dX5_occupied_4 rfl) (mpp 5 rfl ?_)
  refine mp_a (a_aload_n dX5_occupied_5 rfl) (mpp 6 rfl ?_)
  refine mt_getI (i := 22) (k := 1) hT dX5_occupied_6 rfl ha (by decide) rfl (by decide) rfl (fun g1 g2 => mpp 9 rfl ?_)
  refine mp_Tb (t := 42) (j_icmp_ge dX5_occupied_9) (by decide) (fun c3 => ?_) (fun c3 => mpp 12 rfl ?_)
  · have c3 : v2.toInt ≥ (fv P a 1).toInt := ti_ge c3
    refine mp_a (a_iload_n dX5_occupied_42 rfl) (mpp 43 rfl ?_)
    exact mp_iret (⟨⟨_, rfl, (ti_full _).1, (ti_full _).2⟩, hT, hK⟩) dX5_occupied_43 (Or.inl rfl)
  · have c3 : v2.toInt < (fv P a 1).toInt := ti_ge_n c3
    refine mp_a (a_aload_n dX5_occupied_12 rfl) (mpp 13 rfl ?_)
    refine mp_a (a_iload_n dX5_occupied_13 rfl) (mpp 14 rfl ?_)
    refine mt_callv (i := 28) (q' := q_9) (As := [.int v2]) (rest := []) hT dX5_occupied_14 rfl qm_9 (by decide) rfl ha (by decide) rfl (Nat.le_of_ble_eq_true rfl) rfl ⟨rfl, rfl⟩ ⟨Nat.le_of_ble_eq_true rfl, Nat.le_of_ble_eq_true rfl⟩ (EvP.mono (by decide) (c_pieceAt hT ha)) (fun r4 P5 g6 => mpp 17 rfl ?_)
    obtain ⟨g6, e7⟩ := g6
    have e7 := e7.symm
    subst e7
    rcases g6 with rfl | ⟨b8, rfl, q9⟩
    · show MEvP _ none q_8 17 [(2, .int v2), (3, w3), (1, .int v1), (0, .ref a)] [.null] _ _ _ _
      refine mp_a (a_astore_nN (L' := [(3, .null), (2, .int v2), (1, .int v1), (0, .ref a)]) dX5_occupied_17 (by decide) rfl) (mpp 18 rfl ?_)
      refine mp_a (a_aload_nN dX5_occupied_18 rfl) (mpp 19 rfl ?_)
      refine mp_t (s_ifnullN (t := 36) dX5_occupied_19 (by decide)) ?_
      refine mp_a (a_iinc (v := (v2 + 1)) (L' := [(2, .int (v2 + 1)), (3, .null), (1, .int v1), (0, .ref a)]) dX5_occupied_36 (by decide) rfl rfl rfl) (mpp 39 rfl ?_)
      try have e10 : (v2 + 1).toInt = v2.toInt + (1) := ti_add rfl rfl (by omega) (by omega)
      refine mp_a (a_goto (t := 4) dX5_occupied_39 (by decide)) ?_
      exact ih _ (by omega) _ _ _ _ hT hK rfl
    · show MEvP _ none q_8 17 [(2, .int v2), (3, w3), (1, .int v1), (0, .ref a)] [.ref b8] _ _ _ _
      refine mp_a (a_astore_n (L' := [(3, .ref b8), (2, .int v2), (1, .int v1), (0, .ref a)]) dX5_occupied_17 (by decide) rfl) (mpp 18 rfl ?_)
      refine mp_a (a_aload_n dX5_occupied_18 rfl) (mpp 19 rfl ?_)
      refine mp_t (s_ifnullR dX5_occupied_19) (mpp 22 rfl ?_)
      refine mp_a (a_aload_n dX5_occupied_22 rfl) (mpp 23 rfl ?_)
      refine mt_getI (i := 36) (k := 2) hT dX5_occupied_23 rfl q9 (by decide) rfl (by decide) rfl (fun g11 g12 => mpp 26 rfl ?_)
      refine mp_Tb (t := 36) (j_if_eq dX5_occupied_26) (by decide) (fun c13 => ?_) (fun c13 => mpp 29 rfl ?_)
      · have c13 : (fv P b8 2).toInt = 0 := ti_eq c13
        refine mp_a (a_iinc (v := (v2 + 1)) (L' := [(2, .int (v2 + 1)), (3, .ref b8), (1, .int v1), (0, .ref a)]) dX5_occupied_36 (by decide) rfl rfl rfl) (mpp 39 rfl ?_)
        try have e14 : (v2 + 1).toInt = v2.toInt + (1) := ti_add rfl rfl (by omega) (by omega)
        refine mp_a (a_goto (t := 4) dX5_occupied_39 (by decide)) ?_
        exact ih _ (by omega) _ _ _ _ hT hK rfl
      · have c13 : (fv P b8 2).toInt ≠ 0 := ti_eq_n c13
        refine mp_a (a_iload_n dX5_occupied_29 rfl) (mpp 30 rfl ?_)
        refine mp_a (a_aload_n dX5_occupied_30 rfl) (mpp 31 rfl ?_)
        refine mt_callv (i := 40) (q' := q_10) (As := []) (rest := [.int v1]) hT dX5_occupied_31 rfl qm_10 (by decide) rfl q9 (by decide) rfl (Nat.le_of_ble_eq_true rfl) rfl ⟨rfl, rfl⟩ ⟨Nat.le_of_ble_eq_true rfl, Nat.le_of_ble_eq_true rfl⟩ (EvP.mono (by decide) (c_width hT q9)) (fun r15 P16 g17 => mpp 34 rfl ?_)
        obtain ⟨⟨x18, rfl, g19, g20⟩, e21, k22⟩ := g17
        have k23 := KX.trans hK k22
        show MEvP _ none q_8 34 [(3, .ref b8), (2, .int v2), (1, .int v1), (0, .ref a)] [.int x18, .int v1] _ _ _ _
        refine mp_t (s_iadd (v := (v1 + x18)) dX5_occupied_34 rfl) (mpp 35 rfl ?_)
        try have e24 : (v1 + x18).toInt = v1.toInt + x18.toInt := ti_add rfl rfl (by omega) (by omega)
        refine mp_a (a_istore_n (L' := [(1, .int (v1 + x18)), (3, .ref b8), (2, .int v2), (0, .ref a)]) dX5_occupied_35 (by decide) rfl) (mpp 36 rfl ?_)
        refine mp_a (a_iinc (v := (v2 + 1)) (L' := [(2, .int (v2 + 1)), (1, .int (v1 + x18)), (3, .ref b8), (0, .ref a)]) dX5_occupied_36 (by decide) rfl rfl rfl) (mpp 39 rfl ?_)
        try have e25 : (v2 + 1).toInt = v2.toInt + (1) := ti_add rfl rfl (by omega) (by omega)
        refine mp_a (a_goto (t := 4) dX5_occupied_39 (by decide)) ?_
        refine MEvP.perm (L' := [(2, .int (v2 + 1)), (3, .ref b8), (1, .int (v1 + x18)), (0, .ref a)]) (mleq_mk rfl rfl (fun i => match i with | 0 => rfl | 1 => rfl | 2 => rfl | 3 => rfl | _ + 4 => rfl)) ?_
        exact ih _ (by omega) _ _ _ _ e21 k23 rfl

set_option maxHeartbeats 4000000 in
theorem c_occupied {P : mP} {a : Nat} (hT : Typ P) (ha : rl a = 1) : EvP 5 8 [.ref a] P (fun r P' => (∃ x : Int32, r = some (.int x) ∧ (-2147483648 : Int) ≤ x.toInt ∧ x.toInt ≤ 2147483647) ∧ Typ P' ∧ KX P P') := by
  refine EvP.of qm_8 (Nat.le_of_ble_eq_true rfl) rfl ?_
  show MEvP _ none q_8 0 [(0, .ref a)] [] _ 0 0 _
  refine mp_a (a_iconst (v := 0) dX5_occupied_0 rfl) (mpp 1 rfl ?_)
  refine mp_a (a_istore_n (L' := [(1, .int 0), (0, .ref a)]) dX5_occupied_1 (by decide) rfl) (mpp 2 rfl ?_)
  refine mp_a (a_iconst (v := 0) dX5_occupied_2 rfl) (mpp 3 rfl ?_)
  refine mp_a (a_istore_n (L' := [(2, .int 0), (1, .int 0), (0, .ref a)]) dX5_occupied_3 (by decide) rfl) (mpp 4 rfl ?_)
  refine mp_a (a_iload_n dX5_occupied_4 rfl) (mpp 5 rfl ?_)
  refine mp_a (a_aload_n dX5_occupied_5 rfl) (mpp 6 rfl ?_)
  refine mt_getI (i := 22) (k := 1) hT dX5_occupied_6 rfl ha (by decide) rfl (by decide) rfl (fun g1 g2 => mpp 9 rfl ?_)
  refine mp_Tb (t := 42) (j_icmp_ge dX5_occupied_9) (by decide) (fun c3 => ?_) (fun c3 => mpp 12 rfl ?_)
  · have c3 : 0 ≥ (fv P a 1).toInt := ti_ge c3
    refine mp_a (a_iload_n dX5_occupied_42 rfl) (mpp 43 rfl ?_)
    exact mp_iret (⟨⟨_, rfl, (ti_full _).1, (ti_full _).2⟩, hT, (KX.refl P)⟩) dX5_occupied_43 (Or.inl rfl)
  · have c3 : 0 < (fv P a 1).toInt := ti_ge_n c3
    refine mp_a (a_aload_n dX5_occupied_12 rfl) (mpp 13 rfl ?_)
    refine mp_a (a_iload_n dX5_occupied_13 rfl) (mpp 14 rfl ?_)
    refine mt_callv (i := 28) (q' := q_9) (As := [.int 0]) (rest := []) hT dX5_occupied_14 rfl qm_9 (by decide) rfl ha (by decide) rfl (Nat.le_of_ble_eq_true rfl) rfl ⟨rfl, rfl⟩ ⟨Nat.le_of_ble_eq_true rfl, Nat.le_of_ble_eq_true rfl⟩ (EvP.mono (by decide) (c_pieceAt hT ha)) (fun r4 P5 g6 => mpp 17 rfl ?_)
    obtain ⟨g6, e7⟩ := g6
    have e7 := e7.symm
    subst e7
    rcases g6 with rfl | ⟨b8, rfl, q9⟩
    · show MEvP _ none q_8 17 [(2, .int 0), (1, .int 0), (0, .ref a)] [.null] _ _ _ _
      refine mp_a (a_astore_nN (L' := [(3, .null), (2, .int 0), (1, .int 0), (0, .ref a)]) dX5_occupied_17 (by decide) rfl) (mpp 18 rfl ?_)
      refine mp_a (a_aload_nN dX5_occupied_18 rfl) (mpp 19 rfl ?_)
      refine mp_t (s_ifnullN (t := 36) dX5_occupied_19 (by decide)) ?_
      refine mp_a (a_iinc (v := 1) (L' := [(2, .int 1), (3, .null), (1, .int 0), (0, .ref a)]) dX5_occupied_36 (by decide) rfl rfl rfl) (mpp 39 rfl ?_)
      refine mp_a (a_goto (t := 4) dX5_occupied_39 (by decide)) ?_
      exact c_occupied_loop ha _ _ _ _ _ hT (KX.refl P) rfl
    · show MEvP _ none q_8 17 [(2, .int 0), (1, .int 0), (0, .ref a)] [.ref b8] _ _ _ _
      refine mp_a (a_astore_n (L' := [(3, .ref b8), (2, .int 0), (1, .int 0), (0, .ref a)]) dX5_occupied_17 (by decide) rfl) (mpp 18 rfl ?_)
      refine mp_a (a_aload_n dX5_occupied_18 rfl) (mpp 19 rfl ?_)
      refine mp_t (s_ifnullR dX5_occupied_19) (mpp 22 rfl ?_)
      refine mp_a (a_aload_n dX5_occupied_22 rfl) (mpp 23 rfl ?_)
      refine mt_getI (i := 36) (k := 2) hT dX5_occupied_23 rfl q9 (by decide) rfl (by decide) rfl (fun g10 g11 => mpp 26 rfl ?_)
      refine mp_Tb (t := 36) (j_if_eq dX5_occupied_26) (by decide) (fun c12 => ?_) (fun c12 => mpp 29 rfl ?_)
      · have c12 : (fv P b8 2).toInt = 0 := ti_eq c12
        refine mp_a (a_iinc (v := 1) (L' := [(2, .int 1), (3, .ref b8), (1, .int 0), (0, .ref a)]) dX5_occupied_36 (by decide) rfl rfl rfl) (mpp 39 rfl ?_)
        refine mp_a (a_goto (t := 4) dX5_occupied_39 (by decide)) ?_
        exact c_occupied_loop ha _ _ _ _ _ hT (KX.refl P) rfl
      · have c12 : (fv P b8 2).toInt ≠ 0 := ti_eq_n c12
        refine mp_a (a_iload_n dX5_occupied_29 rfl) (mpp 30 rfl ?_)
        refine mp_a (a_aload_n dX5_occupied_30 rfl) (mpp 31 rfl ?_)
        refine mt_callv (i := 40) (q' := q_10) (As := []) (rest := [.int 0]) hT dX5_occupied_31 rfl qm_10 (by decide) rfl q9 (by decide) rfl (Nat.le_of_ble_eq_true rfl) rfl ⟨rfl, rfl⟩ ⟨Nat.le_of_ble_eq_true rfl, Nat.le_of_ble_eq_true rfl⟩ (EvP.mono (by decide) (c_width hT q9)) (fun r13 P14 g15 => mpp 34 rfl ?_)
        obtain ⟨⟨x16, rfl, g17, g18⟩, e19, k20⟩ := g15
        have k21 := KX.trans (KX.refl P) k20
        show MEvP _ none q_8 34 [(3, .ref b8), (2, .int 0), (1, .int 0), (0, .ref a)] [.int x16, .int 0] _ _ _ _
        refine mp_t (s_iadd (v := (0 + x16)) dX5_occupied_34 rfl) (mpp 35 rfl ?_)
        try have e22 : (0 + x16).toInt = 0 + x16.toInt := ti_add rfl rfl (by omega) (by omega)
        refine mp_a (a_istore_n (L' := [(1, .int (0 + x16)), (3, .ref b8), (2, .int 0), (0, .ref a)]) dX5_occupied_35 (by decide) rfl) (mpp 36 rfl ?_)
        refine mp_a (a_iinc (v := 1) (L' := [(2, .int 1), (1, .int (0 + x16)), (3, .ref b8), (0, .ref a)]) dX5_occupied_36 (by decide) rfl rfl rfl) (mpp 39 rfl ?_)
        refine mp_a (a_goto (t := 4) dX5_occupied_39 (by decide)) ?_
        refine MEvP.perm (L' := [(2, .int 1), (3, .ref b8), (1, .int (0 + x16)), (0, .ref a)]) (mleq_mk rfl rfl (fun i => match i with | 0 => rfl | 1 => rfl | 2 => rfl | 3 => rfl | _ + 4 => rfl)) ?_
        exact c_occupied_loop ha _ _ _ _ _ e19 k21 rfl

set_option maxHeartbeats 4000000 in
theorem c_countOfKind_loop {Po : mP} {a : Nat} {t : Int32} (ha : rl a = 1) : ∀ (n : Nat) (v3 : Int32) (w4 : Value) (v2 : Int32) (P : mP), Typ P → KX Po P → (2147483647 - v3.toInt).toNat = n → MEvP 1 none q_111 4 [(3, .int v3), (4, w4), (2, .int v2), (0, .ref a), (1, .int t)] [] P 0 0 (fun r P' => (∃ x : Int32, r = some (.int x) ∧ (-2147483648 : Int) ≤ x.toInt ∧ x.toInt ≤ 2147483647) ∧ Typ P' ∧ KX Po P') := by
  intro n
  induction n using Nat.strongRecOn with | _ n ih => ?_
  intro v3 w4 v2 P hT hK hm
  have w_v3 := ti_full v3
  have w_v2 := ti_full v2
  refine mp_a (a_iload_n dX5_countOfKind_4 rfl) (mpp 5 rfl ?_)
  refine mp_a (a_aload_n dX5_countOfKind_5 rfl) (mpp 6 rfl ?_)
  refine mt_getI (i := 22) (k := 1) hT dX5_countOfKind_6 rfl ha (by decide) rfl (by decide) rfl (fun g1 g2 => mpp 9 rfl ?_)
  refine mp_Tb (t := 42) (j_icmp_ge dX5_countOfKind_9) (by decide) (fun c3 => ?_) (fun c3 => mpp 12 rfl ?_)
  · have c3 : v3.toInt ≥ (fv P a 1).toInt := ti_ge c3
    refine mp_a (a_iload_n dX5_countOfKind_42 rfl) (mpp 43 rfl ?_)
    exact mp_iret (⟨⟨_, rfl, (ti_full _).1, (ti_full _).2⟩, hT, hK⟩) dX5_countOfKind_43 (Or.inl rfl)
  · have c3 : v3.toInt < (fv P a 1).toInt := ti_ge_n c3
    refine mp_a (a_aload_n dX5_countOfKind_12 rfl) (mpp 13 rfl ?_)
    refine mp_a (a_iload_n dX5_countOfKind_13 rfl) (mpp 14 rfl ?_)
    refine mt_callv (i := 28) (q' := q_9) (As := [.int v3]) (rest := []) hT dX5_countOfKind_14 rfl qm_9 (by decide) rfl ha (by decide) rfl (Nat.le_of_ble_eq_true rfl) rfl ⟨rfl, rfl⟩ ⟨Nat.le_of_ble_eq_true rfl, Nat.le_of_ble_eq_true rfl⟩ (EvP.mono (by decide) (c_pieceAt hT ha)) (fun r4 P5 g6 => mpp 17 rfl ?_)
    obtain ⟨g6, e7⟩ := g6
    have e7 := e7.symm
    subst e7
    rcases g6 with rfl | ⟨b8, rfl, q9⟩
    · show MEvP _ none q_111 17 [(3, .int v3), (4, w4), (2, .int v2), (0, .ref a), (1, .int t)] [.null] _ _ _ _
      refine mp_a (a_astoreN (L' := [(4, .null), (3, .int v3), (2, .int v2), (0, .ref a), (1, .int t)]) dX5_countOfKind_17 (by decide) rfl) (mpp 19 rfl ?_)
      refine mp_a (a_aloadN dX5_countOfKind_19 rfl) (mpp 21 rfl ?_)
      refine mp_t (s_ifnullN (t := 36) dX5_countOfKind_21 (by decide)) ?_
      refine mp_a (a_iinc (v := (v3 + 1)) (L' := [(3, .int (v3 + 1)), (4, .null), (2, .int v2), (0, .ref a), (1, .int t)]) dX5_countOfKind_36 (by decide) rfl rfl rfl) (mpp 39 rfl ?_)
      try have e10 : (v3 + 1).toInt = v3.toInt + (1) := ti_add rfl rfl (by omega) (by omega)
      refine mp_a (a_goto (t := 4) dX5_countOfKind_39 (by decide)) ?_
      exact ih _ (by omega) _ _ _ _ hT hK rfl
    · show MEvP _ none q_111 17 [(3, .int v3), (4, w4), (2, .int v2), (0, .ref a), (1, .int t)] [.ref b8] _ _ _ _
      refine mp_a (a_astore (L' := [(4, .ref b8), (3, .int v3), (2, .int v2), (0, .ref a), (1, .int t)]) dX5_countOfKind_17 (by decide) rfl) (mpp 19 rfl ?_)
      refine mp_a (a_aload dX5_countOfKind_19 rfl) (mpp 21 rfl ?_)
      refine mp_t (s_ifnullR dX5_countOfKind_21) (mpp 24 rfl ?_)
      refine mp_a (a_aload dX5_countOfKind_24 rfl) (mpp 26 rfl ?_)
      refine mt_getI (i := 43) (k := 0) hT dX5_countOfKind_26 rfl q9 (by decide) rfl (by decide) rfl (fun g11 g12 => mpp 29 rfl ?_)
      refine mp_a (a_iload_n dX5_countOfKind_29 rfl) (mpp 30 rfl ?_)
      refine mp_Tb (t := 36) (j_icmp_ne dX5_countOfKind_30) (by decide) (fun c13 => ?_) (fun c13 => mpp 33 rfl ?_)
      · have c13 : (fv P b8 0).toInt ≠ t.toInt := ti_ne c13
        refine mp_a (a_iinc (v := (v3 + 1)) (L' := [(3, .int (v3 + 1)), (4, .ref b8), (2, .int v2), (0, .ref a), (1, .int t)]) dX5_countOfKind_36 (by decide) rfl rfl rfl) (mpp 39 rfl ?_)
        try have e14 : (v3 + 1).toInt = v3.toInt + (1) := ti_add rfl rfl (by omega) (by omega)
        refine mp_a (a_goto (t := 4) dX5_countOfKind_39 (by decide)) ?_
        exact ih _ (by omega) _ _ _ _ hT hK rfl
      · have c13 : (fv P b8 0).toInt = t.toInt := ti_ne_n c13
        refine mp_a (a_iinc (v := (v2 + 1)) (L' := [(2, .int (v2 + 1)), (4, .ref b8), (3, .int v3), (0, .ref a), (1, .int t)]) dX5_countOfKind_33 (by decide) rfl rfl rfl) (mpp 36 rfl ?_)
        try have e15 : (v2 + 1).toInt = v2.toInt + (1) := ti_add rfl rfl (by omega) (by omega)
        refine mp_a (a_iinc (v := (v3 + 1)) (L' := [(3, .int (v3 + 1)), (2, .int (v2 + 1)), (4, .ref b8), (0, .ref a), (1, .int t)]) dX5_countOfKind_36 (by decide) rfl rfl rfl) (mpp 39 rfl ?_)
        try have e16 : (v3 + 1).toInt = v3.toInt + (1) := ti_add rfl rfl (by omega) (by omega)
        refine mp_a (a_goto (t := 4) dX5_countOfKind_39 (by decide)) ?_
        refine MEvP.perm (L' := [(3, .int (v3 + 1)), (4, .ref b8), (2, .int (v2 + 1)), (0, .ref a), (1, .int t)]) (mleq_mk rfl rfl (fun i => match i with | 0 => rfl | 1 => rfl | 2 => rfl | 3 => rfl | 4 => rfl | _ + 5 => rfl)) ?_
        exact ih _ (by omega) _ _ _ _ hT hK rfl

set_option maxHeartbeats 4000000 in
theorem c_countOfKind {P : mP} {a : Nat} {t : Int32} (hT : Typ P) (ha : rl a = 1) : EvP 2 111 [.ref a, .int t] P (fun r P' => (∃ x : Int32, r = some (.int x) ∧ (-2147483648 : Int) ≤ x.toInt ∧ x.toInt ≤ 2147483647) ∧ Typ P' ∧ KX P P') := by
  refine EvP.of qm_111 (Nat.le_of_ble_eq_true rfl) rfl ?_
  show MEvP _ none q_111 0 [(0, .ref a), (1, .int t)] [] _ 0 0 _
  refine mp_a (a_iconst (v := 0) dX5_countOfKind_0 rfl) (mpp 1 rfl ?_)
  refine mp_a (a_istore_n (L' := [(2, .int 0), (0, .ref a), (1, .int t)]) dX5_countOfKind_1 (by decide) rfl) (mpp 2 rfl ?_)
  refine mp_a (a_iconst (v := 0) dX5_countOfKind_2 rfl) (mpp 3 rfl ?_)
  refine mp_a (a_istore_n (L' := [(3, .int 0), (2, .int 0), (0, .ref a), (1, .int t)]) dX5_countOfKind_3 (by decide) rfl) (mpp 4 rfl ?_)
  refine mp_a (a_iload_n dX5_countOfKind_4 rfl) (mpp 5 rfl ?_)
  refine mp_a (a_aload_n dX5_countOfKind_5 rfl) (mpp 6 rfl ?_)
  refine mt_getI (i := 22) (k := 1) hT dX5_countOfKind_6 rfl ha (by decide) rfl (by decide) rfl (fun g1 g2 => mpp 9 rfl ?_)
  refine mp_Tb (t := 42) (j_icmp_ge dX5_countOfKind_9) (by decide) (fun c3 => ?_) (fun c3 => mpp 12 rfl ?_)
  · have c3 : 0 ≥ (fv P a 1).toInt := ti_ge c3
    refine mp_a (a_iload_n dX5_countOfKind_42 rfl) (mpp 43 rfl ?_)
    exact mp_iret (⟨⟨_, rfl, (ti_full _).1, (ti_full _).2⟩, hT, (KX.refl P)⟩) dX5_countOfKind_43 (Or.inl rfl)
  · have c3 : 0 < (fv P a 1).toInt := ti_ge_n c3
    refine mp_a (a_aload_n dX5_countOfKind_12 rfl) (mpp 13 rfl ?_)
    refine mp_a (a_iload_n dX5_countOfKind_13 rfl) (mpp 14 rfl ?_)
    refine mt_callv (i := 28) (q' := q_9) (As := [.int 0]) (rest := []) hT dX5_countOfKind_14 rfl qm_9 (by decide) rfl ha (by decide) rfl (Nat.le_of_ble_eq_true rfl) rfl ⟨rfl, rfl⟩ ⟨Nat.le_of_ble_eq_true rfl, Nat.le_of_ble_eq_true rfl⟩ (EvP.mono (by decide) (c_pieceAt hT ha)) (fun r4 P5 g6 => mpp 17 rfl ?_)
    obtain ⟨g6, e7⟩ := g6
    have e7 := e7.symm
    subst e7
    rcases g6 with rfl | ⟨b8, rfl, q9⟩
    · show MEvP _ none q_111 17 [(3, .int 0), (2, .int 0), (0, .ref a), (1, .int t)] [.null] _ _ _ _
      refine mp_a (a_astoreN (L' := [(4, .null), (3, .int 0), (2, .int 0), (0, .ref a), (1, .int t)]) dX5_countOfKind_17 (by decide) rfl) (mpp 19 rfl ?_)
      refine mp_a (a_aloadN dX5_countOfKind_19 rfl) (mpp 21 rfl ?_)
      refine mp_t (s_ifnullN (t := 36) dX5_countOfKind_21 (by decide)) ?_
      refine mp_a (a_iinc (v := 1) (L' := [(3, .int 1), (4, .null), (2, .int 0), (0, .ref a), (1, .int t)]) dX5_countOfKind_36 (by decide) rfl rfl rfl) (mpp 39 rfl ?_)
      refine mp_a (a_goto (t := 4) dX5_countOfKind_39 (by decide)) ?_
      exact c_countOfKind_loop ha _ _ _ _ _ hT (KX.refl P) rfl
    · show MEvP _ none q_111 17 [(3, .int 0), (2, .int 0), (0, .ref a), (1, .int t)] [.ref b8] _ _ _ _
      refine mp_a (a_astore (L' := [(4, .ref b8), (3, .int 0), (2, .int 0), (0, .ref a), (1, .int t)]) dX5_countOfKind_17 (by decide) rfl) (mpp 19 rfl ?_)
      refine mp_a (a_aload dX5_countOfKind_19 rfl) (mpp 21 rfl ?_)
      refine mp_t (s_ifnullR dX5_countOfKind_21) (mpp 24 rfl ?_)
      refine mp_a (a_aload dX5_countOfKind_24 rfl) (mpp 26 rfl ?_)
      refine mt_getI (i := 43) (k := 0) hT dX5_countOfKind_26 rfl q9 (by decide) rfl (by decide) rfl (fun g10 g11 => mpp 29 rfl ?_)
      refine mp_a (a_iload_n dX5_countOfKind_29 rfl) (mpp 30 rfl ?_)
      refine mp_Tb (t := 36) (j_icmp_ne dX5_countOfKind_30) (by decide) (fun c12 => ?_) (fun c12 => mpp 33 rfl ?_)
      · have c12 : (fv P b8 0).toInt ≠ t.toInt := ti_ne c12
        refine mp_a (a_iinc (v := 1) (L' := [(3, .int 1), (4, .ref b8), (2, .int 0), (0, .ref a), (1, .int t)]) dX5_countOfKind_36 (by decide) rfl rfl rfl) (mpp 39 rfl ?_)
        refine mp_a (a_goto (t := 4) dX5_countOfKind_39 (by decide)) ?_
        exact c_countOfKind_loop ha _ _ _ _ _ hT (KX.refl P) rfl
      · have c12 : (fv P b8 0).toInt = t.toInt := ti_ne_n c12
        refine mp_a (a_iinc (v := 1) (L' := [(2, .int 1), (4, .ref b8), (3, .int 0), (0, .ref a), (1, .int t)]) dX5_countOfKind_33 (by decide) rfl rfl rfl) (mpp 36 rfl ?_)
        refine mp_a (a_iinc (v := 1) (L' := [(3, .int 1), (2, .int 1), (4, .ref b8), (0, .ref a), (1, .int t)]) dX5_countOfKind_36 (by decide) rfl rfl rfl) (mpp 39 rfl ?_)
        refine mp_a (a_goto (t := 4) dX5_countOfKind_39 (by decide)) ?_
        refine MEvP.perm (L' := [(3, .int 1), (4, .ref b8), (2, .int 1), (0, .ref a), (1, .int t)]) (mleq_mk rfl rfl (fun i => match i with | 0 => rfl | 1 => rfl | 2 => rfl | 3 => rfl | 4 => rfl | _ + 5 => rfl)) ?_
        exact c_countOfKind_loop ha _ _ _ _ _ hT (KX.refl P) rfl

set_option maxHeartbeats 4000000 in
theorem c_foldedCount_loop {Po : mP} {a : Nat} (ha : rl a = 1) : ∀ (n : Nat) (v2 : Int32) (w3 : Value) (v1 : Int32) (P : mP), Typ P → KX Po P → (2147483647 - v2.toInt).toNat = n → MEvP 1 none q_112 4 [(2, .int v2), (3, w3), (1, .int v1), (0, .ref a)] [] P 0 0 (fun r P' => (∃ x : Int32, r = some (.int x) ∧ (-2147483648 : Int) ≤ x.toInt ∧ x.toInt ≤ 2147483647) ∧ Typ P' ∧ KX Po P') := by
  intro n
  induction n using Nat.strongRecOn with | _ n ih => ?_
  intro v2 w3 v1 P hT hK hm
  have w_v2 := ti_full v2
  have w_v1 := ti_full v1
  refine mp_a (a_iload_n dX5_foldedCount_4 rfl) (mpp 5 rfl ?_)
  refine mp_a (a_aload_n dX5_foldedCount_5 rfl) (mpp 6 rfl ?_)
  refine mt_getI (i := 22) (k := 1) hT dX5_foldedCount_6 rfl ha (by decide) rfl (by decide) rfl (fun g1 g2 => mpp 9 rfl ?_)
  refine mp_Tb (t := 38) (j_icmp_ge dX5_foldedCount_9) (by decide) (fun c3 => ?_) (fun c3 => mpp 12 rfl ?_)
  · have c3 : v2.toInt ≥ (fv P a 1).toInt := ti_ge c3
    refine mp_a (a_iload_n dX5_foldedCount_38 rfl) (mpp 39 rfl ?_)
    exact mp_iret (⟨⟨_, rfl, (ti_full _).1, (ti_full _).2⟩, hT, hK⟩) dX5_foldedCount_39 (Or.inl rfl)
  · have c3 : v2.toInt < (fv P a 1).toInt := ti_ge_n c3
    refine mp_a (a_aload_n dX5_foldedCount_12 rfl) (mpp 13 rfl ?_)
    refine mp_a (a_iload_n dX5_foldedCount_13 rfl) (mpp 14 rfl ?_)
    refine mt_callv (i := 28) (q' := q_9) (As := [.int v2]) (rest := []) hT dX5_foldedCount_14 rfl qm_9 (by decide) rfl ha (by decide) rfl (Nat.le_of_ble_eq_true rfl) rfl ⟨rfl, rfl⟩ ⟨Nat.le_of_ble_eq_true rfl, Nat.le_of_ble_eq_true rfl⟩ (EvP.mono (by decide) (c_pieceAt hT ha)) (fun r4 P5 g6 => mpp 17 rfl ?_)
    obtain ⟨g6, e7⟩ := g6
    have e7 := e7.symm
    subst e7
    rcases g6 with rfl | ⟨b8, rfl, q9⟩
    · show MEvP _ none q_112 17 [(2, .int v2), (3, w3), (1, .int v1), (0, .ref a)] [.null] _ _ _ _
      refine mp_a (a_astore_nN (L' := [(3, .null), (2, .int v2), (1, .int v1), (0, .ref a)]) dX5_foldedCount_17 (by decide) rfl) (mpp 18 rfl ?_)
      refine mp_a (a_aload_nN dX5_foldedCount_18 rfl) (mpp 19 rfl ?_)
      refine mp_t (s_ifnullN (t := 32) dX5_foldedCount_19 (by decide)) ?_
      refine mp_a (a_iinc (v := (v2 + 1)) (L' := [(2, .int (v2 + 1)), (3, .null), (1, .int v1), (0, .ref a)]) dX5_foldedCount_32 (by decide) rfl rfl rfl) (mpp 35 rfl ?_)
      try have e10 : (v2 + 1).toInt = v2.toInt + (1) := ti_add rfl rfl (by omega) (by omega)
      refine mp_a (a_goto (t := 4) dX5_foldedCount_35 (by decide)) ?_
      exact ih _ (by omega) _ _ _ _ hT hK rfl
    · show MEvP _ none q_112 17 [(2, .int v2), (3, w3), (1, .int v1), (0, .ref a)] [.ref b8] _ _ _ _
      refine mp_a (a_astore_n (L' := [(3, .ref b8), (2, .int v2), (1, .int v1), (0, .ref a)]) dX5_foldedCount_17 (by decide) rfl) (mpp 18 rfl ?_)
      refine mp_a (a_aload_n dX5_foldedCount_18 rfl) (mpp 19 rfl ?_)
      refine mp_t (s_ifnullR dX5_foldedCount_19) (mpp 22 rfl ?_)
      refine mp_a (a_aload_n dX5_foldedCount_22 rfl) (mpp 23 rfl ?_)
      refine mt_getI (i := 36) (k := 2) hT dX5_foldedCount_23 rfl q9 (by decide) rfl (by decide) rfl (fun g11 g12 => mpp 26 rfl ?_)
      refine mp_Tb (t := 32) (j_if_eq dX5_foldedCount_26) (by decide) (fun c13 => ?_) (fun c13 => mpp 29 rfl ?_)
      · have c13 : (fv P b8 2).toInt = 0 := ti_eq c13
        refine mp_a (a_iinc (v := (v2 + 1)) (L' := [(2, .int (v2 + 1)), (3, .ref b8), (1, .int v1), (0, .ref a)]) dX5_foldedCount_32 (by decide) rfl rfl rfl) (mpp 35 rfl ?_)
        try have e14 : (v2 + 1).toInt = v2.toInt + (1) := ti_add rfl rfl (by omega) (by omega)
        refine mp_a (a_goto (t := 4) dX5_foldedCount_35 (by decide)) ?_
        exact ih _ (by omega) _ _ _ _ hT hK rfl
      · have c13 : (fv P b8 2).toInt ≠ 0 := ti_eq_n c13
        refine mp_a (a_iinc (v := (v1 + 1)) (L' := [(1, .int (v1 + 1)), (3, .ref b8), (2, .int v2), (0, .ref a)]) dX5_foldedCount_29 (by decide) rfl rfl rfl) (mpp 32 rfl ?_)
        try have e15 : (v1 + 1).toInt = v1.toInt + (1) := ti_add rfl rfl (by omega) (by omega)
        refine mp_a (a_iinc (v := (v2 + 1)) (L' := [(2, .int (v2 + 1)), (1, .int (v1 + 1)), (3, .ref b8), (0, .ref a)]) dX5_foldedCount_32 (by decide) rfl rfl rfl) (mpp 35 rfl ?_)
        try have e16 : (v2 + 1).toInt = v2.toInt + (1) := ti_add rfl rfl (by omega) (by omega)
        refine mp_a (a_goto (t := 4) dX5_foldedCount_35 (by decide)) ?_
        refine MEvP.perm (L' := [(2, .int (v2 + 1)), (3, .ref b8), (1, .int (v1 + 1)), (0, .ref a)]) (mleq_mk rfl rfl (fun i => match i with | 0 => rfl | 1 => rfl | 2 => rfl | 3 => rfl | _ + 4 => rfl)) ?_
        exact ih _ (by omega) _ _ _ _ hT hK rfl

set_option maxHeartbeats 4000000 in
theorem c_foldedCount {P : mP} {a : Nat} (hT : Typ P) (ha : rl a = 1) : EvP 2 112 [.ref a] P (fun r P' => (∃ x : Int32, r = some (.int x) ∧ (-2147483648 : Int) ≤ x.toInt ∧ x.toInt ≤ 2147483647) ∧ Typ P' ∧ KX P P') := by
  refine EvP.of qm_112 (Nat.le_of_ble_eq_true rfl) rfl ?_
  show MEvP _ none q_112 0 [(0, .ref a)] [] _ 0 0 _
  refine mp_a (a_iconst (v := 0) dX5_foldedCount_0 rfl) (mpp 1 rfl ?_)
  refine mp_a (a_istore_n (L' := [(1, .int 0), (0, .ref a)]) dX5_foldedCount_1 (by decide) rfl) (mpp 2 rfl ?_)
  refine mp_a (a_iconst (v := 0) dX5_foldedCount_2 rfl) (mpp 3 rfl ?_)
  refine mp_a (a_istore_n (L' := [(2, .int 0), (1, .int 0), (0, .ref a)]) dX5_foldedCount_3 (by decide) rfl) (mpp 4 rfl ?_)
  refine mp_a (a_iload_n dX5_foldedCount_4 rfl) (mpp 5 rfl ?_)
  refine mp_a (a_aload_n dX5_foldedCount_5 rfl) (mpp 6 rfl ?_)
  refine mt_getI (i := 22) (k := 1) hT dX5_foldedCount_6 rfl ha (by decide) rfl (by decide) rfl (fun g1 g2 => mpp 9 rfl ?_)
  refine mp_Tb (t := 38) (j_icmp_ge dX5_foldedCount_9) (by decide) (fun c3 => ?_) (fun c3 => mpp 12 rfl ?_)
  · have c3 : 0 ≥ (fv P a 1).toInt := ti_ge c3
    refine mp_a (a_iload_n dX5_foldedCount_38 rfl) (mpp 39 rfl ?_)
    exact mp_iret (⟨⟨_, rfl, (ti_full _).1, (ti_full _).2⟩, hT, (KX.refl P)⟩) dX5_foldedCount_39 (Or.inl rfl)
  · have c3 : 0 < (fv P a 1).toInt := ti_ge_n c3
    refine mp_a (a_aload_n dX5_foldedCount_12 rfl) (mpp 13 rfl ?_)
    refine mp_a (a_iload_n dX5_foldedCount_13 rfl) (mpp 14 rfl ?_)
    refine mt_callv (i := 28) (q' := q_9) (As := [.int 0]) (rest := []) hT dX5_foldedCount_14 rfl qm_9 (by decide) rfl ha (by decide) rfl (Nat.le_of_ble_eq_true rfl) rfl ⟨rfl, rfl⟩ ⟨Nat.le_of_ble_eq_true rfl, Nat.le_of_ble_eq_true rfl⟩ (EvP.mono (by decide) (c_pieceAt hT ha)) (fun r4 P5 g6 => mpp 17 rfl ?_)
    obtain ⟨g6, e7⟩ := g6
    have e7 := e7.symm
    subst e7
    rcases g6 with rfl | ⟨b8, rfl, q9⟩
    · show MEvP _ none q_112 17 [(2, .int 0), (1, .int 0), (0, .ref a)] [.null] _ _ _ _
      refine mp_a (a_astore_nN (L' := [(3, .null), (2, .int 0), (1, .int 0), (0, .ref a)]) dX5_foldedCount_17 (by decide) rfl) (mpp 18 rfl ?_)
      refine mp_a (a_aload_nN dX5_foldedCount_18 rfl) (mpp 19 rfl ?_)
      refine mp_t (s_ifnullN (t := 32) dX5_foldedCount_19 (by decide)) ?_
      refine mp_a (a_iinc (v := 1) (L' := [(2, .int 1), (3, .null), (1, .int 0), (0, .ref a)]) dX5_foldedCount_32 (by decide) rfl rfl rfl) (mpp 35 rfl ?_)
      refine mp_a (a_goto (t := 4) dX5_foldedCount_35 (by decide)) ?_
      exact c_foldedCount_loop ha _ _ _ _ _ hT (KX.refl P) rfl
    · show MEvP _ none q_112 17 [(2, .int 0), (1, .int 0), (0, .ref a)] [.ref b8] _ _ _ _
      refine mp_a (a_astore_n (L' := [(3, .ref b8), (2, .int 0), (1, .int 0), (0, .ref a)]) dX5_foldedCount_17 (by decide) rfl) (mpp 18 rfl ?_)
      refine mp_a (a_aload_n dX5_foldedCount_18 rfl) (mpp 19 rfl ?_)
      refine mp_t (s_ifnullR dX5_foldedCount_19) (mpp 22 rfl ?_)
      refine mp_a (a_aload_n dX5_foldedCount_22 rfl) (mpp 23 rfl ?_)
      refine mt_getI (i := 36) (k := 2) hT dX5_foldedCount_23 rfl q9 (by decide) rfl (by decide) rfl (fun g10 g11 => mpp 26 rfl ?_)
      refine mp_Tb (t := 32) (j_if_eq dX5_foldedCount_26) (by decide) (fun c12 => ?_) (fun c12 => mpp 29 rfl ?_)
      · have c12 : (fv P b8 2).toInt = 0 := ti_eq c12
        refine mp_a (a_iinc (v := 1) (L' := [(2, .int 1), (3, .ref b8), (1, .int 0), (0, .ref a)]) dX5_foldedCount_32 (by decide) rfl rfl rfl) (mpp 35 rfl ?_)
        refine mp_a (a_goto (t := 4) dX5_foldedCount_35 (by decide)) ?_
        exact c_foldedCount_loop ha _ _ _ _ _ hT (KX.refl P) rfl
      · have c12 : (fv P b8 2).toInt ≠ 0 := ti_eq_n c12
        refine mp_a (a_iinc (v := 1) (L' := [(1, .int 1), (3, .ref b8), (2, .int 0), (0, .ref a)]) dX5_foldedCount_29 (by decide) rfl rfl rfl) (mpp 32 rfl ?_)
        refine mp_a (a_iinc (v := 1) (L' := [(2, .int 1), (1, .int 1), (3, .ref b8), (0, .ref a)]) dX5_foldedCount_32 (by decide) rfl rfl rfl) (mpp 35 rfl ?_)
        refine mp_a (a_goto (t := 4) dX5_foldedCount_35 (by decide)) ?_
        refine MEvP.perm (L' := [(2, .int 1), (3, .ref b8), (1, .int 1), (0, .ref a)]) (mleq_mk rfl rfl (fun i => match i with | 0 => rfl | 1 => rfl | 2 => rfl | 3 => rfl | _ + 4 => rfl)) ?_
        exact c_foldedCount_loop ha _ _ _ _ _ hT (KX.refl P) rfl

set_option maxHeartbeats 4000000 in
theorem c_panelCount_loop {Po : mP} {a : Nat} (ha : rl a = 1) : ∀ (n : Nat) (v2 : Int32) (w3 : Value) (v1 : Int32) (P : mP), Typ P → KX Po P → (2147483647 - v2.toInt).toNat = n → MEvP 1 none q_113 4 [(2, .int v2), (3, w3), (1, .int v1), (0, .ref a)] [] P 0 0 (fun r P' => (∃ x : Int32, r = some (.int x) ∧ (-2147483648 : Int) ≤ x.toInt ∧ x.toInt ≤ 2147483647) ∧ Typ P' ∧ KX Po P') := by
  intro n
  induction n using Nat.strongRecOn with | _ n ih => ?_
  intro v2 w3 v1 P hT hK hm
  have w_v2 := ti_full v2
  have w_v1 := ti_full v1
  refine mp_a (a_iload_n dX5_panelCount_4 rfl) (mpp 5 rfl ?_)
  refine mp_a (a_aload_n dX5_panelCount_5 rfl) (mpp 6 rfl ?_)
  refine mt_getI (i := 22) (k := 1) hT dX5_panelCount_6 rfl ha (by decide) rfl (by decide) rfl (fun g1 g2 => mpp 9 rfl ?_)
  refine mp_Tb (t := 42) (j_icmp_ge dX5_panelCount_9) (by decide) (fun c3 => ?_) (fun c3 => mpp 12 rfl ?_)
  · have c3 : v2.toInt ≥ (fv P a 1).toInt := ti_ge c3
    refine mp_a (a_iload_n dX5_panelCount_42 rfl) (mpp 43 rfl ?_)
    exact mp_iret (⟨⟨_, rfl, (ti_full _).1, (ti_full _).2⟩, hT, hK⟩) dX5_panelCount_43 (Or.inl rfl)
  · have c3 : v2.toInt < (fv P a 1).toInt := ti_ge_n c3
    refine mp_a (a_aload_n dX5_panelCount_12 rfl) (mpp 13 rfl ?_)
    refine mp_a (a_iload_n dX5_panelCount_13 rfl) (mpp 14 rfl ?_)
    refine mt_callv (i := 28) (q' := q_9) (As := [.int v2]) (rest := []) hT dX5_panelCount_14 rfl qm_9 (by decide) rfl ha (by decide) rfl (Nat.le_of_ble_eq_true rfl) rfl ⟨rfl, rfl⟩ ⟨Nat.le_of_ble_eq_true rfl, Nat.le_of_ble_eq_true rfl⟩ (EvP.mono (by decide) (c_pieceAt hT ha)) (fun r4 P5 g6 => mpp 17 rfl ?_)
    obtain ⟨g6, e7⟩ := g6
    have e7 := e7.symm
    subst e7
    rcases g6 with rfl | ⟨b8, rfl, q9⟩
    · show MEvP _ none q_113 17 [(2, .int v2), (3, w3), (1, .int v1), (0, .ref a)] [.null] _ _ _ _
      refine mp_a (a_astore_nN (L' := [(3, .null), (2, .int v2), (1, .int v1), (0, .ref a)]) dX5_panelCount_17 (by decide) rfl) (mpp 18 rfl ?_)
      refine mp_a (a_aload_nN dX5_panelCount_18 rfl) (mpp 19 rfl ?_)
      refine mp_t (s_ifnullN (t := 36) dX5_panelCount_19 (by decide)) ?_
      refine mp_a (a_iinc (v := (v2 + 1)) (L' := [(2, .int (v2 + 1)), (3, .null), (1, .int v1), (0, .ref a)]) dX5_panelCount_36 (by decide) rfl rfl rfl) (mpp 39 rfl ?_)
      try have e10 : (v2 + 1).toInt = v2.toInt + (1) := ti_add rfl rfl (by omega) (by omega)
      refine mp_a (a_goto (t := 4) dX5_panelCount_39 (by decide)) ?_
      exact ih _ (by omega) _ _ _ _ hT hK rfl
    · show MEvP _ none q_113 17 [(2, .int v2), (3, w3), (1, .int v1), (0, .ref a)] [.ref b8] _ _ _ _
      refine mp_a (a_astore_n (L' := [(3, .ref b8), (2, .int v2), (1, .int v1), (0, .ref a)]) dX5_panelCount_17 (by decide) rfl) (mpp 18 rfl ?_)
      refine mp_a (a_aload_n dX5_panelCount_18 rfl) (mpp 19 rfl ?_)
      refine mp_t (s_ifnullR dX5_panelCount_19) (mpp 22 rfl ?_)
      refine mp_a (a_aload_n dX5_panelCount_22 rfl) (mpp 23 rfl ?_)
      refine mt_getI (i := 43) (k := 0) hT dX5_panelCount_23 rfl q9 (by decide) rfl (by decide) rfl (fun g11 g12 => mpp 26 rfl ?_)
      refine mp_Tb (t := 36) (j_if_ne dX5_panelCount_26) (by decide) (fun c13 => ?_) (fun c13 => mpp 29 rfl ?_)
      · have c13 : (fv P b8 0).toInt ≠ 0 := ti_ne c13
        refine mp_a (a_iinc (v := (v2 + 1)) (L' := [(2, .int (v2 + 1)), (3, .ref b8), (1, .int v1), (0, .ref a)]) dX5_panelCount_36 (by decide) rfl rfl rfl) (mpp 39 rfl ?_)
        try have e14 : (v2 + 1).toInt = v2.toInt + (1) := ti_add rfl rfl (by omega) (by omega)
        refine mp_a (a_goto (t := 4) dX5_panelCount_39 (by decide)) ?_
        exact ih _ (by omega) _ _ _ _ hT hK rfl
      · have c13 : (fv P b8 0).toInt = 0 := ti_ne_n c13
        refine mp_a (a_iload_n dX5_panelCount_29 rfl) (mpp 30 rfl ?_)
        refine mp_a (a_aload_n dX5_panelCount_30 rfl) (mpp 31 rfl ?_)
        refine mt_getI (i := 46) (k := 1) hT dX5_panelCount_31 rfl q9 (by decide) rfl (by decide) rfl (fun g15 g16 => mpp 34 rfl ?_)
        refine mp_t (s_iadd (v := (v1 + (fv P b8 1))) dX5_panelCount_34 rfl) (mpp 35 rfl ?_)
        try have e17 : (v1 + (fv P b8 1)).toInt = v1.toInt + (fv P b8 1).toInt := ti_add rfl rfl (by omega) (by omega)
        refine mp_a (a_istore_n (L' := [(1, .int (v1 + (fv P b8 1))), (3, .ref b8), (2, .int v2), (0, .ref a)]) dX5_panelCount_35 (by decide) rfl) (mpp 36 rfl ?_)
        refine mp_a (a_iinc (v := (v2 + 1)) (L' := [(2, .int (v2 + 1)), (1, .int (v1 + (fv P b8 1))), (3, .ref b8), (0, .ref a)]) dX5_panelCount_36 (by decide) rfl rfl rfl) (mpp 39 rfl ?_)
        try have e18 : (v2 + 1).toInt = v2.toInt + (1) := ti_add rfl rfl (by omega) (by omega)
        refine mp_a (a_goto (t := 4) dX5_panelCount_39 (by decide)) ?_
        refine MEvP.perm (L' := [(2, .int (v2 + 1)), (3, .ref b8), (1, .int (v1 + (fv P b8 1))), (0, .ref a)]) (mleq_mk rfl rfl (fun i => match i with | 0 => rfl | 1 => rfl | 2 => rfl | 3 => rfl | _ + 4 => rfl)) ?_
        exact ih _ (by omega) _ _ _ _ hT hK rfl

set_option maxHeartbeats 4000000 in
theorem c_panelCount {P : mP} {a : Nat} (hT : Typ P) (ha : rl a = 1) : EvP 2 113 [.ref a] P (fun r P' => (∃ x : Int32, r = some (.int x) ∧ (-2147483648 : Int) ≤ x.toInt ∧ x.toInt ≤ 2147483647) ∧ Typ P' ∧ KX P P') := by
  refine EvP.of qm_113 (Nat.le_of_ble_eq_true rfl) rfl ?_
  show MEvP _ none q_113 0 [(0, .ref a)] [] _ 0 0 _
  refine mp_a (a_iconst (v := 0) dX5_panelCount_0 rfl) (mpp 1 rfl ?_)
  refine mp_a (a_istore_n (L' := [(1, .int 0), (0, .ref a)]) dX5_panelCount_1 (by decide) rfl) (mpp 2 rfl ?_)
  refine mp_a (a_iconst (v := 0) dX5_panelCount_2 rfl) (mpp 3 rfl ?_)
  refine mp_a (a_istore_n (L' := [(2, .int 0), (1, .int 0), (0, .ref a)]) dX5_panelCount_3 (by decide) rfl) (mpp 4 rfl ?_)
  refine mp_a (a_iload_n dX5_panelCount_4 rfl) (mpp 5 rfl ?_)
  refine mp_a (a_aload_n dX5_panelCount_5 rfl) (mpp 6 rfl ?_)
  refine mt_getI (i := 22) (k := 1) hT dX5_panelCount_6 rfl ha (by decide) rfl (by decide) rfl (fun g1 g2 => mpp 9 rfl ?_)
  refine mp_Tb (t := 42) (j_icmp_ge dX5_panelCount_9) (by decide) (fun c3 => ?_) (fun c3 => mpp 12 rfl ?_)
  · have c3 : 0 ≥ (fv P a 1).toInt := ti_ge c3
    refine mp_a (a_iload_n dX5_panelCount_42 rfl) (mpp 43 rfl ?_)
    exact mp_iret (⟨⟨_, rfl, (ti_full _).1, (ti_full _).2⟩, hT, (KX.refl P)⟩) dX5_panelCount_43 (Or.inl rfl)
  · have c3 : 0 < (fv P a 1).toInt := ti_ge_n c3
    refine mp_a (a_aload_n dX5_panelCount_12 rfl) (mpp 13 rfl ?_)
    refine mp_a (a_iload_n dX5_panelCount_13 rfl) (mpp 14 rfl ?_)
    refine mt_callv (i := 28) (q' := q_9) (As := [.int 0]) (rest := []) hT dX5_panelCount_14 rfl qm_9 (by decide) rfl ha (by decide) rfl (Nat.le_of_ble_eq_true rfl) rfl ⟨rfl, rfl⟩ ⟨Nat.le_of_ble_eq_true rfl, Nat.le_of_ble_eq_true rfl⟩ (EvP.mono (by decide) (c_pieceAt hT ha)) (fun r4 P5 g6 => mpp 17 rfl ?_)
    obtain ⟨g6, e7⟩ := g6
    have e7 := e7.symm
    subst e7
    rcases g6 with rfl | ⟨b8, rfl, q9⟩
    · show MEvP _ none q_113 17 [(2, .int 0), (1, .int 0), (0, .ref a)] [.null] _ _ _ _
      refine mp_a (a_astore_nN (L' := [(3, .null), (2, .int 0), (1, .int 0), (0, .ref a)]) dX5_panelCount_17 (by decide) rfl) (mpp 18 rfl ?_)
      refine mp_a (a_aload_nN dX5_panelCount_18 rfl) (mpp 19 rfl ?_)
      refine mp_t (s_ifnullN (t := 36) dX5_panelCount_19 (by decide)) ?_
      refine mp_a (a_iinc (v := 1) (L' := [(2, .int 1), (3, .null), (1, .int 0), (0, .ref a)]) dX5_panelCount_36 (by decide) rfl rfl rfl) (mpp 39 rfl ?_)
      refine mp_a (a_goto (t := 4) dX5_panelCount_39 (by decide)) ?_
      exact c_panelCount_loop ha _ _ _ _ _ hT (KX.refl P) rfl
    · show MEvP _ none q_113 17 [(2, .int 0), (1, .int 0), (0, .ref a)] [.ref b8] _ _ _ _
      refine mp_a (a_astore_n (L' := [(3, .ref b8), (2, .int 0), (1, .int 0), (0, .ref a)]) dX5_panelCount_17 (by decide) rfl) (mpp 18 rfl ?_)
      refine mp_a (a_aload_n dX5_panelCount_18 rfl) (mpp 19 rfl ?_)
      refine mp_t (s_ifnullR dX5_panelCount_19) (mpp 22 rfl ?_)
      refine mp_a (a_aload_n dX5_panelCount_22 rfl) (mpp 23 rfl ?_)
      refine mt_getI (i := 43) (k := 0) hT dX5_panelCount_23 rfl q9 (by decide) rfl (by decide) rfl (fun g10 g11 => mpp 26 rfl ?_)
      refine mp_Tb (t := 36) (j_if_ne dX5_panelCount_26) (by decide) (fun c12 => ?_) (fun c12 => mpp 29 rfl ?_)
      · have c12 : (fv P b8 0).toInt ≠ 0 := ti_ne c12
        refine mp_a (a_iinc (v := 1) (L' := [(2, .int 1), (3, .ref b8), (1, .int 0), (0, .ref a)]) dX5_panelCount_36 (by decide) rfl rfl rfl) (mpp 39 rfl ?_)
        refine mp_a (a_goto (t := 4) dX5_panelCount_39 (by decide)) ?_
        exact c_panelCount_loop ha _ _ _ _ _ hT (KX.refl P) rfl
      · have c12 : (fv P b8 0).toInt = 0 := ti_ne_n c12
        refine mp_a (a_iload_n dX5_panelCount_29 rfl) (mpp 30 rfl ?_)
        refine mp_a (a_aload_n dX5_panelCount_30 rfl) (mpp 31 rfl ?_)
        refine mt_getI (i := 46) (k := 1) hT dX5_panelCount_31 rfl q9 (by decide) rfl (by decide) rfl (fun g13 g14 => mpp 34 rfl ?_)
        refine mp_t (s_iadd (v := (0 + (fv P b8 1))) dX5_panelCount_34 rfl) (mpp 35 rfl ?_)
        try have e15 : (0 + (fv P b8 1)).toInt = 0 + (fv P b8 1).toInt := ti_add rfl rfl (by omega) (by omega)
        refine mp_a (a_istore_n (L' := [(1, .int (0 + (fv P b8 1))), (3, .ref b8), (2, .int 0), (0, .ref a)]) dX5_panelCount_35 (by decide) rfl) (mpp 36 rfl ?_)
        refine mp_a (a_iinc (v := 1) (L' := [(2, .int 1), (1, .int (0 + (fv P b8 1))), (3, .ref b8), (0, .ref a)]) dX5_panelCount_36 (by decide) rfl rfl rfl) (mpp 39 rfl ?_)
        refine mp_a (a_goto (t := 4) dX5_panelCount_39 (by decide)) ?_
        refine MEvP.perm (L' := [(2, .int 1), (3, .ref b8), (1, .int (0 + (fv P b8 1))), (0, .ref a)]) (mleq_mk rfl rfl (fun i => match i with | 0 => rfl | 1 => rfl | 2 => rfl | 3 => rfl | _ + 4 => rfl)) ?_
        exact c_panelCount_loop ha _ _ _ _ _ hT (KX.refl P) rfl

set_option maxHeartbeats 4000000 in
theorem c_creasesOf_loop {Po : mP} {a : Nat} {t : Int32} (ha : rl a = 1) : ∀ (n : Nat) (v3 : Int32) (w4 : Value) (v2 : Int32) (P : mP), Typ P → KX Po P → (2147483647 - v3.toInt).toNat = n → MEvP 3 none q_114 4 [(3, .int v3), (4, w4), (2, .int v2), (0, .ref a), (1, .int t)] [] P 0 0 (fun r P' => (∃ x : Int32, r = some (.int x) ∧ (-2147483648 : Int) ≤ x.toInt ∧ x.toInt ≤ 2147483647) ∧ Typ P' ∧ KX Po P') := by
  intro n
  induction n using Nat.strongRecOn with | _ n ih => ?_
  intro v3 w4 v2 P hT hK hm
  have w_v3 := ti_full v3
  have w_v2 := ti_full v2
  refine mp_a (a_iload_n dX5_creasesOf_4 rfl) (mpp 5 rfl ?_)
  refine mp_a (a_aload_n dX5_creasesOf_5 rfl) (mpp 6 rfl ?_)
  refine mt_getI (i := 22) (k := 1) hT dX5_creasesOf_6 rfl ha (by decide) rfl (by decide) rfl (fun g1 g2 => mpp 9 rfl ?_)
  refine mp_Tb (t := 39) (j_icmp_ge dX5_creasesOf_9) (by decide) (fun c3 => ?_) (fun c3 => mpp 12 rfl ?_)
  · have c3 : v3.toInt ≥ (fv P a 1).toInt := ti_ge c3
    refine mp_a (a_iload_n dX5_creasesOf_39 rfl) (mpp 40 rfl ?_)
    exact mp_iret (⟨⟨_, rfl, (ti_full _).1, (ti_full _).2⟩, hT, hK⟩) dX5_creasesOf_40 (Or.inl rfl)
  · have c3 : v3.toInt < (fv P a 1).toInt := ti_ge_n c3
    refine mp_a (a_aload_n dX5_creasesOf_12 rfl) (mpp 13 rfl ?_)
    refine mp_a (a_iload_n dX5_creasesOf_13 rfl) (mpp 14 rfl ?_)
    refine mt_callv (i := 28) (q' := q_9) (As := [.int v3]) (rest := []) hT dX5_creasesOf_14 rfl qm_9 (by decide) rfl ha (by decide) rfl (Nat.le_of_ble_eq_true rfl) rfl ⟨rfl, rfl⟩ ⟨Nat.le_of_ble_eq_true rfl, Nat.le_of_ble_eq_true rfl⟩ (EvP.mono (by decide) (c_pieceAt hT ha)) (fun r4 P5 g6 => mpp 17 rfl ?_)
    obtain ⟨g6, e7⟩ := g6
    have e7 := e7.symm
    subst e7
    rcases g6 with rfl | ⟨b8, rfl, q9⟩
    · show MEvP _ none q_114 17 [(3, .int v3), (4, w4), (2, .int v2), (0, .ref a), (1, .int t)] [.null] _ _ _ _
      refine mp_a (a_astoreN (L' := [(4, .null), (3, .int v3), (2, .int v2), (0, .ref a), (1, .int t)]) dX5_creasesOf_17 (by decide) rfl) (mpp 19 rfl ?_)
      refine mp_a (a_aloadN dX5_creasesOf_19 rfl) (mpp 21 rfl ?_)
      refine mp_t (s_ifnullN (t := 33) dX5_creasesOf_21 (by decide)) ?_
      refine mp_a (a_iinc (v := (v3 + 1)) (L' := [(3, .int (v3 + 1)), (4, .null), (2, .int v2), (0, .ref a), (1, .int t)]) dX5_creasesOf_33 (by decide) rfl rfl rfl) (mpp 36 rfl ?_)
      try have e10 : (v3 + 1).toInt = v3.toInt + (1) := ti_add rfl rfl (by omega) (by omega)
      refine mp_a (a_goto (t := 4) dX5_creasesOf_36 (by decide)) ?_
      exact ih _ (by omega) _ _ _ _ hT hK rfl
    · show MEvP _ none q_114 17 [(3, .int v3), (4, w4), (2, .int v2), (0, .ref a), (1, .int t)] [.ref b8] _ _ _ _
      refine mp_a (a_astore (L' := [(4, .ref b8), (3, .int v3), (2, .int v2), (0, .ref a), (1, .int t)]) dX5_creasesOf_17 (by decide) rfl) (mpp 19 rfl ?_)
      refine mp_a (a_aload dX5_creasesOf_19 rfl) (mpp 21 rfl ?_)
      refine mp_t (s_ifnullR dX5_creasesOf_21) (mpp 24 rfl ?_)
      refine mp_a (a_iload_n dX5_creasesOf_24 rfl) (mpp 25 rfl ?_)
      refine mp_a (a_aload dX5_creasesOf_25 rfl) (mpp 27 rfl ?_)
      refine mp_a (a_iload_n dX5_creasesOf_27 rfl) (mpp 28 rfl ?_)
      refine mt_callv (i := 47) (q' := q_32) (As := [.int t]) (rest := [.int v2]) hT dX5_creasesOf_28 rfl qm_32 (by decide) rfl q9 (by decide) rfl (Nat.le_of_ble_eq_true rfl) rfl ⟨rfl, rfl⟩ ⟨Nat.le_of_ble_eq_true rfl, Nat.le_of_ble_eq_true rfl⟩ (EvP.mono (by decide) (c_countOf hT q9)) (fun r11 P12 g13 => mpp 31 rfl ?_)
      obtain ⟨⟨x14, rfl, g15, g16⟩, e17, k18⟩ := g13
      have k19 := KX.trans hK k18
      show MEvP _ none q_114 31 [(4, .ref b8), (3, .int v3), (2, .int v2), (0, .ref a), (1, .int t)] [.int x14, .int v2] _ _ _ _
      refine mp_t (s_iadd (v := (v2 + x14)) dX5_creasesOf_31 rfl) (mpp 32 rfl ?_)
      try have e20 : (v2 + x14).toInt = v2.toInt + x14.toInt := ti_add rfl rfl (by omega) (by omega)
      refine mp_a (a_istore_n (L' := [(2, .int (v2 + x14)), (4, .ref b8), (3, .int v3), (0, .ref a), (1, .int t)]) dX5_creasesOf_32 (by decide) rfl) (mpp 33 rfl ?_)
      refine mp_a (a_iinc (v := (v3 + 1)) (L' := [(3, .int (v3 + 1)), (2, .int (v2 + x14)), (4, .ref b8), (0, .ref a), (1, .int t)]) dX5_creasesOf_33 (by decide) rfl rfl rfl) (mpp 36 rfl ?_)
      try have e21 : (v3 + 1).toInt = v3.toInt + (1) := ti_add rfl rfl (by omega) (by omega)
      refine mp_a (a_goto (t := 4) dX5_creasesOf_36 (by decide)) ?_
      refine MEvP.perm (L' := [(3, .int (v3 + 1)), (4, .ref b8), (2, .int (v2 + x14)), (0, .ref a), (1, .int t)]) (mleq_mk rfl rfl (fun i => match i with | 0 => rfl | 1 => rfl | 2 => rfl | 3 => rfl | 4 => rfl | _ + 5 => rfl)) ?_
      exact ih _ (by omega) _ _ _ _ e17 k19 rfl

set_option maxHeartbeats 4000000 in
theorem c_creasesOf {P : mP} {a : Nat} {t : Int32} (hT : Typ P) (ha : rl a = 1) : EvP 4 114 [.ref a, .int t] P (fun r P' => (∃ x : Int32, r = some (.int x) ∧ (-2147483648 : Int) ≤ x.toInt ∧ x.toInt ≤ 2147483647) ∧ Typ P' ∧ KX P P') := by
  refine EvP.of qm_114 (Nat.le_of_ble_eq_true rfl) rfl ?_
  show MEvP _ none q_114 0 [(0, .ref a), (1, .int t)] [] _ 0 0 _
  refine mp_a (a_iconst (v := 0) dX5_creasesOf_0 rfl) (mpp 1 rfl ?_)
  refine mp_a (a_istore_n (L' := [(2, .int 0), (0, .ref a), (1, .int t)]) dX5_creasesOf_1 (by decide) rfl) (mpp 2 rfl ?_)
  refine mp_a (a_iconst (v := 0) dX5_creasesOf_2 rfl) (mpp 3 rfl ?_)
  refine mp_a (a_istore_n (L' := [(3, .int 0), (2, .int 0), (0, .ref a), (1, .int t)]) dX5_creasesOf_3 (by decide) rfl) (mpp 4 rfl ?_)
  refine mp_a (a_iload_n dX5_creasesOf_4 rfl) (mpp 5 rfl ?_)
  refine mp_a (a_aload_n dX5_creasesOf_5 rfl) (mpp 6 rfl ?_)
  refine mt_getI (i := 22) (k := 1) hT dX5_creasesOf_6 rfl ha (by decide) rfl (by decide) rfl (fun g1 g2 => mpp 9 rfl ?_)
  refine mp_Tb (t := 39) (j_icmp_ge dX5_creasesOf_9) (by decide) (fun c3 => ?_) (fun c3 => mpp 12 rfl ?_)
  · have c3 : 0 ≥ (fv P a 1).toInt := ti_ge c3
    refine mp_a (a_iload_n dX5_creasesOf_39 rfl) (mpp 40 rfl ?_)
    exact mp_iret (⟨⟨_, rfl, (ti_full _).1, (ti_full _).2⟩, hT, (KX.refl P)⟩) dX5_creasesOf_40 (Or.inl rfl)
  · have c3 : 0 < (fv P a 1).toInt := ti_ge_n c3
    refine mp_a (a_aload_n dX5_creasesOf_12 rfl) (mpp 13 rfl ?_)
    refine mp_a (a_iload_n dX5_creasesOf_13 rfl) (mpp 14 rfl ?_)
    refine mt_callv (i := 28) (q' := q_9) (As := [.int 0]) (rest := []) hT dX5_creasesOf_14 rfl qm_9 (by decide) rfl ha (by decide) rfl (Nat.le_of_ble_eq_true rfl) rfl ⟨rfl, rfl⟩ ⟨Nat.le_of_ble_eq_true rfl, Nat.le_of_ble_eq_true rfl⟩ (EvP.mono (by decide) (c_pieceAt hT ha)) (fun r4 P5 g6 => mpp 17 rfl ?_)
    obtain ⟨g6, e7⟩ := g6
    have e7 := e7.symm
    subst e7
    rcases g6 with rfl | ⟨b8, rfl, q9⟩
    · show MEvP _ none q_114 17 [(3, .int 0), (2, .int 0), (0, .ref a), (1, .int t)] [.null] _ _ _ _
      refine mp_a (a_astoreN (L' := [(4, .null), (3, .int 0), (2, .int 0), (0, .ref a), (1, .int t)]) dX5_creasesOf_17 (by decide) rfl) (mpp 19 rfl ?_)
      refine mp_a (a_aloadN dX5_creasesOf_19 rfl) (mpp 21 rfl ?_)
      refine mp_t (s_ifnullN (t := 33) dX5_creasesOf_21 (by decide)) ?_
      refine mp_a (a_iinc (v := 1) (L' := [(3, .int 1), (4, .null), (2, .int 0), (0, .ref a), (1, .int t)]) dX5_creasesOf_33 (by decide) rfl rfl rfl) (mpp 36 rfl ?_)
      refine mp_a (a_goto (t := 4) dX5_creasesOf_36 (by decide)) ?_
      exact c_creasesOf_loop ha _ _ _ _ _ hT (KX.refl P) rfl
    · show MEvP _ none q_114 17 [(3, .int 0), (2, .int 0), (0, .ref a), (1, .int t)] [.ref b8] _ _ _ _
      refine mp_a (a_astore (L' := [(4, .ref b8), (3, .int 0), (2, .int 0), (0, .ref a), (1, .int t)]) dX5_creasesOf_17 (by decide) rfl) (mpp 19 rfl ?_)
      refine mp_a (a_aload dX5_creasesOf_19 rfl) (mpp 21 rfl ?_)
      refine mp_t (s_ifnullR dX5_creasesOf_21) (mpp 24 rfl ?_)
      refine mp_a (a_iload_n dX5_creasesOf_24 rfl) (mpp 25 rfl ?_)
      refine mp_a (a_aload dX5_creasesOf_25 rfl) (mpp 27 rfl ?_)
      refine mp_a (a_iload_n dX5_creasesOf_27 rfl) (mpp 28 rfl ?_)
      refine mt_callv (i := 47) (q' := q_32) (As := [.int t]) (rest := [.int 0]) hT dX5_creasesOf_28 rfl qm_32 (by decide) rfl q9 (by decide) rfl (Nat.le_of_ble_eq_true rfl) rfl ⟨rfl, rfl⟩ ⟨Nat.le_of_ble_eq_true rfl, Nat.le_of_ble_eq_true rfl⟩ (EvP.mono (by decide) (c_countOf hT q9)) (fun r10 P11 g12 => mpp 31 rfl ?_)
      obtain ⟨⟨x13, rfl, g14, g15⟩, e16, k17⟩ := g12
      have k18 := KX.trans (KX.refl P) k17
      show MEvP _ none q_114 31 [(4, .ref b8), (3, .int 0), (2, .int 0), (0, .ref a), (1, .int t)] [.int x13, .int 0] _ _ _ _
      refine mp_t (s_iadd (v := (0 + x13)) dX5_creasesOf_31 rfl) (mpp 32 rfl ?_)
      try have e19 : (0 + x13).toInt = 0 + x13.toInt := ti_add rfl rfl (by omega) (by omega)
      refine mp_a (a_istore_n (L' := [(2, .int (0 + x13)), (4, .ref b8), (3, .int 0), (0, .ref a), (1, .int t)]) dX5_creasesOf_32 (by decide) rfl) (mpp 33 rfl ?_)
      refine mp_a (a_iinc (v := 1) (L' := [(3, .int 1), (2, .int (0 + x13)), (4, .ref b8), (0, .ref a), (1, .int t)]) dX5_creasesOf_33 (by decide) rfl rfl rfl) (mpp 36 rfl ?_)
      refine mp_a (a_goto (t := 4) dX5_creasesOf_36 (by decide)) ?_
      refine MEvP.perm (L' := [(3, .int 1), (4, .ref b8), (2, .int (0 + x13)), (0, .ref a), (1, .int t)]) (mleq_mk rfl rfl (fun i => match i with | 0 => rfl | 1 => rfl | 2 => rfl | 3 => rfl | 4 => rfl | _ + 5 => rfl)) ?_
      exact c_creasesOf_loop ha _ _ _ _ _ e16 k18 rfl

set_option maxHeartbeats 4000000 in
theorem c_stateAt {P : mP} {a : Nat} {t : Int32} (hT : Typ P) (ha : rl a = 6) : EvP 1 16 [.ref a, .int t] P (fun r P' => (r = some .null ∨ ∃ b : Nat, r = some (.ref b) ∧ rl b = 1) ∧ P' = P) := by
  refine EvP.of qm_16 (Nat.le_of_ble_eq_true rfl) rfl ?_
  show MEvP _ none q_16 0 [(0, .ref a), (1, .int t)] [] _ 0 0 _
  refine mp_a (a_iload_n dX0_stateAt_0 rfl) (mpp 1 rfl ?_)
  refine mp_Tb (t := 22) (j_if_lt dX0_stateAt_1) (by decide) (fun c1 => ?_) (fun c1 => mpp 4 rfl ?_)
  · have c1 : t.toInt < 0 := ti_lt c1
    refine mp_a (a_null dX0_stateAt_22) (mpp 23 rfl ?_)
    exact mp_aretN (⟨Or.inl rfl, rfl⟩) dX0_stateAt_23 rfl
  · have c1 : t.toInt ≥ 0 := ti_lt_n c1
    refine mp_a (a_iload_n dX0_stateAt_4 rfl) (mpp 5 rfl ?_)
    refine mp_a (a_aload_n dX0_stateAt_5 rfl) (mpp 6 rfl ?_)
    refine mt_getR (i := 11) (k := 0) hT dX0_stateAt_6 rfl ha (by decide) rfl (by decide) rfl (fun q2 => mpp 9 rfl ?_)
    refine mt_len (n := 8) hT dX0_stateAt_9 q2 (by decide) (by decide) rfl (mpp 10 rfl ?_)
    refine mp_Tb (t := 22) (j_icmp_ge dX0_stateAt_10) (by decide) (fun c3 => ?_) (fun c3 => mpp 13 rfl ?_)
    · have c3 : t.toInt ≥ 8 := ti_ge c3
      refine mp_a (a_null dX0_stateAt_22) (mpp 23 rfl ?_)
      exact mp_aretN (⟨Or.inl rfl, rfl⟩) dX0_stateAt_23 rfl
    · have c3 : t.toInt < 8 := ti_ge_n c3
      refine mp_a (a_aload_n dX0_stateAt_13 rfl) (mpp 14 rfl ?_)
      refine mt_getR (i := 11) (k := 0) hT dX0_stateAt_14 rfl ha (by decide) rfl (by decide) rfl (fun q4 => mpp 17 rfl ?_)
      refine mp_a (a_iload_n dX0_stateAt_17 rfl) (mpp 18 rfl ?_)
      refine mt_aal (n := 8) hT dX0_stateAt_18 q4 (by decide) (by decide) rfl (by omega) (by omega) rfl (fun q5 => mpp 19 rfl ?_)
      refine mp_a (a_goto (t := 23) dX0_stateAt_19 (by decide)) ?_
      exact mp_aret (⟨Or.inr ⟨_, rfl, q5⟩, rfl⟩) dX0_stateAt_23 rfl

set_option maxHeartbeats 4000000 in
theorem c_push {P : mP} {a b : Nat} (hT : Typ P) (ha : rl a = 6) (hb : rl b = 1) : EvP 4 15 [.ref a, .ref b] P (fun r P' => r = none ∧ Typ P' ∧ KX P P') := by
  refine EvP.of qm_15 (Nat.le_of_ble_eq_true rfl) rfl ?_
  show MEvP _ none q_15 0 [(0, .ref a), (1, .ref b)] [] _ 0 0 _
  refine mp_a (a_aload_n dX0_push_0 rfl) (mpp 1 rfl ?_)
  refine mp_a (a_aload_n dX0_push_1 rfl) (mpp 2 rfl ?_)
  refine mt_getI (i := 18) (k := 1) hT dX0_push_2 rfl ha (by decide) rfl (by decide) rfl (fun g1 g2 => mpp 5 rfl ?_)
  refine mt_callv (i := 22) (q' := q_16) (As := [.int (fv P a 1)]) (rest := []) hT dX0_push_5 rfl qm_16 (by decide) rfl ha (by decide) rfl (Nat.le_of_ble_eq_true rfl) rfl ⟨rfl, rfl⟩ ⟨Nat.le_of_ble_eq_true rfl, Nat.le_of_ble_eq_true rfl⟩ (EvP.mono (by decide) (c_stateAt hT ha)) (fun r3 P4 g5 => mpp 8 rfl ?_)
  obtain ⟨g5, e6⟩ := g5
  have e6 := e6.symm
  subst e6
  rcases g5 with rfl | ⟨b7, rfl, q8⟩
  · show MEvP _ none q_15 8 [(0, .ref a), (1, .ref b)] [.null] _ _ _ _
    refine mp_a (a_astore_nN (L' := [(2, .null), (0, .ref a), (1, .ref b)]) dX0_push_8 (by decide) rfl) (mpp 9 rfl ?_)
    refine mp_a (a_aload_nN dX0_push_9 rfl) (mpp 10 rfl ?_)
    refine mp_t (s_ifnullN (t := 63) dX0_push_10 (by decide)) ?_
    exact mp_ret (⟨rfl, hT, (KX.refl P)⟩) dX0_push_63 rfl
  · show MEvP _ none q_15 8 [(0, .ref a), (1, .ref b)] [.ref b7] _ _ _ _
    refine mp_a (a_astore_n (L' := [(2, .ref b7), (0, .ref a), (1, .ref b)]) dX0_push_8 (by decide) rfl) (mpp 9 rfl ?_)
    refine mp_a (a_aload_n dX0_push_9 rfl) (mpp 10 rfl ?_)
    refine mp_t (s_ifnullR dX0_push_10) (mpp 13 rfl ?_)
    refine mp_a (a_aload_n dX0_push_13 rfl) (mpp 14 rfl ?_)
    refine mt_getI (i := 26) (k := 3) hT dX0_push_14 rfl ha (by decide) rfl (by decide) rfl (fun g9 g10 => mpp 17 rfl ?_)
    refine mp_Tb (t := 63) (j_if_ne dX0_push_17) (by decide) (fun c11 => ?_) (fun c11 => mpp 20 rfl ?_)
    · have c11 : (fv P a 3).toInt ≠ 0 := ti_ne c11
      exact mp_ret (⟨rfl, hT, (KX.refl P)⟩) dX0_push_63 rfl
    · have c11 : (fv P a 3).toInt = 0 := ti_ne_n c11
      refine mp_a (a_aload_n dX0_push_20 rfl) (mpp 21 rfl ?_)
      refine mp_a (a_aload_n dX0_push_21 rfl) (mpp 22 rfl ?_)
      refine mt_callv (i := 30) (q' := q_17) (As := [.ref b]) (rest := []) hT dX0_push_22 rfl qm_17 (by decide) rfl q8 (by decide) rfl (Nat.le_of_ble_eq_true rfl) rfl ⟨rfl, rfl⟩ ⟨Nat.le_of_ble_eq_true rfl, Nat.le_of_ble_eq_true rfl⟩ (EvP.mono (by decide) (c_copyState hT q8 hb)) (fun r12 P13 g14 => mpp 25 rfl ?_)
      obtain ⟨rfl, e16, k17⟩ := g14
      have k18 := KX.trans (KX.refl P) k17
      show MEvP _ none q_15 25 [(2, .ref b7), (0, .ref a), (1, .ref b)] [] _ _ _ _
      refine mp_a (a_aload_n dX0_push_25 rfl) (mpp 26 rfl ?_)
      refine mp_a (a_aload_n dX0_push_26 rfl) (mpp 27 rfl ?_)
      refine mt_getI (i := 18) (k := 1) e16 dX0_push_27 rfl ha (by decide) rfl (by decide) rfl (fun g19 g20 => mpp 30 rfl ?_)
      refine mp_a (a_bipush (v := 7) dX0_push_30 rfl) (mpp 32 rfl ?_)
      refine mp_Tb (t := 44) (j_icmp_ge dX0_push_32) (by decide) (fun c21 => ?_) (fun c21 => mpp 35 rfl ?_)
      · have c21 : (fv P13 a 1).toInt ≥ 7 := ti_ge c21
        refine mp_a (a_iconst (v := 0) dX0_push_44 rfl) (mpp 45 rfl ?_)
        refine mt_putI (i := 18) (k := 1) (x := 0) e16 dX0_push_45 rfl ha (by decide) rfl (by decide) rfl (by decide) rfl rfl (fun P22 hT23 f24 f25 => mpp 48 rfl ?_)
        have k26 := KX.step k18 ha (by decide) f25
        refine mp_a (a_aload_n dX0_push_48 rfl) (mpp 49 rfl ?_)
        refine mp_a (a_aload_n dX0_push_49 rfl) (mpp 50 rfl ?_)
        refine mt_getI (i := 34) (k := 2) hT23 dX0_push_50 rfl ha (by decide) rfl (by decide) rfl (fun g27 g28 => mpp 53 rfl ?_)
        refine mp_a (a_iconst (v := 1) dX0_push_53 rfl) (mpp 54 rfl ?_)
        refine mp_t (s_iadd (v := ((fv P22 a 2) + 1)) dX0_push_54 rfl) (mpp 55 rfl ?_)
        try have e29 : ((fv P22 a 2) + 1).toInt = (fv P22 a 2).toInt + 1 := ti_add rfl rfl (by omega) (by omega)
        refine mp_a (a_bipush (v := 8) dX0_push_55 rfl) (mpp 57 rfl ?_)
        obtain ⟨z30, h31⟩ : ∃ z30 : Int32, (if (8 : Nat) = 7 then (if ((fv P22 a 2) + 1) < 8 then 8 else ((fv P22 a 2) + 1)) else (if 8 < ((fv P22 a 2) + 1) then 8 else ((fv P22 a 2) + 1))) = z30 := ⟨_, rfl⟩
        have e32 := ti_mm8 h31
        refine mp_math (i := 37) (k := 0) (v := z30) dX0_push_57 rfl (by decide) (Nat.le_of_ble_eq_true rfl) h31 ⟨Nat.le_of_ble_eq_true rfl, Nat.le_of_ble_eq_true rfl⟩ (mpp 60 rfl ?_)
        refine mt_putI (i := 34) (k := 2) (x := z30) hT23 dX0_push_60 rfl ha (by decide) rfl (by decide) rfl (ti_full z30) rfl rfl (fun P33 hT34 f35 f36 => mpp 63 rfl ?_)
        have k37 := KX.step k26 ha (by decide) f36
        exact mp_ret (⟨rfl, hT34, k37⟩) dX0_push_63 rfl
      · have c21 : (fv P13 a 1).toInt < 7 := ti_ge_n c21
        refine mp_a (a_aload_n dX0_push_35 rfl) (mpp 36 rfl ?_)
        refine mt_getI (i := 18) (k := 1) e16 dX0_push_36 rfl ha (by decide) rfl (by decide) rfl (fun g38 g39 => mpp 39 rfl ?_)
        refine mp_a (a_iconst (v := 1) dX0_push_39 rfl) (mpp 40 rfl ?_)
        refine mp_t (s_iadd (v := ((fv P13 a 1) + 1)) dX0_push_40 rfl) (mpp 41 rfl ?_)
        try have e40 : ((fv P13 a 1) + 1).toInt = (fv P13 a 1).toInt + 1 := ti_add rfl rfl (by omega) (by omega)
        refine mp_a (a_goto (t := 45) dX0_push_41 (by decide)) ?_
        refine mt_putI (i := 18) (k := 1) (x := ((fv P13 a 1) + 1)) e16 dX0_push_45 rfl ha (by decide) rfl (by decide) rfl (ti_full ((fv P13 a 1) + 1)) rfl rfl (fun P41 hT42 f43 f44 => mpp 48 rfl ?_)
        have k45 := KX.step k18 ha (by decide) f44
        refine mp_a (a_aload_n dX0_push_48 rfl) (mpp 49 rfl ?_)
        refine mp_a (a_aload_n dX0_push_49 rfl) (mpp 50 rfl ?_)
        refine mt_getI (i := 34) (k := 2) hT42 dX0_push_50 rfl ha (by decide) rfl (by decide) rfl (fun g46 g47 => mpp 53 rfl ?_)
        refine mp_a (a_iconst (v := 1) dX0_push_53 rfl) (mpp 54 rfl ?_)
        refine mp_t (s_iadd (v := ((fv P41 a 2) + 1)) dX0_push_54 rfl) (mpp 55 rfl ?_)
        try have e48 : ((fv P41 a 2) + 1).toInt = (fv P41 a 2).toInt + 1 := ti_add rfl rfl (by omega) (by omega)
        refine mp_a (a_bipush (v := 8) dX0_push_55 rfl) (mpp 57 rfl ?_)
        obtain ⟨z49, h50⟩ : ∃ z49 : Int32, (if (8 : Nat) = 7 then (if ((fv P41 a 2) + 1) < 8 then 8 else ((fv P41 a 2) + 1)) else (if 8 < ((fv P41 a 2) + 1) then 8 else ((fv P41 a 2) + 1))) = z49 := ⟨_, rfl⟩
        have e51 := ti_mm8 h50
        refine mp_math (i := 37) (k := 0) (v := z49) dX0_push_57 rfl (by decide) (Nat.le_of_ble_eq_true rfl) h50 ⟨Nat.le_of_ble_eq_true rfl, Nat.le_of_ble_eq_true rfl⟩ (mpp 60 rfl ?_)
        refine mt_putI (i := 34) (k := 2) (x := z49) hT42 dX0_push_60 rfl ha (by decide) rfl (by decide) rfl (ti_full z49) rfl rfl (fun P52 hT53 f54 f55 => mpp 63 rfl ?_)
        have k56 := KX.step k45 ha (by decide) f55
        exact mp_ret (⟨rfl, hT53, k56⟩) dX0_push_63 rfl

set_option maxHeartbeats 4000000 in
theorem c_pop {P : mP} {a b : Nat} (hT : Typ P) (ha : rl a = 6) (hb : rl b = 1) : EvP 4 118 [.ref a, .ref b] P (fun r P' => r = none ∧ Typ P' ∧ KX P P') := by
  refine EvP.of qm_118 (Nat.le_of_ble_eq_true rfl) rfl ?_
  show MEvP _ none q_118 0 [(0, .ref a), (1, .ref b)] [] _ 0 0 _
  refine mp_a (a_aload_n dX0_pop_0 rfl) (mpp 1 rfl ?_)
  refine mp_a (a_aload_n dX0_pop_1 rfl) (mpp 2 rfl ?_)
  refine mt_getI (i := 18) (k := 1) hT dX0_pop_2 rfl ha (by decide) rfl (by decide) rfl (fun g1 g2 => mpp 5 rfl ?_)
  refine mp_Tb (t := 17) (j_if_le dX0_pop_5) (by decide) (fun c3 => ?_) (fun c3 => mpp 8 rfl ?_)
  · have c3 : (fv P a 1).toInt ≤ 0 := ti_le c3
    refine mp_a (a_bipush (v := 7) dX0_pop_17 rfl) (mpp 19 rfl ?_)
    refine mt_putI (i := 18) (k := 1) (x := 7) hT dX0_pop_19 rfl ha (by decide) rfl (by decide) rfl (by decide) rfl rfl (fun P4 hT5 f6 f7 => mpp 22 rfl ?_)
    have k8 := KX.step (KX.refl P) ha (by decide) f7
    refine mp_a (a_aload_n dX0_pop_22 rfl) (mpp 23 rfl ?_)
    refine mp_t (s_dup dX0_pop_23 rfl) (mpp 24 rfl ?_)
    refine mt_getI (i := 34) (k := 2) hT5 dX0_pop_24 rfl ha (by decide) rfl (by decide) rfl (fun g9 g10 => mpp 27 rfl ?_)
    refine mp_a (a_iconst (v := 1) dX0_pop_27 rfl) (mpp 28 rfl ?_)
    refine mp_t (s_isub (v := ((fv P4 a 2) - 1)) dX0_pop_28 rfl) (mpp 29 rfl ?_)
    try have e11 : ((fv P4 a 2) - 1).toInt = (fv P4 a 2).toInt - 1 := ti_sub rfl rfl (by omega) (by omega)
    refine mt_putI (i := 34) (k := 2) (x := ((fv P4 a 2) - 1)) hT5 dX0_pop_29 rfl ha (by decide) rfl (by decide) rfl (ti_full ((fv P4 a 2) - 1)) rfl rfl (fun P12 hT13 f14 f15 => mpp 32 rfl ?_)
    have k16 := KX.step k8 ha (by decide) f15
    refine mp_a (a_aload_n dX0_pop_32 rfl) (mpp 33 rfl ?_)
    refine mp_a (a_aload_n dX0_pop_33 rfl) (mpp 34 rfl ?_)
    refine mt_getI (i := 18) (k := 1) hT13 dX0_pop_34 rfl ha (by decide) rfl (by decide) rfl (fun g17 g18 => mpp 37 rfl ?_)
    refine mt_callv (i := 22) (q' := q_16) (As := [.int (fv P12 a 1)]) (rest := []) hT13 dX0_pop_37 rfl qm_16 (by decide) rfl ha (by decide) rfl (Nat.le_of_ble_eq_true rfl) rfl ⟨rfl, rfl⟩ ⟨Nat.le_of_ble_eq_true rfl, Nat.le_of_ble_eq_true rfl⟩ (EvP.mono (by decide) (c_stateAt hT13 ha)) (fun r19 P20 g21 => mpp 40 rfl ?_)
    obtain ⟨g21, e22⟩ := g21
    have e22 := e22.symm
    subst e22
    rcases g21 with rfl | ⟨b23, rfl, q24⟩
    · show MEvP _ none q_118 40 [(0, .ref a), (1, .ref b)] [.null] _ _ _ _
      refine mp_a (a_astore_nN (L' := [(2, .null), (0, .ref a), (1, .ref b)]) dX0_pop_40 (by decide) rfl) (mpp 41 rfl ?_)
      refine mp_a (a_aload_nN dX0_pop_41 rfl) (mpp 42 rfl ?_)
      refine mp_t (s_ifnullN (t := 50) dX0_pop_42 (by decide)) ?_
      exact mp_ret (⟨rfl, hT13, k16⟩) dX0_pop_50 rfl
    · show MEvP _ none q_118 40 [(0, .ref a), (1, .ref b)] [.ref b23] _ _ _ _
      refine mp_a (a_astore_n (L' := [(2, .ref b23), (0, .ref a), (1, .ref b)]) dX0_pop_40 (by decide) rfl) (mpp 41 rfl ?_)
      refine mp_a (a_aload_n dX0_pop_41 rfl) (mpp 42 rfl ?_)
      refine mp_t (s_ifnullR dX0_pop_42) (mpp 45 rfl ?_)
      refine mp_a (a_aload_n dX0_pop_45 rfl) (mpp 46 rfl ?_)
      refine mp_a (a_aload_n dX0_pop_46 rfl) (mpp 47 rfl ?_)
      refine mt_callv (i := 30) (q' := q_17) (As := [.ref b23]) (rest := []) hT13 dX0_pop_47 rfl qm_17 (by decide) rfl hb (by decide) rfl (Nat.le_of_ble_eq_true rfl) rfl ⟨rfl, rfl⟩ ⟨Nat.le_of_ble_eq_true rfl, Nat.le_of_ble_eq_true rfl⟩ (EvP.mono (by decide) (c_copyState hT13 hb q24)) (fun r25 P26 g27 => mpp 50 rfl ?_)
      obtain ⟨rfl, e29, k30⟩ := g27
      have k31 := KX.trans k16 k30
      show MEvP _ none q_118 50 [(2, .ref b23), (0, .ref a), (1, .ref b)] [] _ _ _ _
      exact mp_ret (⟨rfl, e29, k31⟩) dX0_pop_50 rfl
  · have c3 : (fv P a 1).toInt > 0 := ti_le_n c3
    refine mp_a (a_aload_n dX0_pop_8 rfl) (mpp 9 rfl ?_)
    refine mt_getI (i := 18) (k := 1) hT dX0_pop_9 rfl ha (by decide) rfl (by decide) rfl (fun g32 g33 => mpp 12 rfl ?_)
    refine mp_a (a_iconst (v := 1) dX0_pop_12 rfl) (mpp 13 rfl ?_)
    refine mp_t (s_isub (v := ((fv P a 1) - 1)) dX0_pop_13 rfl) (mpp 14 rfl ?_)
    try have e34 : ((fv P a 1) - 1).toInt = (fv P a 1).toInt - 1 := ti_sub rfl rfl (by omega) (by omega)
    refine mp_a (a_goto (t := 19) dX0_pop_14 (by decide)) ?_
    refine mt_putI (i := 18) (k := 1) (x := ((fv P a 1) - 1)) hT dX0_pop_19 rfl ha (by decide) rfl (by decide) rfl (ti_full ((fv P a 1) - 1)) rfl rfl (fun P35 hT36 f37 f38 => mpp 22 rfl ?_)
    have k39 := KX.step (KX.refl P) ha (by decide) f38
    refine mp_a (a_aload_n dX0_pop_22 rfl) (mpp 23 rfl ?_)
    refine mp_t (s_dup dX0_pop_23 rfl) (mpp 24 rfl ?_)
    refine mt_getI (i := 34) (k := 2) hT36 dX0_pop_24 rfl ha (by decide) rfl (by decide) rfl (fun g40 g41 => mpp 27 rfl ?_)
    refine mp_a (a_iconst (v := 1) dX0_pop_27 rfl) (mpp 28 rfl ?_)
    refine mp_t (s_isub (v := ((fv P35 a 2) - 1)) dX0_pop_28 rfl) (mpp 29 rfl ?_)
    try have e42 : ((fv P35 a 2) - 1).toInt = (fv P35 a 2).toInt - 1 := ti_sub rfl rfl (by omega) (by omega)
    refine mt_putI (i := 34) (k := 2) (x := ((fv P35 a 2) - 1)) hT36 dX0_pop_29 rfl ha (by decide) rfl (by decide) rfl (ti_full ((fv P35 a 2) - 1)) rfl rfl (fun P43 hT44 f45 f46 => mpp 32 rfl ?_)
    have k47 := KX.step k39 ha (by decide) f46
    refine mp_a (a_aload_n dX0_pop_32 rfl) (mpp 33 rfl ?_)
    refine mp_a (a_aload_n dX0_pop_33 rfl) (mpp 34 rfl ?_)
    refine mt_getI (i := 18) (k := 1) hT44 dX0_pop_34 rfl ha (by decide) rfl (by decide) rfl (fun g48 g49 => mpp 37 rfl ?_)
    refine mt_callv (i := 22) (q' := q_16) (As := [.int (fv P43 a 1)]) (rest := []) hT44 dX0_pop_37 rfl qm_16 (by decide) rfl ha (by decide) rfl (Nat.le_of_ble_eq_true rfl) rfl ⟨rfl, rfl⟩ ⟨Nat.le_of_ble_eq_true rfl, Nat.le_of_ble_eq_true rfl⟩ (EvP.mono (by decide) (c_stateAt hT44 ha)) (fun r50 P51 g52 => mpp 40 rfl ?_)
    obtain ⟨g52, e53⟩ := g52
    have e53 := e53.symm
    subst e53
    rcases g52 with rfl | ⟨b54, rfl, q55⟩
    · show MEvP _ none q_118 40 [(0, .ref a), (1, .ref b)] [.null] _ _ _ _
      refine mp_a (a_astore_nN (L' := [(2, .null), (0, .ref a), (1, .ref b)]) dX0_pop_40 (by decide) rfl) (mpp 41 rfl ?_)
      refine mp_a (a_aload_nN dX0_pop_41 rfl) (mpp 42 rfl ?_)
      refine mp_t (s_ifnullN (t := 50) dX0_pop_42 (by decide)) ?_
      exact mp_ret (⟨rfl, hT44, k47⟩) dX0_pop_50 rfl
    · show MEvP _ none q_118 40 [(0, .ref a), (1, .ref b)] [.ref b54] _ _ _ _
      refine mp_a (a_astore_n (L' := [(2, .ref b54), (0, .ref a), (1, .ref b)]) dX0_pop_40 (by decide) rfl) (mpp 41 rfl ?_)
      refine mp_a (a_aload_n dX0_pop_41 rfl) (mpp 42 rfl ?_)
      refine mp_t (s_ifnullR dX0_pop_42) (mpp 45 rfl ?_)
      refine mp_a (a_aload_n dX0_pop_45 rfl) (mpp 46 rfl ?_)
      refine mp_a (a_aload_n dX0_pop_46 rfl) (mpp 47 rfl ?_)
      refine mt_callv (i := 30) (q' := q_17) (As := [.ref b54]) (rest := []) hT44 dX0_pop_47 rfl qm_17 (by decide) rfl hb (by decide) rfl (Nat.le_of_ble_eq_true rfl) rfl ⟨rfl, rfl⟩ ⟨Nat.le_of_ble_eq_true rfl, Nat.le_of_ble_eq_true rfl⟩ (EvP.mono (by decide) (c_copyState hT44 hb q55)) (fun r56 P57 g58 => mpp 50 rfl ?_)
      obtain ⟨rfl, e60, k61⟩ := g58
      have k62 := KX.trans k47 k61
      show MEvP _ none q_118 50 [(2, .ref b54), (0, .ref a), (1, .ref b)] [] _ _ _ _
      exact mp_ret (⟨rfl, e60, k62⟩) dX0_pop_50 rfl

set_option maxHeartbeats 4000000 in
theorem c_clearHistory {P : mP} {a : Nat} (hT : Typ P) (ha : rl a = 6) : EvP 1 121 [.ref a] P (fun r P' => r = none ∧ Typ P' ∧ KX P P') := by
  refine EvP.of qm_121 (Nat.le_of_ble_eq_true rfl) rfl ?_
  show MEvP _ none q_121 0 [(0, .ref a)] [] _ 0 0 _
  refine mp_a (a_aload_n dX0_clear_0 rfl) (mpp 1 rfl ?_)
  refine mp_a (a_iconst (v := 0) dX0_clear_1 rfl) (mpp 2 rfl ?_)
  refine mt_putI (i := 34) (k := 2) (x := 0) hT dX0_clear_2 rfl ha (by decide) rfl (by decide) rfl (by decide) rfl rfl (fun P1 hT2 f3 f4 => mpp 5 rfl ?_)
  have k5 := KX.step (KX.refl P) ha (by decide) f4
  exact mp_ret (⟨rfl, hT2, k5⟩) dX0_clear_5 rfl

