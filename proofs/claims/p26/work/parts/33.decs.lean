/-! decoders and methods (written by a program) -/
theorem dX0_clear_0 : decode cX0_clear 0 = .ok (.aload_n 0, 1) := by decide +kernel
theorem dX0_clear_1 : decode cX0_clear 1 = .ok (.iconst 0, 1) := by decide +kernel
theorem dX0_clear_2 : decode cX0_clear 2 = .ok (.putfield 34, 3) := by decide +kernel
theorem dX0_clear_5 : decode cX0_clear 5 = .ok (.return_, 1) := by decide +kernel
theorem dX0_pop_0 : decode cX0_pop 0 = .ok (.aload_n 0, 1) := by decide +kernel
theorem dX0_pop_1 : decode cX0_pop 1 = .ok (.aload_n 0, 1) := by decide +kernel
theorem dX0_pop_2 : decode cX0_pop 2 = .ok (.getfield 18, 3) := by decide +kernel
theorem dX0_pop_5 : decode cX0_pop 5 = .ok (.ifCond .le 12, 3) := by decide +kernel
theorem dX0_pop_8 : decode cX0_pop 8 = .ok (.aload_n 0, 1) := by decide +kernel
theorem dX0_pop_9 : decode cX0_pop 9 = .ok (.getfield 18, 3) := by decide +kernel
theorem dX0_pop_12 : decode cX0_pop 12 = .ok (.iconst 1, 1) := by decide +kernel
theorem dX0_pop_13 : decode cX0_pop 13 = .ok (.isub, 1) := by decide +kernel
theorem dX0_pop_14 : decode cX0_pop 14 = .ok (.goto 5, 3) := by decide +kernel
theorem dX0_pop_17 : decode cX0_pop 17 = .ok (.bipush 7, 2) := by decide +kernel
theorem dX0_pop_19 : decode cX0_pop 19 = .ok (.putfield 18, 3) := by decide +kernel
theorem dX0_pop_22 : decode cX0_pop 22 = .ok (.aload_n 0, 1) := by decide +kernel
theorem dX0_pop_23 : decode cX0_pop 23 = .ok (.dup, 1) := by decide +kernel
theorem dX0_pop_24 : decode cX0_pop 24 = .ok (.getfield 34, 3) := by decide +kernel
theorem dX0_pop_27 : decode cX0_pop 27 = .ok (.iconst 1, 1) := by decide +kernel
theorem dX0_pop_28 : decode cX0_pop 28 = .ok (.isub, 1) := by decide +kernel
theorem dX0_pop_29 : decode cX0_pop 29 = .ok (.putfield 34, 3) := by decide +kernel
theorem dX0_pop_32 : decode cX0_pop 32 = .ok (.aload_n 0, 1) := by decide +kernel
theorem dX0_pop_33 : decode cX0_pop 33 = .ok (.aload_n 0, 1) := by decide +kernel
theorem dX0_pop_34 : decode cX0_pop 34 = .ok (.getfield 18, 3) := by decide +kernel
theorem dX0_pop_37 : decode cX0_pop 37 = .ok (.invokevirtual 22, 3) := by decide +kernel
theorem dX0_pop_40 : decode cX0_pop 40 = .ok (.astore_n 2, 1) := by decide +kernel
theorem dX0_pop_41 : decode cX0_pop 41 = .ok (.aload_n 2, 1) := by decide +kernel
theorem dX0_pop_42 : decode cX0_pop 42 = .ok (.ifnull 8, 3) := by decide +kernel
theorem dX0_pop_45 : decode cX0_pop 45 = .ok (.aload_n 1, 1) := by decide +kernel
theorem dX0_pop_46 : decode cX0_pop 46 = .ok (.aload_n 2, 1) := by decide +kernel
theorem dX0_pop_47 : decode cX0_pop 47 = .ok (.invokevirtual 30, 3) := by decide +kernel
theorem dX0_pop_50 : decode cX0_pop 50 = .ok (.return_, 1) := by decide +kernel
theorem dX0_push_0 : decode cX0_push 0 = .ok (.aload_n 0, 1) := by decide +kernel
theorem dX0_push_1 : decode cX0_push 1 = .ok (.aload_n 0, 1) := by decide +kernel
theorem dX0_push_2 : decode cX0_push 2 = .ok (.getfield 18, 3) := by decide +kernel
theorem dX0_push_5 : decode cX0_push 5 = .ok (.invokevirtual 22, 3) := by decide +kernel
theorem dX0_push_8 : decode cX0_push 8 = .ok (.astore_n 2, 1) := by decide +kernel
theorem dX0_push_9 : decode cX0_push 9 = .ok (.aload_n 2, 1) := by decide +kernel
theorem dX0_push_10 : decode cX0_push 10 = .ok (.ifnull 53, 3) := by decide +kernel
theorem dX0_push_13 : decode cX0_push 13 = .ok (.aload_n 0, 1) := by decide +kernel
theorem dX0_push_14 : decode cX0_push 14 = .ok (.getfield 26, 3) := by decide +kernel
theorem dX0_push_17 : decode cX0_push 17 = .ok (.ifCond .ne 46, 3) := by decide +kernel
theorem dX0_push_20 : decode cX0_push 20 = .ok (.aload_n 2, 1) := by decide +kernel
theorem dX0_push_21 : decode cX0_push 21 = .ok (.aload_n 1, 1) := by decide +kernel
theorem dX0_push_22 : decode cX0_push 22 = .ok (.invokevirtual 30, 3) := by decide +kernel
theorem dX0_push_25 : decode cX0_push 25 = .ok (.aload_n 0, 1) := by decide +kernel
theorem dX0_push_26 : decode cX0_push 26 = .ok (.aload_n 0, 1) := by decide +kernel
theorem dX0_push_27 : decode cX0_push 27 = .ok (.getfield 18, 3) := by decide +kernel
theorem dX0_push_30 : decode cX0_push 30 = .ok (.bipush 7, 2) := by decide +kernel
theorem dX0_push_32 : decode cX0_push 32 = .ok (.if_icmp .ge 12, 3) := by decide +kernel
theorem dX0_push_35 : decode cX0_push 35 = .ok (.aload_n 0, 1) := by decide +kernel
theorem dX0_push_36 : decode cX0_push 36 = .ok (.getfield 18, 3) := by decide +kernel
theorem dX0_push_39 : decode cX0_push 39 = .ok (.iconst 1, 1) := by decide +kernel
theorem dX0_push_40 : decode cX0_push 40 = .ok (.iadd, 1) := by decide +kernel
theorem dX0_push_41 : decode cX0_push 41 = .ok (.goto 4, 3) := by decide +kernel
theorem dX0_push_44 : decode cX0_push 44 = .ok (.iconst 0, 1) := by decide +kernel
theorem dX0_push_45 : decode cX0_push 45 = .ok (.putfield 18, 3) := by decide +kernel
theorem dX0_push_48 : decode cX0_push 48 = .ok (.aload_n 0, 1) := by decide +kernel
theorem dX0_push_49 : decode cX0_push 49 = .ok (.aload_n 0, 1) := by decide +kernel
theorem dX0_push_50 : decode cX0_push 50 = .ok (.getfield 34, 3) := by decide +kernel
theorem dX0_push_53 : decode cX0_push 53 = .ok (.iconst 1, 1) := by decide +kernel
theorem dX0_push_54 : decode cX0_push 54 = .ok (.iadd, 1) := by decide +kernel
theorem dX0_push_55 : decode cX0_push 55 = .ok (.bipush 8, 2) := by decide +kernel
theorem dX0_push_57 : decode cX0_push 57 = .ok (.invokestatic 37, 3) := by decide +kernel
theorem dX0_push_60 : decode cX0_push 60 = .ok (.putfield 34, 3) := by decide +kernel
theorem dX0_push_63 : decode cX0_push 63 = .ok (.return_, 1) := by decide +kernel
theorem dX0_stateAt_0 : decode cX0_stateAt 0 = .ok (.iload_n 1, 1) := by decide +kernel
theorem dX0_stateAt_1 : decode cX0_stateAt 1 = .ok (.ifCond .lt 21, 3) := by decide +kernel
theorem dX0_stateAt_4 : decode cX0_stateAt 4 = .ok (.iload_n 1, 1) := by decide +kernel
theorem dX0_stateAt_5 : decode cX0_stateAt 5 = .ok (.aload_n 0, 1) := by decide +kernel
theorem dX0_stateAt_6 : decode cX0_stateAt 6 = .ok (.getfield 11, 3) := by decide +kernel
theorem dX0_stateAt_9 : decode cX0_stateAt 9 = .ok (.arraylength, 1) := by decide +kernel
theorem dX0_stateAt_10 : decode cX0_stateAt 10 = .ok (.if_icmp .ge 12, 3) := by decide +kernel
theorem dX0_stateAt_13 : decode cX0_stateAt 13 = .ok (.aload_n 0, 1) := by decide +kernel
theorem dX0_stateAt_14 : decode cX0_stateAt 14 = .ok (.getfield 11, 3) := by decide +kernel
theorem dX0_stateAt_17 : decode cX0_stateAt 17 = .ok (.iload_n 1, 1) := by decide +kernel
theorem dX0_stateAt_18 : decode cX0_stateAt 18 = .ok (.aaload, 1) := by decide +kernel
theorem dX0_stateAt_19 : decode cX0_stateAt 19 = .ok (.goto 4, 3) := by decide +kernel
theorem dX0_stateAt_22 : decode cX0_stateAt 22 = .ok (.aconst_null, 1) := by decide +kernel
theorem dX0_stateAt_23 : decode cX0_stateAt 23 = .ok (.areturn, 1) := by decide +kernel
theorem dX1_load_0 : decode cX1_load 0 = .ok (.aload_n 0, 1) := by decide +kernel
theorem dX1_load_1 : decode cX1_load 1 = .ok (.aload_n 1, 1) := by decide +kernel
theorem dX1_load_2 : decode cX1_load 2 = .ok (.getfield 42, 3) := by decide +kernel
theorem dX1_load_5 : decode cX1_load 5 = .ok (.bipush 7, 2) := by decide +kernel
theorem dX1_load_7 : decode cX1_load 7 = .ok (.invokestatic 45, 3) := by decide +kernel
theorem dX1_load_10 : decode cX1_load 10 = .ok (.putfield 30, 3) := by decide +kernel
theorem dX1_load_13 : decode cX1_load 13 = .ok (.aload_n 1, 1) := by decide +kernel
theorem dX1_load_14 : decode cX1_load 14 = .ok (.getfield 51, 3) := by decide +kernel
theorem dX1_load_17 : decode cX1_load 17 = .ok (.aload_n 0, 1) := by decide +kernel
theorem dX1_load_18 : decode cX1_load 18 = .ok (.getfield 18, 3) := by decide +kernel
theorem dX1_load_21 : decode cX1_load 21 = .ok (.invokestatic 52, 3) := by decide +kernel
theorem dX1_load_24 : decode cX1_load 24 = .ok (.iconst 0, 1) := by decide +kernel
theorem dX1_load_25 : decode cX1_load 25 = .ok (.istore_n 2, 1) := by decide +kernel
theorem dX1_load_26 : decode cX1_load 26 = .ok (.iload_n 2, 1) := by decide +kernel
theorem dX1_load_27 : decode cX1_load 27 = .ok (.aload_n 0, 1) := by decide +kernel
theorem dX1_load_28 : decode cX1_load 28 = .ok (.getfield 30, 3) := by decide +kernel
theorem dX1_load_31 : decode cX1_load 31 = .ok (.if_icmp .gt 22, 3) := by decide +kernel
theorem dX1_load_34 : decode cX1_load 34 = .ok (.aload_n 0, 1) := by decide +kernel
theorem dX1_load_35 : decode cX1_load 35 = .ok (.getfield 15, 3) := by decide +kernel
theorem dX1_load_38 : decode cX1_load 38 = .ok (.iload_n 2, 1) := by decide +kernel
theorem dX1_load_39 : decode cX1_load 39 = .ok (.aload_n 1, 1) := by decide +kernel
theorem dX1_load_40 : decode cX1_load 40 = .ok (.iload_n 2, 1) := by decide +kernel
theorem dX1_load_41 : decode cX1_load 41 = .ok (.invokevirtual 56, 3) := by decide +kernel
theorem dX1_load_44 : decode cX1_load 44 = .ok (.invokestatic 25, 3) := by decide +kernel
theorem dX1_load_47 : decode cX1_load 47 = .ok (.iinc 2 1, 3) := by decide +kernel
theorem dX1_load_50 : decode cX1_load 50 = .ok (.goto (-24), 3) := by decide +kernel
theorem dX1_load_53 : decode cX1_load 53 = .ok (.return_, 1) := by decide +kernel
theorem dX1_search_0 : decode cX1_search 0 = .ok (.aload_n 0, 1) := by decide +kernel
theorem dX1_search_1 : decode cX1_search 1 = .ok (.aload_n 1, 1) := by decide +kernel
theorem dX1_search_2 : decode cX1_search 2 = .ok (.invokevirtual 21, 3) := by decide +kernel
theorem dX1_search_5 : decode cX1_search 5 = .ok (.iconst 0, 1) := by decide +kernel
theorem dX1_search_6 : decode cX1_search 6 = .ok (.istore_n 3, 1) := by decide +kernel
theorem dX1_search_7 : decode cX1_search 7 = .ok (.iconst 0, 1) := by decide +kernel
theorem dX1_search_8 : decode cX1_search 8 = .ok (.istore 4, 2) := by decide +kernel
theorem dX1_search_10 : decode cX1_search 10 = .ok (.aload_n 0, 1) := by decide +kernel
theorem dX1_search_11 : decode cX1_search 11 = .ok (.getfield 9, 3) := by decide +kernel
theorem dX1_search_14 : decode cX1_search 14 = .ok (.iconst 0, 1) := by decide +kernel
theorem dX1_search_15 : decode cX1_search 15 = .ok (.iconst (-1), 1) := by decide +kernel
theorem dX1_search_16 : decode cX1_search 16 = .ok (.invokestatic 25, 3) := by decide +kernel
theorem dX1_search_19 : decode cX1_search 19 = .ok (.iconst 0, 1) := by decide +kernel
theorem dX1_search_20 : decode cX1_search 20 = .ok (.istore 5, 2) := by decide +kernel
theorem dX1_search_22 : decode cX1_search 22 = .ok (.iload 5, 2) := by decide +kernel
theorem dX1_search_24 : decode cX1_search 24 = .ok (.ldc 29, 2) := by decide +kernel
theorem dX2_becomeEndOf_0 : decode cX2_becomeEndOf 0 = .ok (.aload_n 0, 1) := by decide +kernel
theorem dX2_becomeEndOf_1 : decode cX2_becomeEndOf 1 = .ok (.iconst 0, 1) := by decide +kernel
theorem dX2_becomeEndOf_2 : decode cX2_becomeEndOf 2 = .ok (.putfield 18, 3) := by decide +kernel
theorem dX2_becomeEndOf_5 : decode cX2_becomeEndOf 5 = .ok (.aload_n 0, 1) := by decide +kernel
theorem dX2_becomeEndOf_6 : decode cX2_becomeEndOf 6 = .ok (.iconst 0, 1) := by decide +kernel
theorem dX2_becomeEndOf_7 : decode cX2_becomeEndOf 7 = .ok (.putfield 22, 3) := by decide +kernel
theorem dX2_becomeEndOf_10 : decode cX2_becomeEndOf 10 = .ok (.aload_n 0, 1) := by decide +kernel
theorem dX2_becomeEndOf_11 : decode cX2_becomeEndOf 11 = .ok (.aload_n 1, 1) := by decide +kernel
theorem dX2_becomeEndOf_12 : decode cX2_becomeEndOf 12 = .ok (.getfield 26, 3) := by decide +kernel
theorem dX2_becomeEndOf_15 : decode cX2_becomeEndOf 15 = .ok (.iload_n 2, 1) := by decide +kernel
theorem dX2_becomeEndOf_16 : decode cX2_becomeEndOf 16 = .ok (.isub, 1) := by decide +kernel
theorem dX2_becomeEndOf_17 : decode cX2_becomeEndOf 17 = .ok (.putfield 26, 3) := by decide +kernel
theorem dX2_becomeEndOf_20 : decode cX2_becomeEndOf 20 = .ok (.iconst 0, 1) := by decide +kernel
theorem dX2_becomeEndOf_21 : decode cX2_becomeEndOf 21 = .ok (.istore_n 3, 1) := by decide +kernel
theorem dX2_becomeEndOf_22 : decode cX2_becomeEndOf 22 = .ok (.iload_n 3, 1) := by decide +kernel
theorem dX2_becomeEndOf_23 : decode cX2_becomeEndOf 23 = .ok (.aload_n 0, 1) := by decide +kernel
theorem dX2_becomeEndOf_24 : decode cX2_becomeEndOf 24 = .ok (.getfield 26, 3) := by decide +kernel
theorem dX2_becomeEndOf_27 : decode cX2_becomeEndOf 27 = .ok (.if_icmp .ge 45, 3) := by decide +kernel
theorem dX2_becomeEndOf_30 : decode cX2_becomeEndOf 30 = .ok (.aload_n 0, 1) := by decide +kernel
theorem dX2_becomeEndOf_31 : decode cX2_becomeEndOf 31 = .ok (.getfield 9, 3) := by decide +kernel
theorem dX2_becomeEndOf_34 : decode cX2_becomeEndOf 34 = .ok (.iload_n 3, 1) := by decide +kernel
theorem dX2_becomeEndOf_35 : decode cX2_becomeEndOf 35 = .ok (.aload_n 1, 1) := by decide +kernel
theorem dX2_becomeEndOf_36 : decode cX2_becomeEndOf 36 = .ok (.getfield 9, 3) := by decide +kernel
theorem dX2_becomeEndOf_39 : decode cX2_becomeEndOf 39 = .ok (.iload_n 2, 1) := by decide +kernel
theorem dX2_becomeEndOf_40 : decode cX2_becomeEndOf 40 = .ok (.iload_n 3, 1) := by decide +kernel
theorem dX2_becomeEndOf_41 : decode cX2_becomeEndOf 41 = .ok (.iadd, 1) := by decide +kernel
theorem dX2_becomeEndOf_42 : decode cX2_becomeEndOf 42 = .ok (.invokestatic 48, 3) := by decide +kernel
theorem dX2_becomeEndOf_45 : decode cX2_becomeEndOf 45 = .ok (.invokestatic 29, 3) := by decide +kernel
theorem dX2_becomeEndOf_48 : decode cX2_becomeEndOf 48 = .ok (.aload_n 0, 1) := by decide +kernel
theorem dX2_becomeEndOf_49 : decode cX2_becomeEndOf 49 = .ok (.getfield 15, 3) := by decide +kernel
theorem dX2_becomeEndOf_52 : decode cX2_becomeEndOf 52 = .ok (.iload_n 3, 1) := by decide +kernel
theorem dX2_becomeEndOf_53 : decode cX2_becomeEndOf 53 = .ok (.aload_n 1, 1) := by decide +kernel
theorem dX2_becomeEndOf_54 : decode cX2_becomeEndOf 54 = .ok (.getfield 15, 3) := by decide +kernel
theorem dX2_becomeEndOf_57 : decode cX2_becomeEndOf 57 = .ok (.iload_n 2, 1) := by decide +kernel
theorem dX2_becomeEndOf_58 : decode cX2_becomeEndOf 58 = .ok (.iload_n 3, 1) := by decide +kernel
theorem dX2_becomeEndOf_59 : decode cX2_becomeEndOf 59 = .ok (.iadd, 1) := by decide +kernel
theorem dX2_becomeEndOf_60 : decode cX2_becomeEndOf 60 = .ok (.invokestatic 48, 3) := by decide +kernel
theorem dX2_becomeEndOf_63 : decode cX2_becomeEndOf 63 = .ok (.invokestatic 29, 3) := by decide +kernel
theorem dX2_becomeEndOf_66 : decode cX2_becomeEndOf 66 = .ok (.iinc 3 1, 3) := by decide +kernel
theorem dX2_becomeEndOf_69 : decode cX2_becomeEndOf 69 = .ok (.goto (-47), 3) := by decide +kernel
theorem dX2_becomeEndOf_72 : decode cX2_becomeEndOf 72 = .ok (.return_, 1) := by decide +kernel
theorem dX2_becomeRotated_0 : decode cX2_becomeRotated 0 = .ok (.iconst 0, 1) := by decide +kernel
theorem dX2_becomeRotated_1 : decode cX2_becomeRotated 1 = .ok (.istore_n 3, 1) := by decide +kernel
theorem dX2_becomeRotated_2 : decode cX2_becomeRotated 2 = .ok (.iload_n 3, 1) := by decide +kernel
theorem dX2_becomeRotated_3 : decode cX2_becomeRotated 3 = .ok (.aload_n 0, 1) := by decide +kernel
theorem dX2_becomeRotated_4 : decode cX2_becomeRotated 4 = .ok (.getfield 26, 3) := by decide +kernel
theorem dX2_becomeRotated_7 : decode cX2_becomeRotated 7 = .ok (.if_icmp .ge 69, 3) := by decide +kernel
theorem dX2_becomeRotated_10 : decode cX2_becomeRotated 10 = .ok (.iload_n 2, 1) := by decide +kernel
theorem dX2_becomeRotated_11 : decode cX2_becomeRotated 11 = .ok (.iload_n 3, 1) := by decide +kernel
theorem dX2_becomeRotated_12 : decode cX2_becomeRotated 12 = .ok (.iadd, 1) := by decide +kernel
theorem dX2_becomeRotated_13 : decode cX2_becomeRotated 13 = .ok (.aload_n 0, 1) := by decide +kernel
theorem dX2_becomeRotated_14 : decode cX2_becomeRotated 14 = .ok (.getfield 26, 3) := by decide +kernel
theorem dX2_becomeRotated_17 : decode cX2_becomeRotated 17 = .ok (.if_icmp .ge 9, 3) := by decide +kernel
theorem dX2_becomeRotated_20 : decode cX2_becomeRotated 20 = .ok (.iload_n 2, 1) := by decide +kernel
theorem dX2_becomeRotated_21 : decode cX2_becomeRotated 21 = .ok (.iload_n 3, 1) := by decide +kernel
theorem dX2_becomeRotated_22 : decode cX2_becomeRotated 22 = .ok (.iadd, 1) := by decide +kernel
theorem dX2_becomeRotated_23 : decode cX2_becomeRotated 23 = .ok (.goto 11, 3) := by decide +kernel
theorem dX2_becomeRotated_26 : decode cX2_becomeRotated 26 = .ok (.iload_n 2, 1) := by decide +kernel
theorem dX2_becomeRotated_27 : decode cX2_becomeRotated 27 = .ok (.iload_n 3, 1) := by decide +kernel
theorem dX2_becomeRotated_28 : decode cX2_becomeRotated 28 = .ok (.iadd, 1) := by decide +kernel
theorem dX2_becomeRotated_29 : decode cX2_becomeRotated 29 = .ok (.aload_n 0, 1) := by decide +kernel
theorem dX2_becomeRotated_30 : decode cX2_becomeRotated 30 = .ok (.getfield 26, 3) := by decide +kernel
theorem dX2_becomeRotated_33 : decode cX2_becomeRotated 33 = .ok (.isub, 1) := by decide +kernel
theorem dX2_becomeRotated_34 : decode cX2_becomeRotated 34 = .ok (.istore 4, 2) := by decide +kernel
theorem dX2_becomeRotated_36 : decode cX2_becomeRotated 36 = .ok (.aload_n 0, 1) := by decide +kernel
theorem dX2_becomeRotated_37 : decode cX2_becomeRotated 37 = .ok (.getfield 9, 3) := by decide +kernel
theorem dX2_becomeRotated_40 : decode cX2_becomeRotated 40 = .ok (.iload_n 3, 1) := by decide +kernel
theorem dX2_becomeRotated_41 : decode cX2_becomeRotated 41 = .ok (.aload_n 1, 1) := by decide +kernel
theorem dX2_becomeRotated_42 : decode cX2_becomeRotated 42 = .ok (.getfield 9, 3) := by decide +kernel
theorem dX2_becomeRotated_45 : decode cX2_becomeRotated 45 = .ok (.iload 4, 2) := by decide +kernel
theorem dX2_becomeRotated_47 : decode cX2_becomeRotated 47 = .ok (.invokestatic 48, 3) := by decide +kernel
theorem dX2_becomeRotated_50 : decode cX2_becomeRotated 50 = .ok (.invokestatic 29, 3) := by decide +kernel
theorem dX2_becomeRotated_53 : decode cX2_becomeRotated 53 = .ok (.aload_n 0, 1) := by decide +kernel
theorem dX2_becomeRotated_54 : decode cX2_becomeRotated 54 = .ok (.getfield 15, 3) := by decide +kernel
theorem dX2_becomeRotated_57 : decode cX2_becomeRotated 57 = .ok (.iload_n 3, 1) := by decide +kernel
theorem dX2_becomeRotated_58 : decode cX2_becomeRotated 58 = .ok (.aload_n 1, 1) := by decide +kernel
theorem dX2_becomeRotated_59 : decode cX2_becomeRotated 59 = .ok (.getfield 15, 3) := by decide +kernel
theorem dX2_becomeRotated_62 : decode cX2_becomeRotated 62 = .ok (.iload 4, 2) := by decide +kernel
theorem dX2_becomeRotated_64 : decode cX2_becomeRotated 64 = .ok (.invokestatic 48, 3) := by decide +kernel
theorem dX2_becomeRotated_67 : decode cX2_becomeRotated 67 = .ok (.invokestatic 29, 3) := by decide +kernel
theorem dX2_becomeRotated_70 : decode cX2_becomeRotated 70 = .ok (.iinc 3 1, 3) := by decide +kernel
theorem dX2_becomeRotated_73 : decode cX2_becomeRotated 73 = .ok (.goto (-71), 3) := by decide +kernel
theorem dX2_becomeRotated_76 : decode cX2_becomeRotated 76 = .ok (.return_, 1) := by decide +kernel
theorem dX2_copyFrom_0 : decode cX2_copyFrom 0 = .ok (.aload_n 0, 1) := by decide +kernel
theorem dX2_copyFrom_1 : decode cX2_copyFrom 1 = .ok (.aload_n 1, 1) := by decide +kernel
theorem dX2_copyFrom_2 : decode cX2_copyFrom 2 = .ok (.getfield 18, 3) := by decide +kernel
theorem dX2_copyFrom_5 : decode cX2_copyFrom 5 = .ok (.putfield 18, 3) := by decide +kernel
theorem dX2_copyFrom_8 : decode cX2_copyFrom 8 = .ok (.aload_n 0, 1) := by decide +kernel
theorem dX2_copyFrom_9 : decode cX2_copyFrom 9 = .ok (.aload_n 1, 1) := by decide +kernel
theorem dX2_copyFrom_10 : decode cX2_copyFrom 10 = .ok (.getfield 26, 3) := by decide +kernel
theorem dX2_copyFrom_13 : decode cX2_copyFrom 13 = .ok (.putfield 26, 3) := by decide +kernel
theorem dX2_copyFrom_16 : decode cX2_copyFrom 16 = .ok (.aload_n 0, 1) := by decide +kernel
theorem dX2_copyFrom_17 : decode cX2_copyFrom 17 = .ok (.aload_n 1, 1) := by decide +kernel
theorem dX2_copyFrom_18 : decode cX2_copyFrom 18 = .ok (.getfield 22, 3) := by decide +kernel
theorem dX2_copyFrom_21 : decode cX2_copyFrom 21 = .ok (.putfield 22, 3) := by decide +kernel
theorem dX2_copyFrom_24 : decode cX2_copyFrom 24 = .ok (.aload_n 1, 1) := by decide +kernel
theorem dX2_copyFrom_25 : decode cX2_copyFrom 25 = .ok (.getfield 9, 3) := by decide +kernel
theorem dX2_copyFrom_28 : decode cX2_copyFrom 28 = .ok (.aload_n 0, 1) := by decide +kernel
theorem dX2_copyFrom_29 : decode cX2_copyFrom 29 = .ok (.getfield 9, 3) := by decide +kernel
theorem dX2_copyFrom_32 : decode cX2_copyFrom 32 = .ok (.invokestatic 44, 3) := by decide +kernel
theorem dX2_copyFrom_35 : decode cX2_copyFrom 35 = .ok (.aload_n 1, 1) := by decide +kernel
theorem dX2_copyFrom_36 : decode cX2_copyFrom 36 = .ok (.getfield 15, 3) := by decide +kernel
theorem dX2_copyFrom_39 : decode cX2_copyFrom 39 = .ok (.aload_n 0, 1) := by decide +kernel
theorem dX2_copyFrom_40 : decode cX2_copyFrom 40 = .ok (.getfield 15, 3) := by decide +kernel
theorem dX2_copyFrom_43 : decode cX2_copyFrom 43 = .ok (.invokestatic 44, 3) := by decide +kernel
theorem dX2_copyFrom_46 : decode cX2_copyFrom 46 = .ok (.return_, 1) := by decide +kernel
theorem dX2_countOf_0 : decode cX2_countOf 0 = .ok (.iconst 0, 1) := by decide +kernel
theorem dX2_countOf_1 : decode cX2_countOf 1 = .ok (.istore_n 2, 1) := by decide +kernel
theorem dX2_countOf_2 : decode cX2_countOf 2 = .ok (.iconst 0, 1) := by decide +kernel
theorem dX2_countOf_3 : decode cX2_countOf 3 = .ok (.istore_n 3, 1) := by decide +kernel
theorem dX2_countOf_4 : decode cX2_countOf 4 = .ok (.iload_n 3, 1) := by decide +kernel
theorem dX2_countOf_5 : decode cX2_countOf 5 = .ok (.aload_n 0, 1) := by decide +kernel
theorem dX2_countOf_6 : decode cX2_countOf 6 = .ok (.invokevirtual 37, 3) := by decide +kernel
theorem dX2_countOf_9 : decode cX2_countOf 9 = .ok (.if_icmp .ge 24, 3) := by decide +kernel
theorem dX2_countOf_12 : decode cX2_countOf 12 = .ok (.aload_n 0, 1) := by decide +kernel
theorem dX2_countOf_13 : decode cX2_countOf 13 = .ok (.getfield 15, 3) := by decide +kernel
theorem dX2_countOf_16 : decode cX2_countOf 16 = .ok (.iload_n 3, 1) := by decide +kernel
theorem dX2_countOf_17 : decode cX2_countOf 17 = .ok (.invokestatic 48, 3) := by decide +kernel
theorem dX2_countOf_20 : decode cX2_countOf 20 = .ok (.iload_n 1, 1) := by decide +kernel
theorem dX2_countOf_21 : decode cX2_countOf 21 = .ok (.if_icmp .ne 6, 3) := by decide +kernel
theorem dX2_countOf_24 : decode cX2_countOf 24 = .ok (.iinc 2 1, 3) := by decide +kernel
theorem dX2_countOf_27 : decode cX2_countOf 27 = .ok (.iinc 3 1, 3) := by decide +kernel
theorem dX2_countOf_30 : decode cX2_countOf 30 = .ok (.goto (-26), 3) := by decide +kernel
theorem dX2_countOf_33 : decode cX2_countOf 33 = .ok (.iload_n 2, 1) := by decide +kernel
theorem dX2_countOf_34 : decode cX2_countOf 34 = .ok (.ireturn, 1) := by decide +kernel
theorem dX2_creaseCount_0 : decode cX2_creaseCount 0 = .ok (.aload_n 0, 1) := by decide +kernel
theorem dX2_creaseCount_1 : decode cX2_creaseCount 1 = .ok (.getfield 18, 3) := by decide +kernel
theorem dX2_creaseCount_4 : decode cX2_creaseCount 4 = .ok (.ifCond .ne 12, 3) := by decide +kernel
theorem dX2_creaseCount_7 : decode cX2_creaseCount 7 = .ok (.aload_n 0, 1) := by decide +kernel
theorem dX2_creaseCount_8 : decode cX2_creaseCount 8 = .ok (.getfield 26, 3) := by decide +kernel
theorem dX2_creaseCount_11 : decode cX2_creaseCount 11 = .ok (.iconst 1, 1) := by decide +kernel
theorem dX2_creaseCount_12 : decode cX2_creaseCount 12 = .ok (.isub, 1) := by decide +kernel
theorem dX2_creaseCount_13 : decode cX2_creaseCount 13 = .ok (.goto 7, 3) := by decide +kernel
theorem dX2_creaseCount_16 : decode cX2_creaseCount 16 = .ok (.aload_n 0, 1) := by decide +kernel
theorem dX2_creaseCount_17 : decode cX2_creaseCount 17 = .ok (.getfield 26, 3) := by decide +kernel
theorem dX2_creaseCount_20 : decode cX2_creaseCount 20 = .ok (.ireturn, 1) := by decide +kernel
theorem dX2_greatestSize_0 : decode cX2_greatestSize 0 = .ok (.iconst 0, 1) := by decide +kernel
theorem dX2_greatestSize_1 : decode cX2_greatestSize 1 = .ok (.istore_n 1, 1) := by decide +kernel
theorem dX2_greatestSize_2 : decode cX2_greatestSize 2 = .ok (.iconst 0, 1) := by decide +kernel
theorem dX2_greatestSize_3 : decode cX2_greatestSize 3 = .ok (.istore_n 2, 1) := by decide +kernel
theorem dX2_greatestSize_4 : decode cX2_greatestSize 4 = .ok (.iload_n 2, 1) := by decide +kernel
theorem dX2_greatestSize_5 : decode cX2_greatestSize 5 = .ok (.aload_n 0, 1) := by decide +kernel
theorem dX2_greatestSize_6 : decode cX2_greatestSize 6 = .ok (.getfield 26, 3) := by decide +kernel
theorem dX2_greatestSize_9 : decode cX2_greatestSize 9 = .ok (.if_icmp .ge 22, 3) := by decide +kernel
theorem dX2_greatestSize_12 : decode cX2_greatestSize 12 = .ok (.iload_n 1, 1) := by decide +kernel
theorem dX2_greatestSize_13 : decode cX2_greatestSize 13 = .ok (.aload_n 0, 1) := by decide +kernel
theorem dX2_greatestSize_14 : decode cX2_greatestSize 14 = .ok (.getfield 9, 3) := by decide +kernel
theorem dX2_greatestSize_17 : decode cX2_greatestSize 17 = .ok (.iload_n 2, 1) := by decide +kernel
theorem dX2_greatestSize_18 : decode cX2_greatestSize 18 = .ok (.invokestatic 48, 3) := by decide +kernel
theorem dX2_greatestSize_21 : decode cX2_greatestSize 21 = .ok (.invokestatic 65, 3) := by decide +kernel
theorem dX2_greatestSize_24 : decode cX2_greatestSize 24 = .ok (.istore_n 1, 1) := by decide +kernel
theorem dX2_greatestSize_25 : decode cX2_greatestSize 25 = .ok (.iinc 2 1, 3) := by decide +kernel
theorem dX2_greatestSize_28 : decode cX2_greatestSize 28 = .ok (.goto (-24), 3) := by decide +kernel
theorem dX2_greatestSize_31 : decode cX2_greatestSize 31 = .ok (.iload_n 1, 1) := by decide +kernel
theorem dX2_greatestSize_32 : decode cX2_greatestSize 32 = .ok (.ireturn, 1) := by decide +kernel
theorem dX2_hasCrease_0 : decode cX2_hasCrease 0 = .ok (.iload_n 1, 1) := by decide +kernel
theorem dX2_hasCrease_1 : decode cX2_hasCrease 1 = .ok (.ifCond .lt 15, 3) := by decide +kernel
theorem dX2_hasCrease_4 : decode cX2_hasCrease 4 = .ok (.iload_n 1, 1) := by decide +kernel
theorem dX2_hasCrease_5 : decode cX2_hasCrease 5 = .ok (.aload_n 0, 1) := by decide +kernel
theorem dX2_hasCrease_6 : decode cX2_hasCrease 6 = .ok (.invokevirtual 37, 3) := by decide +kernel
theorem dX2_hasCrease_9 : decode cX2_hasCrease 9 = .ok (.if_icmp .ge 7, 3) := by decide +kernel
theorem dX2_hasCrease_12 : decode cX2_hasCrease 12 = .ok (.iconst 1, 1) := by decide +kernel
theorem dX2_hasCrease_13 : decode cX2_hasCrease 13 = .ok (.goto 4, 3) := by decide +kernel
theorem dX2_hasCrease_16 : decode cX2_hasCrease 16 = .ok (.iconst 0, 1) := by decide +kernel
theorem dX2_hasCrease_17 : decode cX2_hasCrease 17 = .ok (.ireturn, 1) := by decide +kernel
theorem dX2_isUndecided_0 : decode cX2_isUndecided 0 = .ok (.aload_n 0, 1) := by decide +kernel
theorem dX2_isUndecided_1 : decode cX2_isUndecided 1 = .ok (.iconst 0, 1) := by decide +kernel
theorem dX2_isUndecided_2 : decode cX2_isUndecided 2 = .ok (.invokevirtual 52, 3) := by decide +kernel
theorem dX2_isUndecided_5 : decode cX2_isUndecided 5 = .ok (.ifCond .le 7, 3) := by decide +kernel
theorem dX2_isUndecided_8 : decode cX2_isUndecided 8 = .ok (.iconst 1, 1) := by decide +kernel
theorem dX2_isUndecided_9 : decode cX2_isUndecided 9 = .ok (.goto 4, 3) := by decide +kernel
theorem dX2_isUndecided_12 : decode cX2_isUndecided 12 = .ok (.iconst 0, 1) := by decide +kernel
theorem dX2_isUndecided_13 : decode cX2_isUndecided 13 = .ok (.ireturn, 1) := by decide +kernel
theorem dX2_leftEndOf_0 : decode cX2_leftEndOf 0 = .ok (.aload_n 0, 1) := by decide +kernel
theorem dX2_leftEndOf_1 : decode cX2_leftEndOf 1 = .ok (.iload_n 1, 1) := by decide +kernel
theorem dX2_leftEndOf_2 : decode cX2_leftEndOf 2 = .ok (.invokevirtual 56, 3) := by decide +kernel
theorem dX2_leftEndOf_5 : decode cX2_leftEndOf 5 = .ok (.aload_n 0, 1) := by decide +kernel
theorem dX2_leftEndOf_6 : decode cX2_leftEndOf 6 = .ok (.iload_n 1, 1) := by decide +kernel
theorem dX2_leftEndOf_7 : decode cX2_leftEndOf 7 = .ok (.iconst 1, 1) := by decide +kernel
theorem dX2_leftEndOf_8 : decode cX2_leftEndOf 8 = .ok (.iadd, 1) := by decide +kernel
theorem dX2_leftEndOf_9 : decode cX2_leftEndOf 9 = .ok (.invokevirtual 56, 3) := by decide +kernel
theorem dX2_leftEndOf_12 : decode cX2_leftEndOf 12 = .ok (.invokestatic 59, 3) := by decide +kernel
theorem dX2_leftEndOf_15 : decode cX2_leftEndOf 15 = .ok (.ireturn, 1) := by decide +kernel
theorem dX2_lengthenBy_0 : decode cX2_lengthenBy 0 = .ok (.aload_n 0, 1) := by decide +kernel
theorem dX2_lengthenBy_1 : decode cX2_lengthenBy 1 = .ok (.getfield 15, 3) := by decide +kernel
theorem dX2_lengthenBy_4 : decode cX2_lengthenBy 4 = .ok (.aload_n 0, 1) := by decide +kernel
theorem dX2_lengthenBy_5 : decode cX2_lengthenBy 5 = .ok (.getfield 26, 3) := by decide +kernel
theorem dX2_lengthenBy_8 : decode cX2_lengthenBy 8 = .ok (.iconst 1, 1) := by decide +kernel
theorem dX2_lengthenBy_9 : decode cX2_lengthenBy 9 = .ok (.isub, 1) := by decide +kernel
theorem dX2_lengthenBy_10 : decode cX2_lengthenBy 10 = .ok (.iload_n 2, 1) := by decide +kernel
theorem dX2_lengthenBy_11 : decode cX2_lengthenBy 11 = .ok (.invokestatic 29, 3) := by decide +kernel
theorem dX2_lengthenBy_14 : decode cX2_lengthenBy 14 = .ok (.iconst 0, 1) := by decide +kernel
theorem dX2_lengthenBy_15 : decode cX2_lengthenBy 15 = .ok (.istore_n 3, 1) := by decide +kernel
theorem dX2_lengthenBy_16 : decode cX2_lengthenBy 16 = .ok (.iload_n 3, 1) := by decide +kernel
theorem dX2_lengthenBy_17 : decode cX2_lengthenBy 17 = .ok (.aload_n 1, 1) := by decide +kernel
theorem dX2_lengthenBy_18 : decode cX2_lengthenBy 18 = .ok (.getfield 26, 3) := by decide +kernel
theorem dX2_lengthenBy_21 : decode cX2_lengthenBy 21 = .ok (.if_icmp .ge 51, 3) := by decide +kernel
theorem dX2_lengthenBy_24 : decode cX2_lengthenBy 24 = .ok (.aload_n 0, 1) := by decide +kernel
theorem dX2_lengthenBy_25 : decode cX2_lengthenBy 25 = .ok (.getfield 9, 3) := by decide +kernel
theorem dX2_lengthenBy_28 : decode cX2_lengthenBy 28 = .ok (.aload_n 0, 1) := by decide +kernel
theorem dX2_lengthenBy_29 : decode cX2_lengthenBy 29 = .ok (.getfield 26, 3) := by decide +kernel
theorem dX2_lengthenBy_32 : decode cX2_lengthenBy 32 = .ok (.iload_n 3, 1) := by decide +kernel
theorem dX2_lengthenBy_33 : decode cX2_lengthenBy 33 = .ok (.iadd, 1) := by decide +kernel
theorem dX2_lengthenBy_34 : decode cX2_lengthenBy 34 = .ok (.aload_n 1, 1) := by decide +kernel
theorem dX2_lengthenBy_35 : decode cX2_lengthenBy 35 = .ok (.getfield 9, 3) := by decide +kernel
theorem dX2_lengthenBy_38 : decode cX2_lengthenBy 38 = .ok (.iload_n 3, 1) := by decide +kernel
theorem dX2_lengthenBy_39 : decode cX2_lengthenBy 39 = .ok (.invokestatic 48, 3) := by decide +kernel
theorem dX2_lengthenBy_42 : decode cX2_lengthenBy 42 = .ok (.invokestatic 29, 3) := by decide +kernel
theorem dX2_lengthenBy_45 : decode cX2_lengthenBy 45 = .ok (.aload_n 0, 1) := by decide +kernel
theorem dX2_lengthenBy_46 : decode cX2_lengthenBy 46 = .ok (.getfield 15, 3) := by decide +kernel
theorem dX2_lengthenBy_49 : decode cX2_lengthenBy 49 = .ok (.aload_n 0, 1) := by decide +kernel
theorem dX2_lengthenBy_50 : decode cX2_lengthenBy 50 = .ok (.getfield 26, 3) := by decide +kernel
theorem dX2_lengthenBy_53 : decode cX2_lengthenBy 53 = .ok (.iload_n 3, 1) := by decide +kernel
theorem dX2_lengthenBy_54 : decode cX2_lengthenBy 54 = .ok (.iadd, 1) := by decide +kernel
theorem dX2_lengthenBy_55 : decode cX2_lengthenBy 55 = .ok (.aload_n 1, 1) := by decide +kernel
theorem dX2_lengthenBy_56 : decode cX2_lengthenBy 56 = .ok (.getfield 15, 3) := by decide +kernel
theorem dX2_lengthenBy_59 : decode cX2_lengthenBy 59 = .ok (.iload_n 3, 1) := by decide +kernel
theorem dX2_lengthenBy_60 : decode cX2_lengthenBy 60 = .ok (.invokestatic 48, 3) := by decide +kernel
theorem dX2_lengthenBy_63 : decode cX2_lengthenBy 63 = .ok (.invokestatic 29, 3) := by decide +kernel
theorem dX2_lengthenBy_66 : decode cX2_lengthenBy 66 = .ok (.iinc 3 1, 3) := by decide +kernel
theorem dX2_lengthenBy_69 : decode cX2_lengthenBy 69 = .ok (.goto (-53), 3) := by decide +kernel
theorem dX2_lengthenBy_72 : decode cX2_lengthenBy 72 = .ok (.aload_n 0, 1) := by decide +kernel
theorem dX2_lengthenBy_73 : decode cX2_lengthenBy 73 = .ok (.dup, 1) := by decide +kernel
theorem dX2_lengthenBy_74 : decode cX2_lengthenBy 74 = .ok (.getfield 26, 3) := by decide +kernel
theorem dX2_lengthenBy_77 : decode cX2_lengthenBy 77 = .ok (.aload_n 1, 1) := by decide +kernel
theorem dX2_lengthenBy_78 : decode cX2_lengthenBy 78 = .ok (.getfield 26, 3) := by decide +kernel
theorem dX2_lengthenBy_81 : decode cX2_lengthenBy 81 = .ok (.iadd, 1) := by decide +kernel
theorem dX2_lengthenBy_82 : decode cX2_lengthenBy 82 = .ok (.putfield 26, 3) := by decide +kernel
theorem dX2_lengthenBy_85 : decode cX2_lengthenBy 85 = .ok (.return_, 1) := by decide +kernel
theorem dX2_lowestUndecided_0 : decode cX2_lowestUndecided 0 = .ok (.iconst 0, 1) := by decide +kernel
theorem dX2_lowestUndecided_1 : decode cX2_lowestUndecided 1 = .ok (.istore_n 1, 1) := by decide +kernel
theorem dX2_lowestUndecided_2 : decode cX2_lowestUndecided 2 = .ok (.iconst 0, 1) := by decide +kernel
theorem dX2_lowestUndecided_3 : decode cX2_lowestUndecided 3 = .ok (.istore_n 2, 1) := by decide +kernel
theorem dX2_lowestUndecided_4 : decode cX2_lowestUndecided 4 = .ok (.iload_n 2, 1) := by decide +kernel
theorem dX2_lowestUndecided_5 : decode cX2_lowestUndecided 5 = .ok (.aload_n 0, 1) := by decide +kernel
theorem dX2_lowestUndecided_6 : decode cX2_lowestUndecided 6 = .ok (.invokevirtual 37, 3) := by decide +kernel
theorem dX2_lowestUndecided_9 : decode cX2_lowestUndecided 9 = .ok (.if_icmp .ge 24, 3) := by decide +kernel
theorem dX2_lowestUndecided_12 : decode cX2_lowestUndecided 12 = .ok (.aload_n 0, 1) := by decide +kernel
theorem dX2_lowestUndecided_13 : decode cX2_lowestUndecided 13 = .ok (.getfield 15, 3) := by decide +kernel
theorem dX2_lowestUndecided_16 : decode cX2_lowestUndecided 16 = .ok (.iload_n 2, 1) := by decide +kernel
theorem dX2_lowestUndecided_17 : decode cX2_lowestUndecided 17 = .ok (.invokestatic 48, 3) := by decide +kernel
theorem dX2_lowestUndecided_20 : decode cX2_lowestUndecided 20 = .ok (.ifCond .eq 13, 3) := by decide +kernel
theorem dX2_lowestUndecided_23 : decode cX2_lowestUndecided 23 = .ok (.iload_n 2, 1) := by decide +kernel
theorem dX2_lowestUndecided_24 : decode cX2_lowestUndecided 24 = .ok (.iconst 1, 1) := by decide +kernel
theorem dX2_lowestUndecided_25 : decode cX2_lowestUndecided 25 = .ok (.iadd, 1) := by decide +kernel
theorem dX2_lowestUndecided_26 : decode cX2_lowestUndecided 26 = .ok (.istore_n 1, 1) := by decide +kernel
theorem dX2_lowestUndecided_27 : decode cX2_lowestUndecided 27 = .ok (.iinc 2 1, 3) := by decide +kernel
theorem dX2_lowestUndecided_30 : decode cX2_lowestUndecided 30 = .ok (.goto (-26), 3) := by decide +kernel
theorem dX2_lowestUndecided_33 : decode cX2_lowestUndecided 33 = .ok (.iload_n 1, 1) := by decide +kernel
theorem dX2_lowestUndecided_34 : decode cX2_lowestUndecided 34 = .ok (.ireturn, 1) := by decide +kernel
theorem dX2_panelsBehind_0 : decode cX2_panelsBehind 0 = .ok (.iconst 0, 1) := by decide +kernel
theorem dX2_panelsBehind_1 : decode cX2_panelsBehind 1 = .ok (.istore_n 2, 1) := by decide +kernel
theorem dX2_panelsBehind_2 : decode cX2_panelsBehind 2 = .ok (.iconst 0, 1) := by decide +kernel
theorem dX2_panelsBehind_3 : decode cX2_panelsBehind 3 = .ok (.istore_n 3, 1) := by decide +kernel
theorem dX2_panelsBehind_4 : decode cX2_panelsBehind 4 = .ok (.iload_n 3, 1) := by decide +kernel
theorem dX2_panelsBehind_5 : decode cX2_panelsBehind 5 = .ok (.aload_n 0, 1) := by decide +kernel
theorem dX2_panelsBehind_6 : decode cX2_panelsBehind 6 = .ok (.getfield 26, 3) := by decide +kernel
theorem dX2_panelsBehind_9 : decode cX2_panelsBehind 9 = .ok (.if_icmp .ge 30, 3) := by decide +kernel
theorem dX2_panelsBehind_12 : decode cX2_panelsBehind 12 = .ok (.aload_n 0, 1) := by decide +kernel
theorem dX2_panelsBehind_13 : decode cX2_panelsBehind 13 = .ok (.iload_n 3, 1) := by decide +kernel
theorem dX2_panelsBehind_14 : decode cX2_panelsBehind 14 = .ok (.invokevirtual 71, 3) := by decide +kernel
theorem dX2_panelsBehind_17 : decode cX2_panelsBehind 17 = .ok (.iload_n 1, 1) := by decide +kernel
theorem dX2_panelsBehind_18 : decode cX2_panelsBehind 18 = .ok (.if_icmp .gt 15, 3) := by decide +kernel
theorem dX2_panelsBehind_21 : decode cX2_panelsBehind 21 = .ok (.iload_n 1, 1) := by decide +kernel
theorem dX2_panelsBehind_22 : decode cX2_panelsBehind 22 = .ok (.aload_n 0, 1) := by decide +kernel
theorem dX2_panelsBehind_23 : decode cX2_panelsBehind 23 = .ok (.iload_n 3, 1) := by decide +kernel
theorem dX2_panelsBehind_24 : decode cX2_panelsBehind 24 = .ok (.invokevirtual 77, 3) := by decide +kernel
theorem dX2_panelsBehind_27 : decode cX2_panelsBehind 27 = .ok (.if_icmp .ge 6, 3) := by decide +kernel
theorem dX2_panelsBehind_30 : decode cX2_panelsBehind 30 = .ok (.iinc 2 1, 3) := by decide +kernel
theorem dX2_panelsBehind_33 : decode cX2_panelsBehind 33 = .ok (.iinc 3 1, 3) := by decide +kernel
theorem dX2_panelsBehind_36 : decode cX2_panelsBehind 36 = .ok (.goto (-32), 3) := by decide +kernel
theorem dX2_panelsBehind_39 : decode cX2_panelsBehind 39 = .ok (.iload_n 2, 1) := by decide +kernel
theorem dX2_panelsBehind_40 : decode cX2_panelsBehind 40 = .ok (.ireturn, 1) := by decide +kernel
theorem dX2_placeOf_0 : decode cX2_placeOf 0 = .ok (.iconst 0, 1) := by decide +kernel
theorem dX2_placeOf_1 : decode cX2_placeOf 1 = .ok (.istore_n 2, 1) := by decide +kernel
theorem dX2_placeOf_2 : decode cX2_placeOf 2 = .ok (.iconst 0, 1) := by decide +kernel
theorem dX2_placeOf_3 : decode cX2_placeOf 3 = .ok (.istore_n 3, 1) := by decide +kernel
theorem dX2_placeOf_4 : decode cX2_placeOf 4 = .ok (.iload_n 3, 1) := by decide +kernel
theorem dX2_placeOf_5 : decode cX2_placeOf 5 = .ok (.iload_n 1, 1) := by decide +kernel
theorem dX2_placeOf_6 : decode cX2_placeOf 6 = .ok (.if_icmp .ge 46, 3) := by decide +kernel
theorem dX2_placeOf_9 : decode cX2_placeOf 9 = .ok (.iload_n 3, 1) := by decide +kernel
theorem dX2_placeOf_10 : decode cX2_placeOf 10 = .ok (.aload_n 0, 1) := by decide +kernel
theorem dX2_placeOf_11 : decode cX2_placeOf 11 = .ok (.getfield 26, 3) := by decide +kernel
theorem dX2_placeOf_14 : decode cX2_placeOf 14 = .ok (.if_icmp .ge 38, 3) := by decide +kernel
theorem dX2_placeOf_17 : decode cX2_placeOf 17 = .ok (.iload_n 2, 1) := by decide +kernel
theorem dX2_placeOf_18 : decode cX2_placeOf 18 = .ok (.iload_n 3, 1) := by decide +kernel
theorem dX2_placeOf_19 : decode cX2_placeOf 19 = .ok (.iconst 2, 1) := by decide +kernel
theorem dX2_placeOf_20 : decode cX2_placeOf 20 = .ok (.irem, 1) := by decide +kernel
theorem dX2_placeOf_21 : decode cX2_placeOf 21 = .ok (.ifCond .ne 14, 3) := by decide +kernel
theorem dX2_placeOf_24 : decode cX2_placeOf 24 = .ok (.aload_n 0, 1) := by decide +kernel
theorem dX2_placeOf_25 : decode cX2_placeOf 25 = .ok (.getfield 9, 3) := by decide +kernel
theorem dX2_placeOf_28 : decode cX2_placeOf 28 = .ok (.iload_n 3, 1) := by decide +kernel
theorem dX2_placeOf_29 : decode cX2_placeOf 29 = .ok (.invokestatic 48, 3) := by decide +kernel
theorem dX2_placeOf_32 : decode cX2_placeOf 32 = .ok (.goto 12, 3) := by decide +kernel
theorem dX2_placeOf_35 : decode cX2_placeOf 35 = .ok (.aload_n 0, 1) := by decide +kernel
theorem dX2_placeOf_36 : decode cX2_placeOf 36 = .ok (.getfield 9, 3) := by decide +kernel
theorem dX2_placeOf_39 : decode cX2_placeOf 39 = .ok (.iload_n 3, 1) := by decide +kernel
theorem dX2_placeOf_40 : decode cX2_placeOf 40 = .ok (.invokestatic 48, 3) := by decide +kernel
theorem dX2_placeOf_43 : decode cX2_placeOf 43 = .ok (.ineg, 1) := by decide +kernel
theorem dX2_placeOf_44 : decode cX2_placeOf 44 = .ok (.iadd, 1) := by decide +kernel
theorem dX2_placeOf_45 : decode cX2_placeOf 45 = .ok (.istore_n 2, 1) := by decide +kernel
theorem dX2_placeOf_46 : decode cX2_placeOf 46 = .ok (.iinc 3 1, 3) := by decide +kernel
theorem dX2_placeOf_49 : decode cX2_placeOf 49 = .ok (.goto (-45), 3) := by decide +kernel
theorem dX2_placeOf_52 : decode cX2_placeOf 52 = .ok (.iload_n 2, 1) := by decide +kernel
theorem dX2_placeOf_53 : decode cX2_placeOf 53 = .ok (.ireturn, 1) := by decide +kernel
theorem dX2_reflection_0 : decode cX2_reflection 0 = .ok (.iconst 0, 1) := by decide +kernel
theorem dX2_reflection_1 : decode cX2_reflection 1 = .ok (.istore_n 1, 1) := by decide +kernel
theorem dX2_reflection_2 : decode cX2_reflection 2 = .ok (.iconst 0, 1) := by decide +kernel
theorem dX2_reflection_3 : decode cX2_reflection 3 = .ok (.istore_n 2, 1) := by decide +kernel
theorem dX2_reflection_4 : decode cX2_reflection 4 = .ok (.iconst 0, 1) := by decide +kernel
theorem dX2_reflection_5 : decode cX2_reflection 5 = .ok (.istore_n 3, 1) := by decide +kernel
theorem dX2_reflection_6 : decode cX2_reflection 6 = .ok (.iload_n 3, 1) := by decide +kernel
theorem dX2_reflection_7 : decode cX2_reflection 7 = .ok (.aload_n 0, 1) := by decide +kernel
theorem dX2_reflection_8 : decode cX2_reflection 8 = .ok (.getfield 26, 3) := by decide +kernel
theorem dX2_reflection_11 : decode cX2_reflection 11 = .ok (.if_icmp .ge 31, 3) := by decide +kernel
theorem dX2_reflection_14 : decode cX2_reflection 14 = .ok (.iconst 2, 1) := by decide +kernel
theorem dX2_reflection_15 : decode cX2_reflection 15 = .ok (.iload_n 2, 1) := by decide +kernel
theorem dX2_reflection_16 : decode cX2_reflection 16 = .ok (.imul, 1) := by decide +kernel
theorem dX2_reflection_17 : decode cX2_reflection 17 = .ok (.iload_n 1, 1) := by decide +kernel
theorem dX2_reflection_18 : decode cX2_reflection 18 = .ok (.isub, 1) := by decide +kernel
theorem dX2_reflection_19 : decode cX2_reflection 19 = .ok (.bipush 24, 2) := by decide +kernel
theorem dX2_reflection_21 : decode cX2_reflection 21 = .ok (.invokestatic 80, 3) := by decide +kernel
theorem dX2_reflection_42 : decode cX2_reflection 42 = .ok (.iload_n 1, 1) := by decide +kernel
theorem dX2_reflection_43 : decode cX2_reflection 43 = .ok (.ireturn, 1) := by decide +kernel
theorem dX2_rightEndOf_0 : decode cX2_rightEndOf 0 = .ok (.aload_n 0, 1) := by decide +kernel
theorem dX2_rightEndOf_1 : decode cX2_rightEndOf 1 = .ok (.iload_n 1, 1) := by decide +kernel
theorem dX2_rightEndOf_2 : decode cX2_rightEndOf 2 = .ok (.invokevirtual 56, 3) := by decide +kernel
theorem dX2_rightEndOf_5 : decode cX2_rightEndOf 5 = .ok (.aload_n 0, 1) := by decide +kernel
theorem dX2_rightEndOf_6 : decode cX2_rightEndOf 6 = .ok (.iload_n 1, 1) := by decide +kernel
theorem dX2_rightEndOf_7 : decode cX2_rightEndOf 7 = .ok (.iconst 1, 1) := by decide +kernel
theorem dX2_rightEndOf_8 : decode cX2_rightEndOf 8 = .ok (.iadd, 1) := by decide +kernel
theorem dX2_rightEndOf_9 : decode cX2_rightEndOf 9 = .ok (.invokevirtual 56, 3) := by decide +kernel
theorem dX2_rightEndOf_12 : decode cX2_rightEndOf 12 = .ok (.invokestatic 65, 3) := by decide +kernel
theorem dX2_rightEndOf_15 : decode cX2_rightEndOf 15 = .ok (.ireturn, 1) := by decide +kernel
theorem dX2_sizesAsNumber_0 : decode cX2_sizesAsNumber 0 = .ok (.iconst 0, 1) := by decide +kernel
theorem dX2_sizesAsNumber_1 : decode cX2_sizesAsNumber 1 = .ok (.istore_n 1, 1) := by decide +kernel
theorem dX2_sizesAsNumber_2 : decode cX2_sizesAsNumber 2 = .ok (.iconst 0, 1) := by decide +kernel
theorem dX2_sizesAsNumber_3 : decode cX2_sizesAsNumber 3 = .ok (.istore_n 2, 1) := by decide +kernel
theorem dX2_sizesAsNumber_4 : decode cX2_sizesAsNumber 4 = .ok (.iload_n 2, 1) := by decide +kernel
theorem dX2_sizesAsNumber_5 : decode cX2_sizesAsNumber 5 = .ok (.aload_n 0, 1) := by decide +kernel
theorem dX2_sizesAsNumber_6 : decode cX2_sizesAsNumber 6 = .ok (.getfield 26, 3) := by decide +kernel
theorem dX2_sizesAsNumber_9 : decode cX2_sizesAsNumber 9 = .ok (.if_icmp .ge 23, 3) := by decide +kernel
theorem dX2_sizesAsNumber_12 : decode cX2_sizesAsNumber 12 = .ok (.iload_n 1, 1) := by decide +kernel
theorem dX2_sizesAsNumber_13 : decode cX2_sizesAsNumber 13 = .ok (.bipush 10, 2) := by decide +kernel
theorem dX2_sizesAsNumber_15 : decode cX2_sizesAsNumber 15 = .ok (.imul, 1) := by decide +kernel
theorem dX2_sizesAsNumber_16 : decode cX2_sizesAsNumber 16 = .ok (.aload_n 0, 1) := by decide +kernel
theorem dX2_sizesAsNumber_17 : decode cX2_sizesAsNumber 17 = .ok (.getfield 9, 3) := by decide +kernel
theorem dX2_sizesAsNumber_20 : decode cX2_sizesAsNumber 20 = .ok (.iload_n 2, 1) := by decide +kernel
theorem dX2_sizesAsNumber_21 : decode cX2_sizesAsNumber 21 = .ok (.invokestatic 48, 3) := by decide +kernel
theorem dX2_sizesAsNumber_24 : decode cX2_sizesAsNumber 24 = .ok (.iadd, 1) := by decide +kernel
theorem dX2_sizesAsNumber_25 : decode cX2_sizesAsNumber 25 = .ok (.istore_n 1, 1) := by decide +kernel
theorem dX2_sizesAsNumber_26 : decode cX2_sizesAsNumber 26 = .ok (.iinc 2 1, 3) := by decide +kernel
theorem dX2_sizesAsNumber_29 : decode cX2_sizesAsNumber 29 = .ok (.goto (-25), 3) := by decide +kernel
theorem dX2_sizesAsNumber_32 : decode cX2_sizesAsNumber 32 = .ok (.iload_n 1, 1) := by decide +kernel
theorem dX2_sizesAsNumber_33 : decode cX2_sizesAsNumber 33 = .ok (.ireturn, 1) := by decide +kernel
theorem dX2_sum_0 : decode cX2_sum 0 = .ok (.iconst 0, 1) := by decide +kernel
theorem dX2_sum_1 : decode cX2_sum 1 = .ok (.istore_n 1, 1) := by decide +kernel
theorem dX2_sum_2 : decode cX2_sum 2 = .ok (.iconst 0, 1) := by decide +kernel
theorem dX2_sum_3 : decode cX2_sum 3 = .ok (.istore_n 2, 1) := by decide +kernel
theorem dX2_sum_4 : decode cX2_sum 4 = .ok (.iload_n 2, 1) := by decide +kernel
theorem dX2_sum_5 : decode cX2_sum 5 = .ok (.aload_n 0, 1) := by decide +kernel
theorem dX2_sum_6 : decode cX2_sum 6 = .ok (.getfield 26, 3) := by decide +kernel
theorem dX2_sum_9 : decode cX2_sum 9 = .ok (.if_icmp .ge 20, 3) := by decide +kernel
theorem dX2_sum_12 : decode cX2_sum 12 = .ok (.iload_n 1, 1) := by decide +kernel
theorem dX2_sum_13 : decode cX2_sum 13 = .ok (.aload_n 0, 1) := by decide +kernel
theorem dX2_sum_14 : decode cX2_sum 14 = .ok (.getfield 9, 3) := by decide +kernel
theorem dX2_sum_17 : decode cX2_sum 17 = .ok (.iload_n 2, 1) := by decide +kernel
theorem dX2_sum_18 : decode cX2_sum 18 = .ok (.invokestatic 48, 3) := by decide +kernel
theorem dX2_sum_21 : decode cX2_sum 21 = .ok (.iadd, 1) := by decide +kernel
theorem dX2_sum_22 : decode cX2_sum 22 = .ok (.istore_n 1, 1) := by decide +kernel
theorem dX2_sum_23 : decode cX2_sum 23 = .ok (.iinc 2 1, 3) := by decide +kernel
theorem dX2_sum_26 : decode cX2_sum 26 = .ok (.goto (-22), 3) := by decide +kernel
theorem dX2_sum_29 : decode cX2_sum 29 = .ok (.iload_n 1, 1) := by decide +kernel
theorem dX2_sum_30 : decode cX2_sum 30 = .ok (.ireturn, 1) := by decide +kernel
theorem dX2_takeCreases_0 : decode cX2_takeCreases 0 = .ok (.iload_n 1, 1) := by decide +kernel
theorem dX2_takeCreases_1 : decode cX2_takeCreases 1 = .ok (.ifCond .lt 7, 3) := by decide +kernel
theorem dX2_takeCreases_4 : decode cX2_takeCreases 4 = .ok (.iconst 1, 1) := by decide +kernel
theorem dX2_takeCreases_5 : decode cX2_takeCreases 5 = .ok (.goto 4, 3) := by decide +kernel
theorem dX2_takeCreases_8 : decode cX2_takeCreases 8 = .ok (.iconst 0, 1) := by decide +kernel
theorem dX2_takeCreases_9 : decode cX2_takeCreases 9 = .ok (.istore_n 2, 1) := by decide +kernel
theorem dX2_takeCreases_10 : decode cX2_takeCreases 10 = .ok (.iload_n 1, 1) := by decide +kernel
theorem dX2_takeCreases_11 : decode cX2_takeCreases 11 = .ok (.istore_n 3, 1) := by decide +kernel
theorem dX2_takeCreases_12 : decode cX2_takeCreases 12 = .ok (.aload_n 0, 1) := by decide +kernel
theorem dX2_takeCreases_13 : decode cX2_takeCreases 13 = .ok (.invokevirtual 37, 3) := by decide +kernel
theorem dX2_takeCreases_16 : decode cX2_takeCreases 16 = .ok (.iconst 1, 1) := by decide +kernel
theorem dX2_takeCreases_17 : decode cX2_takeCreases 17 = .ok (.isub, 1) := by decide +kernel
theorem dX2_takeCreases_18 : decode cX2_takeCreases 18 = .ok (.istore 4, 2) := by decide +kernel
theorem dX2_takeCreases_20 : decode cX2_takeCreases 20 = .ok (.iload 4, 2) := by decide +kernel
theorem dX2_takeCreases_22 : decode cX2_takeCreases 22 = .ok (.ifCond .lt 47, 3) := by decide +kernel
theorem dX2_takeCreases_25 : decode cX2_takeCreases 25 = .ok (.iload_n 2, 1) := by decide +kernel
theorem dX2_takeCreases_26 : decode cX2_takeCreases 26 = .ok (.ifCond .eq 17, 3) := by decide +kernel
theorem dX2_takeCreases_29 : decode cX2_takeCreases 29 = .ok (.iload_n 3, 1) := by decide +kernel
theorem dX2_takeCreases_30 : decode cX2_takeCreases 30 = .ok (.bipush 10, 2) := by decide +kernel
theorem dX2_takeCreases_32 : decode cX2_takeCreases 32 = .ok (.irem, 1) := by decide +kernel
theorem dX2_takeCreases_33 : decode cX2_takeCreases 33 = .ok (.invokestatic 40, 3) := by decide +kernel
theorem dX2_takeCreases_36 : decode cX2_takeCreases 36 = .ok (.ifCond .eq 7, 3) := by decide +kernel
theorem dX2_takeCreases_39 : decode cX2_takeCreases 39 = .ok (.iconst 1, 1) := by decide +kernel
theorem dX2_takeCreases_40 : decode cX2_takeCreases 40 = .ok (.goto 4, 3) := by decide +kernel
theorem dX2_takeCreases_43 : decode cX2_takeCreases 43 = .ok (.iconst 0, 1) := by decide +kernel
theorem dX2_takeCreases_44 : decode cX2_takeCreases 44 = .ok (.istore_n 2, 1) := by decide +kernel
theorem dX2_takeCreases_45 : decode cX2_takeCreases 45 = .ok (.aload_n 0, 1) := by decide +kernel
theorem dX2_takeCreases_46 : decode cX2_takeCreases 46 = .ok (.getfield 15, 3) := by decide +kernel
theorem dX2_takeCreases_49 : decode cX2_takeCreases 49 = .ok (.iload 4, 2) := by decide +kernel
theorem dX2_takeCreases_51 : decode cX2_takeCreases 51 = .ok (.iload_n 3, 1) := by decide +kernel
theorem dX2_takeCreases_52 : decode cX2_takeCreases 52 = .ok (.bipush 10, 2) := by decide +kernel
theorem dX2_takeCreases_54 : decode cX2_takeCreases 54 = .ok (.irem, 1) := by decide +kernel
theorem dX2_takeCreases_55 : decode cX2_takeCreases 55 = .ok (.invokestatic 29, 3) := by decide +kernel
theorem dX2_takeCreases_58 : decode cX2_takeCreases 58 = .ok (.iload_n 3, 1) := by decide +kernel
theorem dX2_takeCreases_59 : decode cX2_takeCreases 59 = .ok (.bipush 10, 2) := by decide +kernel
theorem dX2_takeCreases_61 : decode cX2_takeCreases 61 = .ok (.idiv, 1) := by decide +kernel
theorem dX2_takeCreases_62 : decode cX2_takeCreases 62 = .ok (.istore_n 3, 1) := by decide +kernel
theorem dX2_takeCreases_63 : decode cX2_takeCreases 63 = .ok (.iinc 4 (-1), 3) := by decide +kernel
theorem dX2_takeCreases_66 : decode cX2_takeCreases 66 = .ok (.goto (-46), 3) := by decide +kernel
theorem dX2_takeCreases_69 : decode cX2_takeCreases 69 = .ok (.iload_n 2, 1) := by decide +kernel
theorem dX2_takeCreases_70 : decode cX2_takeCreases 70 = .ok (.ifCond .eq 11, 3) := by decide +kernel
theorem dX2_takeCreases_73 : decode cX2_takeCreases 73 = .ok (.iload_n 3, 1) := by decide +kernel
theorem dX2_takeCreases_74 : decode cX2_takeCreases 74 = .ok (.ifCond .ne 7, 3) := by decide +kernel
theorem dX2_takeCreases_77 : decode cX2_takeCreases 77 = .ok (.iconst 1, 1) := by decide +kernel
theorem dX2_takeCreases_78 : decode cX2_takeCreases 78 = .ok (.goto 4, 3) := by decide +kernel
theorem dX2_takeCreases_81 : decode cX2_takeCreases 81 = .ok (.iconst 0, 1) := by decide +kernel
theorem dX2_takeCreases_82 : decode cX2_takeCreases 82 = .ok (.ireturn, 1) := by decide +kernel
theorem dX2_takeSizes_0 : decode cX2_takeSizes 0 = .ok (.aload_n 0, 1) := by decide +kernel
theorem dX2_takeSizes_1 : decode cX2_takeSizes 1 = .ok (.iload_n 1, 1) := by decide +kernel
theorem dX2_takeSizes_2 : decode cX2_takeSizes 2 = .ok (.putfield 18, 3) := by decide +kernel
theorem dX2_takeSizes_5 : decode cX2_takeSizes 5 = .ok (.aload_n 0, 1) := by decide +kernel
theorem dX2_takeSizes_6 : decode cX2_takeSizes 6 = .ok (.iconst 0, 1) := by decide +kernel
theorem dX2_takeSizes_7 : decode cX2_takeSizes 7 = .ok (.putfield 22, 3) := by decide +kernel
theorem dX2_takeSizes_10 : decode cX2_takeSizes 10 = .ok (.aload_n 0, 1) := by decide +kernel
theorem dX2_takeSizes_11 : decode cX2_takeSizes 11 = .ok (.iconst 0, 1) := by decide +kernel
theorem dX2_takeSizes_12 : decode cX2_takeSizes 12 = .ok (.putfield 26, 3) := by decide +kernel
theorem dX2_takeSizes_15 : decode cX2_takeSizes 15 = .ok (.iload_n 2, 1) := by decide +kernel
theorem dX2_takeSizes_16 : decode cX2_takeSizes 16 = .ok (.istore_n 3, 1) := by decide +kernel
theorem dX2_takeSizes_17 : decode cX2_takeSizes 17 = .ok (.iconst 0, 1) := by decide +kernel
theorem dX2_takeSizes_18 : decode cX2_takeSizes 18 = .ok (.istore 4, 2) := by decide +kernel
theorem dX2_takeSizes_20 : decode cX2_takeSizes 20 = .ok (.iload 4, 2) := by decide +kernel
theorem dX2_takeSizes_22 : decode cX2_takeSizes 22 = .ok (.bipush 8, 2) := by decide +kernel
theorem dX2_takeSizes_24 : decode cX2_takeSizes 24 = .ok (.if_icmp .ge 28, 3) := by decide +kernel
theorem dX2_takeSizes_27 : decode cX2_takeSizes 27 = .ok (.iload_n 3, 1) := by decide +kernel
theorem dX2_takeSizes_28 : decode cX2_takeSizes 28 = .ok (.ifCond .le 24, 3) := by decide +kernel
theorem dX2_takeSizes_31 : decode cX2_takeSizes 31 = .ok (.iload_n 3, 1) := by decide +kernel
theorem dX2_takeSizes_32 : decode cX2_takeSizes 32 = .ok (.bipush 10, 2) := by decide +kernel
theorem dX2_takeSizes_34 : decode cX2_takeSizes 34 = .ok (.idiv, 1) := by decide +kernel
theorem dX2_takeSizes_35 : decode cX2_takeSizes 35 = .ok (.istore_n 3, 1) := by decide +kernel
theorem dX2_takeSizes_36 : decode cX2_takeSizes 36 = .ok (.aload_n 0, 1) := by decide +kernel
theorem dX2_takeSizes_37 : decode cX2_takeSizes 37 = .ok (.dup, 1) := by decide +kernel
theorem dX2_takeSizes_38 : decode cX2_takeSizes 38 = .ok (.getfield 26, 3) := by decide +kernel
theorem dX2_takeSizes_41 : decode cX2_takeSizes 41 = .ok (.iconst 1, 1) := by decide +kernel
theorem dX2_takeSizes_42 : decode cX2_takeSizes 42 = .ok (.iadd, 1) := by decide +kernel
theorem dX2_takeSizes_43 : decode cX2_takeSizes 43 = .ok (.putfield 26, 3) := by decide +kernel
theorem dX2_takeSizes_46 : decode cX2_takeSizes 46 = .ok (.iinc 4 1, 3) := by decide +kernel
theorem dX2_takeSizes_49 : decode cX2_takeSizes 49 = .ok (.goto (-29), 3) := by decide +kernel
theorem dX2_takeSizes_52 : decode cX2_takeSizes 52 = .ok (.iload_n 3, 1) := by decide +kernel
theorem dX2_takeSizes_53 : decode cX2_takeSizes 53 = .ok (.ifCond .eq 5, 3) := by decide +kernel
theorem dX2_takeSizes_56 : decode cX2_takeSizes 56 = .ok (.iconst 0, 1) := by decide +kernel
theorem dX2_takeSizes_57 : decode cX2_takeSizes 57 = .ok (.ireturn, 1) := by decide +kernel
theorem dX2_takeSizes_58 : decode cX2_takeSizes 58 = .ok (.iload_n 2, 1) := by decide +kernel
theorem dX2_takeSizes_59 : decode cX2_takeSizes 59 = .ok (.istore_n 3, 1) := by decide +kernel
theorem dX2_takeSizes_60 : decode cX2_takeSizes 60 = .ok (.aload_n 0, 1) := by decide +kernel
theorem dX2_takeSizes_61 : decode cX2_takeSizes 61 = .ok (.getfield 26, 3) := by decide +kernel
theorem dX2_takeSizes_64 : decode cX2_takeSizes 64 = .ok (.iconst 1, 1) := by decide +kernel
theorem dX2_takeSizes_65 : decode cX2_takeSizes 65 = .ok (.isub, 1) := by decide +kernel
theorem dX2_takeSizes_66 : decode cX2_takeSizes 66 = .ok (.istore 4, 2) := by decide +kernel
theorem dX2_takeSizes_68 : decode cX2_takeSizes 68 = .ok (.iload 4, 2) := by decide +kernel
theorem dX2_takeSizes_70 : decode cX2_takeSizes 70 = .ok (.ifCond .lt 36, 3) := by decide +kernel
theorem dX2_takeSizes_73 : decode cX2_takeSizes 73 = .ok (.iload_n 3, 1) := by decide +kernel
theorem dX2_takeSizes_74 : decode cX2_takeSizes 74 = .ok (.bipush 10, 2) := by decide +kernel
theorem dX2_takeSizes_76 : decode cX2_takeSizes 76 = .ok (.irem, 1) := by decide +kernel
theorem dX2_takeSizes_77 : decode cX2_takeSizes 77 = .ok (.ifCond .ne 5, 3) := by decide +kernel
theorem dX2_takeSizes_80 : decode cX2_takeSizes 80 = .ok (.iconst 0, 1) := by decide +kernel
theorem dX2_takeSizes_81 : decode cX2_takeSizes 81 = .ok (.ireturn, 1) := by decide +kernel
theorem dX2_takeSizes_82 : decode cX2_takeSizes 82 = .ok (.aload_n 0, 1) := by decide +kernel
theorem dX2_takeSizes_83 : decode cX2_takeSizes 83 = .ok (.getfield 9, 3) := by decide +kernel
theorem dX2_takeSizes_86 : decode cX2_takeSizes 86 = .ok (.iload 4, 2) := by decide +kernel
theorem dX2_takeSizes_88 : decode cX2_takeSizes 88 = .ok (.iload_n 3, 1) := by decide +kernel
theorem dX2_takeSizes_89 : decode cX2_takeSizes 89 = .ok (.bipush 10, 2) := by decide +kernel
theorem dX2_takeSizes_91 : decode cX2_takeSizes 91 = .ok (.irem, 1) := by decide +kernel
theorem dX2_takeSizes_92 : decode cX2_takeSizes 92 = .ok (.invokestatic 29, 3) := by decide +kernel
theorem dX2_takeSizes_95 : decode cX2_takeSizes 95 = .ok (.iload_n 3, 1) := by decide +kernel
theorem dX2_takeSizes_96 : decode cX2_takeSizes 96 = .ok (.bipush 10, 2) := by decide +kernel
theorem dX2_takeSizes_98 : decode cX2_takeSizes 98 = .ok (.idiv, 1) := by decide +kernel
theorem dX2_takeSizes_99 : decode cX2_takeSizes 99 = .ok (.istore_n 3, 1) := by decide +kernel
theorem dX2_takeSizes_100 : decode cX2_takeSizes 100 = .ok (.iinc 4 (-1), 3) := by decide +kernel
theorem dX2_takeSizes_103 : decode cX2_takeSizes 103 = .ok (.goto (-35), 3) := by decide +kernel
theorem dX2_takeSizes_106 : decode cX2_takeSizes 106 = .ok (.aload_n 0, 1) := by decide +kernel
theorem dX2_takeSizes_107 : decode cX2_takeSizes 107 = .ok (.getfield 18, 3) := by decide +kernel
theorem dX2_takeSizes_110 : decode cX2_takeSizes 110 = .ok (.ifCond .ne 26, 3) := by decide +kernel
theorem dX2_takeSizes_113 : decode cX2_takeSizes 113 = .ok (.aload_n 0, 1) := by decide +kernel
theorem dX2_takeSizes_114 : decode cX2_takeSizes 114 = .ok (.getfield 26, 3) := by decide +kernel
theorem dX2_takeSizes_117 : decode cX2_takeSizes 117 = .ok (.iconst 2, 1) := by decide +kernel
theorem dX2_takeSizes_118 : decode cX2_takeSizes 118 = .ok (.if_icmp .lt 16, 3) := by decide +kernel
theorem dX2_takeSizes_121 : decode cX2_takeSizes 121 = .ok (.aload_n 0, 1) := by decide +kernel
theorem dX2_takeSizes_122 : decode cX2_takeSizes 122 = .ok (.getfield 26, 3) := by decide +kernel
theorem dX2_takeSizes_125 : decode cX2_takeSizes 125 = .ok (.bipush 7, 2) := by decide +kernel
theorem dX2_takeSizes_127 : decode cX2_takeSizes 127 = .ok (.if_icmp .gt 7, 3) := by decide +kernel
theorem dX2_takeSizes_130 : decode cX2_takeSizes 130 = .ok (.iconst 1, 1) := by decide +kernel
theorem dX2_takeSizes_131 : decode cX2_takeSizes 131 = .ok (.goto 4, 3) := by decide +kernel
theorem dX2_takeSizes_134 : decode cX2_takeSizes 134 = .ok (.iconst 0, 1) := by decide +kernel
theorem dX2_takeSizes_135 : decode cX2_takeSizes 135 = .ok (.ireturn, 1) := by decide +kernel
theorem dX2_takeSizes_136 : decode cX2_takeSizes 136 = .ok (.aload_n 0, 1) := by decide +kernel
theorem dX2_takeSizes_137 : decode cX2_takeSizes 137 = .ok (.getfield 26, 3) := by decide +kernel
theorem dX2_takeSizes_140 : decode cX2_takeSizes 140 = .ok (.iconst 4, 1) := by decide +kernel
theorem dX2_takeSizes_141 : decode cX2_takeSizes 141 = .ok (.if_icmp .eq 21, 3) := by decide +kernel
theorem dX2_takeSizes_144 : decode cX2_takeSizes 144 = .ok (.aload_n 0, 1) := by decide +kernel
theorem dX2_takeSizes_145 : decode cX2_takeSizes 145 = .ok (.getfield 26, 3) := by decide +kernel
theorem dX2_takeSizes_148 : decode cX2_takeSizes 148 = .ok (.bipush 6, 2) := by decide +kernel
theorem dX2_takeSizes_150 : decode cX2_takeSizes 150 = .ok (.if_icmp .eq 12, 3) := by decide +kernel
theorem dX2_takeSizes_153 : decode cX2_takeSizes 153 = .ok (.aload_n 0, 1) := by decide +kernel
theorem dX2_takeSizes_154 : decode cX2_takeSizes 154 = .ok (.getfield 26, 3) := by decide +kernel
theorem dX2_takeSizes_157 : decode cX2_takeSizes 157 = .ok (.bipush 8, 2) := by decide +kernel
theorem dX2_takeSizes_159 : decode cX2_takeSizes 159 = .ok (.if_icmp .ne 16, 3) := by decide +kernel
theorem dX2_takeSizes_162 : decode cX2_takeSizes 162 = .ok (.aload_n 0, 1) := by decide +kernel
theorem dX2_takeSizes_163 : decode cX2_takeSizes 163 = .ok (.invokevirtual 33, 3) := by decide +kernel
theorem dX2_takeSizes_166 : decode cX2_takeSizes 166 = .ok (.bipush 24, 2) := by decide +kernel
theorem dX2_takeSizes_168 : decode cX2_takeSizes 168 = .ok (.if_icmp .ne 7, 3) := by decide +kernel
theorem dX2_takeSizes_171 : decode cX2_takeSizes 171 = .ok (.iconst 1, 1) := by decide +kernel
theorem dX2_takeSizes_172 : decode cX2_takeSizes 172 = .ok (.goto 4, 3) := by decide +kernel
theorem dX2_takeSizes_175 : decode cX2_takeSizes 175 = .ok (.iconst 0, 1) := by decide +kernel
theorem dX2_takeSizes_176 : decode cX2_takeSizes 176 = .ok (.ireturn, 1) := by decide +kernel
theorem dX2_thickness_0 : decode cX2_thickness 0 = .ok (.iconst 0, 1) := by decide +kernel
theorem dX2_thickness_1 : decode cX2_thickness 1 = .ok (.istore_n 1, 1) := by decide +kernel
theorem dX2_thickness_2 : decode cX2_thickness 2 = .ok (.iconst 0, 1) := by decide +kernel
theorem dX2_thickness_3 : decode cX2_thickness 3 = .ok (.istore_n 2, 1) := by decide +kernel
theorem dX2_thickness_4 : decode cX2_thickness 4 = .ok (.iload_n 2, 1) := by decide +kernel
theorem dX2_thickness_5 : decode cX2_thickness 5 = .ok (.aload_n 0, 1) := by decide +kernel
theorem dX2_thickness_6 : decode cX2_thickness 6 = .ok (.getfield 26, 3) := by decide +kernel
theorem dX2_thickness_9 : decode cX2_thickness 9 = .ok (.if_icmp .ge 23, 3) := by decide +kernel
theorem dX2_thickness_12 : decode cX2_thickness 12 = .ok (.iload_n 1, 1) := by decide +kernel
theorem dX2_thickness_13 : decode cX2_thickness 13 = .ok (.aload_n 0, 1) := by decide +kernel
theorem dX2_thickness_14 : decode cX2_thickness 14 = .ok (.aload_n 0, 1) := by decide +kernel
theorem dX2_thickness_15 : decode cX2_thickness 15 = .ok (.iload_n 2, 1) := by decide +kernel
theorem dX2_thickness_16 : decode cX2_thickness 16 = .ok (.invokevirtual 71, 3) := by decide +kernel
theorem dX2_thickness_19 : decode cX2_thickness 19 = .ok (.invokevirtual 74, 3) := by decide +kernel
theorem dX2_thickness_22 : decode cX2_thickness 22 = .ok (.invokestatic 65, 3) := by decide +kernel
theorem dX2_thickness_25 : decode cX2_thickness 25 = .ok (.istore_n 1, 1) := by decide +kernel
theorem dX2_thickness_26 : decode cX2_thickness 26 = .ok (.iinc 2 1, 3) := by decide +kernel
theorem dX2_thickness_29 : decode cX2_thickness 29 = .ok (.goto (-25), 3) := by decide +kernel
theorem dX2_thickness_32 : decode cX2_thickness 32 = .ok (.iload_n 1, 1) := by decide +kernel
theorem dX2_thickness_33 : decode cX2_thickness 33 = .ok (.ireturn, 1) := by decide +kernel
theorem dX2_turnOver_0 : decode cX2_turnOver 0 = .ok (.iconst 0, 1) := by decide +kernel
theorem dX2_turnOver_1 : decode cX2_turnOver 1 = .ok (.istore_n 1, 1) := by decide +kernel
theorem dX2_turnOver_2 : decode cX2_turnOver 2 = .ok (.iload_n 1, 1) := by decide +kernel
theorem dX2_turnOver_3 : decode cX2_turnOver 3 = .ok (.aload_n 0, 1) := by decide +kernel
theorem dX2_turnOver_4 : decode cX2_turnOver 4 = .ok (.invokevirtual 37, 3) := by decide +kernel
theorem dX2_turnOver_7 : decode cX2_turnOver 7 = .ok (.if_icmp .ge 40, 3) := by decide +kernel
theorem dX2_turnOver_10 : decode cX2_turnOver 10 = .ok (.aload_n 0, 1) := by decide +kernel
theorem dX2_turnOver_11 : decode cX2_turnOver 11 = .ok (.getfield 15, 3) := by decide +kernel
theorem dX2_turnOver_14 : decode cX2_turnOver 14 = .ok (.iload_n 1, 1) := by decide +kernel
theorem dX2_turnOver_15 : decode cX2_turnOver 15 = .ok (.invokestatic 48, 3) := by decide +kernel
theorem dX2_turnOver_18 : decode cX2_turnOver 18 = .ok (.istore_n 2, 1) := by decide +kernel
theorem dX2_turnOver_19 : decode cX2_turnOver 19 = .ok (.iload_n 2, 1) := by decide +kernel
theorem dX2_turnOver_20 : decode cX2_turnOver 20 = .ok (.ifCond .eq 21, 3) := by decide +kernel
theorem dX2_turnOver_23 : decode cX2_turnOver 23 = .ok (.aload_n 0, 1) := by decide +kernel
theorem dX2_turnOver_24 : decode cX2_turnOver 24 = .ok (.getfield 15, 3) := by decide +kernel
theorem dX2_turnOver_27 : decode cX2_turnOver 27 = .ok (.iload_n 1, 1) := by decide +kernel
theorem dX2_turnOver_28 : decode cX2_turnOver 28 = .ok (.iload_n 2, 1) := by decide +kernel
theorem dX2_turnOver_29 : decode cX2_turnOver 29 = .ok (.iconst 1, 1) := by decide +kernel
theorem dX2_turnOver_30 : decode cX2_turnOver 30 = .ok (.if_icmp .ne 7, 3) := by decide +kernel
theorem dX2_turnOver_33 : decode cX2_turnOver 33 = .ok (.iconst 2, 1) := by decide +kernel
theorem dX2_turnOver_34 : decode cX2_turnOver 34 = .ok (.goto 4, 3) := by decide +kernel
theorem dX2_turnOver_37 : decode cX2_turnOver 37 = .ok (.iconst 1, 1) := by decide +kernel
theorem dX2_turnOver_38 : decode cX2_turnOver 38 = .ok (.invokestatic 29, 3) := by decide +kernel
theorem dX2_turnOver_41 : decode cX2_turnOver 41 = .ok (.iinc 1 1, 3) := by decide +kernel
theorem dX2_turnOver_44 : decode cX2_turnOver 44 = .ok (.goto (-42), 3) := by decide +kernel
theorem dX2_turnOver_47 : decode cX2_turnOver 47 = .ok (.return_, 1) := by decide +kernel
theorem dX2_width_0 : decode cX2_width 0 = .ok (.aload_n 0, 1) := by decide +kernel
theorem dX2_width_1 : decode cX2_width 1 = .ok (.getfield 18, 3) := by decide +kernel
theorem dX2_width_4 : decode cX2_width 4 = .ok (.iconst 1, 1) := by decide +kernel
theorem dX2_width_5 : decode cX2_width 5 = .ok (.if_icmp .ne 8, 3) := by decide +kernel
theorem dX2_width_8 : decode cX2_width 8 = .ok (.aload_n 0, 1) := by decide +kernel
theorem dX2_width_9 : decode cX2_width 9 = .ok (.invokevirtual 68, 3) := by decide +kernel
theorem dX2_width_12 : decode cX2_width 12 = .ok (.ireturn, 1) := by decide +kernel
theorem dX2_width_13 : decode cX2_width 13 = .ok (.iconst 0, 1) := by decide +kernel
theorem dX2_width_14 : decode cX2_width 14 = .ok (.istore_n 1, 1) := by decide +kernel
theorem dX2_width_15 : decode cX2_width 15 = .ok (.iconst 0, 1) := by decide +kernel
theorem dX2_width_16 : decode cX2_width 16 = .ok (.istore_n 2, 1) := by decide +kernel
theorem dX2_width_17 : decode cX2_width 17 = .ok (.iconst 0, 1) := by decide +kernel
theorem dX2_width_18 : decode cX2_width 18 = .ok (.istore_n 3, 1) := by decide +kernel
theorem dX2_width_19 : decode cX2_width 19 = .ok (.iload_n 3, 1) := by decide +kernel
theorem dX2_width_20 : decode cX2_width 20 = .ok (.aload_n 0, 1) := by decide +kernel
theorem dX2_width_21 : decode cX2_width 21 = .ok (.getfield 26, 3) := by decide +kernel
theorem dX2_width_24 : decode cX2_width 24 = .ok (.if_icmp .ge 33, 3) := by decide +kernel
theorem dX2_width_27 : decode cX2_width 27 = .ok (.iload_n 1, 1) := by decide +kernel
theorem dX2_width_28 : decode cX2_width 28 = .ok (.aload_n 0, 1) := by decide +kernel
theorem dX2_width_29 : decode cX2_width 29 = .ok (.iload_n 3, 1) := by decide +kernel
theorem dX2_width_30 : decode cX2_width 30 = .ok (.iconst 1, 1) := by decide +kernel
theorem dX2_width_31 : decode cX2_width 31 = .ok (.iadd, 1) := by decide +kernel
theorem dX2_width_32 : decode cX2_width 32 = .ok (.invokevirtual 56, 3) := by decide +kernel
theorem dX2_width_35 : decode cX2_width 35 = .ok (.invokestatic 59, 3) := by decide +kernel
theorem dX2_width_38 : decode cX2_width 38 = .ok (.istore_n 1, 1) := by decide +kernel
theorem dX2_width_39 : decode cX2_width 39 = .ok (.iload_n 2, 1) := by decide +kernel
theorem dX2_width_40 : decode cX2_width 40 = .ok (.aload_n 0, 1) := by decide +kernel
theorem dX2_width_41 : decode cX2_width 41 = .ok (.iload_n 3, 1) := by decide +kernel
theorem dX2_width_42 : decode cX2_width 42 = .ok (.iconst 1, 1) := by decide +kernel
theorem dX2_width_43 : decode cX2_width 43 = .ok (.iadd, 1) := by decide +kernel
theorem dX2_width_44 : decode cX2_width 44 = .ok (.invokevirtual 56, 3) := by decide +kernel
theorem dX2_width_47 : decode cX2_width 47 = .ok (.invokestatic 65, 3) := by decide +kernel
theorem dX2_width_50 : decode cX2_width 50 = .ok (.istore_n 2, 1) := by decide +kernel
theorem dX2_width_51 : decode cX2_width 51 = .ok (.iinc 3 1, 3) := by decide +kernel
theorem dX2_width_54 : decode cX2_width 54 = .ok (.goto (-35), 3) := by decide +kernel
theorem dX2_width_57 : decode cX2_width 57 = .ok (.iload_n 2, 1) := by decide +kernel
theorem dX2_width_58 : decode cX2_width 58 = .ok (.iload_n 1, 1) := by decide +kernel
theorem dX2_width_59 : decode cX2_width 59 = .ok (.isub, 1) := by decide +kernel
theorem dX2_width_60 : decode cX2_width 60 = .ok (.ireturn, 1) := by decide +kernel
theorem dX3_after_0 : decode cX3_after 0 = .ok (.iload_n 1, 1) := by decide +kernel
theorem dX3_after_1 : decode cX3_after 1 = .ok (.aload_n 0, 1) := by decide +kernel
theorem dX3_after_2 : decode cX3_after 2 = .ok (.getfield 28, 3) := by decide +kernel
theorem dX3_after_5 : decode cX3_after 5 = .ok (.iconst 1, 1) := by decide +kernel
theorem dX3_after_6 : decode cX3_after 6 = .ok (.isub, 1) := by decide +kernel
theorem dX3_after_7 : decode cX3_after 7 = .ok (.if_icmp .ge 9, 3) := by decide +kernel
theorem dX3_after_10 : decode cX3_after 10 = .ok (.iload_n 1, 1) := by decide +kernel
theorem dX3_after_11 : decode cX3_after 11 = .ok (.iconst 1, 1) := by decide +kernel
theorem dX3_after_12 : decode cX3_after 12 = .ok (.iadd, 1) := by decide +kernel
theorem dX3_after_13 : decode cX3_after 13 = .ok (.goto 4, 3) := by decide +kernel
theorem dX3_after_16 : decode cX3_after 16 = .ok (.iconst 0, 1) := by decide +kernel
theorem dX3_after_17 : decode cX3_after 17 = .ok (.ireturn, 1) := by decide +kernel
theorem dX3_before_0 : decode cX3_before 0 = .ok (.iload_n 1, 1) := by decide +kernel
theorem dX3_before_1 : decode cX3_before 1 = .ok (.ifCond .le 9, 3) := by decide +kernel
theorem dX3_before_4 : decode cX3_before 4 = .ok (.iload_n 1, 1) := by decide +kernel
theorem dX3_before_5 : decode cX3_before 5 = .ok (.iconst 1, 1) := by decide +kernel
theorem dX3_before_6 : decode cX3_before 6 = .ok (.isub, 1) := by decide +kernel
theorem dX3_before_7 : decode cX3_before 7 = .ok (.goto 9, 3) := by decide +kernel
theorem dX3_before_10 : decode cX3_before 10 = .ok (.aload_n 0, 1) := by decide +kernel
theorem dX3_before_11 : decode cX3_before 11 = .ok (.getfield 28, 3) := by decide +kernel
theorem dX3_before_14 : decode cX3_before 14 = .ok (.iconst 1, 1) := by decide +kernel
theorem dX3_before_15 : decode cX3_before 15 = .ok (.isub, 1) := by decide +kernel
theorem dX3_before_16 : decode cX3_before 16 = .ok (.ireturn, 1) := by decide +kernel
theorem dX3_changesTo_0 : decode cX3_changesTo 0 = .ok (.iconst 0, 1) := by decide +kernel
theorem dX3_changesTo_1 : decode cX3_changesTo 1 = .ok (.istore_n 2, 1) := by decide +kernel
theorem dX3_changesTo_2 : decode cX3_changesTo 2 = .ok (.iconst 0, 1) := by decide +kernel
theorem dX3_changesTo_3 : decode cX3_changesTo 3 = .ok (.istore_n 3, 1) := by decide +kernel
theorem dX3_changesTo_4 : decode cX3_changesTo 4 = .ok (.iload_n 3, 1) := by decide +kernel
theorem dX3_changesTo_5 : decode cX3_changesTo 5 = .ok (.aload_n 0, 1) := by decide +kernel
theorem dX3_changesTo_6 : decode cX3_changesTo 6 = .ok (.invokevirtual 34, 3) := by decide +kernel
theorem dX3_changesTo_9 : decode cX3_changesTo 9 = .ok (.if_icmp .ge 37, 3) := by decide +kernel
theorem dX3_changesTo_12 : decode cX3_changesTo 12 = .ok (.aload_n 0, 1) := by decide +kernel
theorem dX3_changesTo_13 : decode cX3_changesTo 13 = .ok (.getfield 38, 3) := by decide +kernel
theorem dX3_changesTo_16 : decode cX3_changesTo 16 = .ok (.iload_n 3, 1) := by decide +kernel
theorem dX3_changesTo_17 : decode cX3_changesTo 17 = .ok (.invokestatic 39, 3) := by decide +kernel
theorem dX3_changesTo_20 : decode cX3_changesTo 20 = .ok (.istore 4, 2) := by decide +kernel
theorem dX3_changesTo_22 : decode cX3_changesTo 22 = .ok (.iload 4, 2) := by decide +kernel
theorem dX3_changesTo_24 : decode cX3_changesTo 24 = .ok (.ifCond .eq 16, 3) := by decide +kernel
theorem dX3_changesTo_27 : decode cX3_changesTo 27 = .ok (.iload 4, 2) := by decide +kernel
theorem dX3_changesTo_29 : decode cX3_changesTo 29 = .ok (.iload_n 1, 1) := by decide +kernel
theorem dX3_changesTo_30 : decode cX3_changesTo 30 = .ok (.iload_n 3, 1) := by decide +kernel
theorem dX3_changesTo_31 : decode cX3_changesTo 31 = .ok (.invokestatic 94, 3) := by decide +kernel
theorem dX3_changesTo_34 : decode cX3_changesTo 34 = .ok (.if_icmp .eq 6, 3) := by decide +kernel
theorem dX3_changesTo_37 : decode cX3_changesTo 37 = .ok (.iinc 2 1, 3) := by decide +kernel
theorem dX3_changesTo_40 : decode cX3_changesTo 40 = .ok (.iinc 3 1, 3) := by decide +kernel
theorem dX3_changesTo_43 : decode cX3_changesTo 43 = .ok (.goto (-39), 3) := by decide +kernel
theorem dX3_changesTo_46 : decode cX3_changesTo 46 = .ok (.iload_n 2, 1) := by decide +kernel
theorem dX3_changesTo_47 : decode cX3_changesTo 47 = .ok (.ireturn, 1) := by decide +kernel
theorem dX3_countWays_0 : decode cX3_countWays 0 = .ok (.iconst 0, 1) := by decide +kernel
theorem dX3_countWays_1 : decode cX3_countWays 1 = .ok (.istore_n 2, 1) := by decide +kernel
theorem dX3_countWays_2 : decode cX3_countWays 2 = .ok (.iconst 0, 1) := by decide +kernel
theorem dX3_countWays_3 : decode cX3_countWays 3 = .ok (.istore_n 3, 1) := by decide +kernel
theorem dX3_countWays_4 : decode cX3_countWays 4 = .ok (.iload_n 3, 1) := by decide +kernel
theorem dX3_countWays_5 : decode cX3_countWays 5 = .ok (.iconst 1, 1) := by decide +kernel
theorem dX3_countWays_6 : decode cX3_countWays 6 = .ok (.aload_n 1, 1) := by decide +kernel
theorem dX3_countWays_7 : decode cX3_countWays 7 = .ok (.invokevirtual 34, 3) := by decide +kernel
theorem dX3_countWays_10 : decode cX3_countWays 10 = .ok (.ishl, 1) := by decide +kernel
theorem dX3_countWays_11 : decode cX3_countWays 11 = .ok (.if_icmp .ge 29, 3) := by decide +kernel
theorem dX3_countWays_14 : decode cX3_countWays 14 = .ok (.aload_n 1, 1) := by decide +kernel
theorem dX3_countWays_15 : decode cX3_countWays 15 = .ok (.iload_n 3, 1) := by decide +kernel
theorem dX3_countWays_16 : decode cX3_countWays 16 = .ok (.invokestatic 86, 3) := by decide +kernel
theorem dX3_countWays_19 : decode cX3_countWays 19 = .ok (.ifCond .ne 15, 3) := by decide +kernel
theorem dX3_countWays_22 : decode cX3_countWays 22 = .ok (.aload_n 0, 1) := by decide +kernel
theorem dX3_countWays_23 : decode cX3_countWays 23 = .ok (.aload_n 1, 1) := by decide +kernel
theorem dX3_countWays_24 : decode cX3_countWays 24 = .ok (.iload_n 3, 1) := by decide +kernel
theorem dX3_countWays_25 : decode cX3_countWays 25 = .ok (.invokevirtual 90, 3) := by decide +kernel
theorem dX3_countWays_28 : decode cX3_countWays 28 = .ok (.ifCond .eq 6, 3) := by decide +kernel
theorem dX3_countWays_31 : decode cX3_countWays 31 = .ok (.iinc 2 1, 3) := by decide +kernel
theorem dX3_countWays_34 : decode cX3_countWays 34 = .ok (.iinc 3 1, 3) := by decide +kernel
theorem dX3_countWays_37 : decode cX3_countWays 37 = .ok (.goto (-33), 3) := by decide +kernel
theorem dX3_countWays_40 : decode cX3_countWays 40 = .ok (.iload_n 2, 1) := by decide +kernel
theorem dX3_countWays_41 : decode cX3_countWays 41 = .ok (.ireturn, 1) := by decide +kernel
theorem dX3_evenAngles_0 : decode cX3_evenAngles 0 = .ok (.iconst 0, 1) := by decide +kernel
theorem dX3_evenAngles_1 : decode cX3_evenAngles 1 = .ok (.istore_n 1, 1) := by decide +kernel
theorem dX3_evenAngles_2 : decode cX3_evenAngles 2 = .ok (.iconst 0, 1) := by decide +kernel
theorem dX3_evenAngles_3 : decode cX3_evenAngles 3 = .ok (.istore_n 2, 1) := by decide +kernel
theorem dX3_evenAngles_4 : decode cX3_evenAngles 4 = .ok (.iload_n 2, 1) := by decide +kernel
theorem dX3_evenAngles_5 : decode cX3_evenAngles 5 = .ok (.aload_n 0, 1) := by decide +kernel
theorem dX3_evenAngles_6 : decode cX3_evenAngles 6 = .ok (.getfield 28, 3) := by decide +kernel
theorem dX3_evenAngles_9 : decode cX3_evenAngles 9 = .ok (.if_icmp .ge 20, 3) := by decide +kernel
theorem dX3_evenAngles_12 : decode cX3_evenAngles 12 = .ok (.iload_n 1, 1) := by decide +kernel
theorem dX3_evenAngles_13 : decode cX3_evenAngles 13 = .ok (.aload_n 0, 1) := by decide +kernel
theorem dX3_evenAngles_14 : decode cX3_evenAngles 14 = .ok (.getfield 9, 3) := by decide +kernel
theorem dX3_evenAngles_17 : decode cX3_evenAngles 17 = .ok (.iload_n 2, 1) := by decide +kernel
theorem dX3_evenAngles_18 : decode cX3_evenAngles 18 = .ok (.invokestatic 39, 3) := by decide +kernel
theorem dX3_evenAngles_21 : decode cX3_evenAngles 21 = .ok (.iadd, 1) := by decide +kernel
theorem dX3_evenAngles_22 : decode cX3_evenAngles 22 = .ok (.istore_n 1, 1) := by decide +kernel
theorem dX3_evenAngles_23 : decode cX3_evenAngles 23 = .ok (.iinc 2 2, 3) := by decide +kernel
theorem dX3_evenAngles_26 : decode cX3_evenAngles 26 = .ok (.goto (-22), 3) := by decide +kernel
theorem dX3_evenAngles_29 : decode cX3_evenAngles 29 = .ok (.iload_n 1, 1) := by decide +kernel
theorem dX3_evenAngles_30 : decode cX3_evenAngles 30 = .ok (.ireturn, 1) := by decide +kernel
theorem dX3_fewestChanges_0 : decode cX3_fewestChanges 0 = .ok (.sipush (-1004), 3) := by decide +kernel
theorem dX3_fewestChanges_3 : decode cX3_fewestChanges 3 = .ok (.istore_n 2, 1) := by decide +kernel
theorem dX3_fewestChanges_4 : decode cX3_fewestChanges 4 = .ok (.iconst 0, 1) := by decide +kernel
theorem dX3_fewestChanges_5 : decode cX3_fewestChanges 5 = .ok (.istore_n 3, 1) := by decide +kernel
theorem dX3_fewestChanges_6 : decode cX3_fewestChanges 6 = .ok (.iload_n 3, 1) := by decide +kernel
theorem dX3_fewestChanges_7 : decode cX3_fewestChanges 7 = .ok (.iconst 1, 1) := by decide +kernel
theorem dX3_fewestChanges_8 : decode cX3_fewestChanges 8 = .ok (.aload_n 1, 1) := by decide +kernel
theorem dX3_fewestChanges_9 : decode cX3_fewestChanges 9 = .ok (.invokevirtual 34, 3) := by decide +kernel
theorem dX3_fewestChanges_12 : decode cX3_fewestChanges 12 = .ok (.ishl, 1) := by decide +kernel
theorem dX3_fewestChanges_13 : decode cX3_fewestChanges 13 = .ok (.if_icmp .ge 41, 3) := by decide +kernel
theorem dX3_fewestChanges_16 : decode cX3_fewestChanges 16 = .ok (.aload_n 1, 1) := by decide +kernel
theorem dX3_fewestChanges_17 : decode cX3_fewestChanges 17 = .ok (.iload_n 3, 1) := by decide +kernel
theorem dX3_fewestChanges_18 : decode cX3_fewestChanges 18 = .ok (.invokestatic 86, 3) := by decide +kernel
theorem dX3_fewestChanges_21 : decode cX3_fewestChanges 21 = .ok (.istore 4, 2) := by decide +kernel
theorem dX3_fewestChanges_23 : decode cX3_fewestChanges 23 = .ok (.iload_n 2, 1) := by decide +kernel
theorem dX3_fewestChanges_24 : decode cX3_fewestChanges 24 = .ok (.sipush (-1004), 3) := by decide +kernel
theorem dX3_fewestChanges_27 : decode cX3_fewestChanges 27 = .ok (.if_icmp .eq 9, 3) := by decide +kernel
theorem dX3_fewestChanges_30 : decode cX3_fewestChanges 30 = .ok (.iload 4, 2) := by decide +kernel
theorem dX3_fewestChanges_32 : decode cX3_fewestChanges 32 = .ok (.iload_n 2, 1) := by decide +kernel
theorem dX3_fewestChanges_33 : decode cX3_fewestChanges 33 = .ok (.if_icmp .ge 15, 3) := by decide +kernel
theorem dX3_fewestChanges_36 : decode cX3_fewestChanges 36 = .ok (.aload_n 0, 1) := by decide +kernel
theorem dX3_fewestChanges_37 : decode cX3_fewestChanges 37 = .ok (.aload_n 1, 1) := by decide +kernel
theorem dX3_fewestChanges_38 : decode cX3_fewestChanges 38 = .ok (.iload_n 3, 1) := by decide +kernel
theorem dX3_fewestChanges_39 : decode cX3_fewestChanges 39 = .ok (.invokevirtual 90, 3) := by decide +kernel
theorem dX3_fewestChanges_42 : decode cX3_fewestChanges 42 = .ok (.ifCond .eq 6, 3) := by decide +kernel
theorem dX3_fewestChanges_45 : decode cX3_fewestChanges 45 = .ok (.iload 4, 2) := by decide +kernel
theorem dX3_fewestChanges_47 : decode cX3_fewestChanges 47 = .ok (.istore_n 2, 1) := by decide +kernel
theorem dX3_fewestChanges_48 : decode cX3_fewestChanges 48 = .ok (.iinc 3 1, 3) := by decide +kernel
theorem dX3_fewestChanges_51 : decode cX3_fewestChanges 51 = .ok (.goto (-45), 3) := by decide +kernel
theorem dX3_fewestChanges_54 : decode cX3_fewestChanges 54 = .ok (.iload_n 2, 1) := by decide +kernel
theorem dX3_fewestChanges_55 : decode cX3_fewestChanges 55 = .ok (.ireturn, 1) := by decide +kernel
theorem dX3_firstStep_0 : decode cX3_firstStep 0 = .ok (.aload_n 0, 1) := by decide +kernel
theorem dX3_firstStep_1 : decode cX3_firstStep 1 = .ok (.getfield 24, 3) := by decide +kernel
theorem dX3_firstStep_4 : decode cX3_firstStep 4 = .ok (.ifCond .ne 7, 3) := by decide +kernel
theorem dX3_firstStep_7 : decode cX3_firstStep 7 = .ok (.iconst 1, 1) := by decide +kernel
theorem dX3_firstStep_8 : decode cX3_firstStep 8 = .ok (.goto 4, 3) := by decide +kernel
theorem dX3_firstStep_11 : decode cX3_firstStep 11 = .ok (.iconst 0, 1) := by decide +kernel
theorem dX3_firstStep_12 : decode cX3_firstStep 12 = .ok (.istore_n 1, 1) := by decide +kernel
theorem dX3_firstStep_13 : decode cX3_firstStep 13 = .ok (.aload_n 0, 1) := by decide +kernel
theorem dX3_firstStep_14 : decode cX3_firstStep 14 = .ok (.getfield 28, 3) := by decide +kernel
theorem dX3_firstStep_17 : decode cX3_firstStep 17 = .ok (.iconst 2, 1) := by decide +kernel
theorem dX3_firstStep_18 : decode cX3_firstStep 18 = .ok (.if_icmp .lt 15, 3) := by decide +kernel
theorem dX3_firstStep_21 : decode cX3_firstStep 21 = .ok (.aload_n 0, 1) := by decide +kernel
theorem dX3_firstStep_22 : decode cX3_firstStep 22 = .ok (.getfield 28, 3) := by decide +kernel
theorem dX3_firstStep_25 : decode cX3_firstStep 25 = .ok (.iconst 2, 1) := by decide +kernel
theorem dX3_firstStep_26 : decode cX3_firstStep 26 = .ok (.if_icmp .ne 9, 3) := by decide +kernel
theorem dX3_firstStep_29 : decode cX3_firstStep 29 = .ok (.iload_n 1, 1) := by decide +kernel
theorem dX3_firstStep_30 : decode cX3_firstStep 30 = .ok (.ifCond .ne 5, 3) := by decide +kernel
theorem dX3_firstStep_33 : decode cX3_firstStep 33 = .ok (.iconst 0, 1) := by decide +kernel
theorem dX3_firstStep_34 : decode cX3_firstStep 34 = .ok (.ireturn, 1) := by decide +kernel
theorem dX3_firstStep_35 : decode cX3_firstStep 35 = .ok (.iload_n 1, 1) := by decide +kernel
theorem dX3_firstStep_36 : decode cX3_firstStep 36 = .ok (.ifCond .eq 24, 3) := by decide +kernel
theorem dX3_firstStep_39 : decode cX3_firstStep 39 = .ok (.aload_n 0, 1) := by decide +kernel
theorem dX3_firstStep_40 : decode cX3_firstStep 40 = .ok (.getfield 9, 3) := by decide +kernel
theorem dX3_firstStep_43 : decode cX3_firstStep 43 = .ok (.iconst 0, 1) := by decide +kernel
theorem dX3_firstStep_44 : decode cX3_firstStep 44 = .ok (.invokestatic 39, 3) := by decide +kernel
theorem dX3_firstStep_47 : decode cX3_firstStep 47 = .ok (.aload_n 0, 1) := by decide +kernel
theorem dX3_firstStep_48 : decode cX3_firstStep 48 = .ok (.getfield 9, 3) := by decide +kernel
theorem dX3_firstStep_51 : decode cX3_firstStep 51 = .ok (.iconst 1, 1) := by decide +kernel
theorem dX3_firstStep_52 : decode cX3_firstStep 52 = .ok (.invokestatic 39, 3) := by decide +kernel
theorem dX3_firstStep_55 : decode cX3_firstStep 55 = .ok (.if_icmp .gt 5, 3) := by decide +kernel
theorem dX3_firstStep_58 : decode cX3_firstStep 58 = .ok (.iconst 1, 1) := by decide +kernel
theorem dX3_firstStep_59 : decode cX3_firstStep 59 = .ok (.ireturn, 1) := by decide +kernel
theorem dX3_firstStep_60 : decode cX3_firstStep 60 = .ok (.iload_n 1, 1) := by decide +kernel
theorem dX3_firstStep_61 : decode cX3_firstStep 61 = .ok (.ifCond .eq 34, 3) := by decide +kernel
theorem dX3_firstStep_64 : decode cX3_firstStep 64 = .ok (.aload_n 0, 1) := by decide +kernel
theorem dX3_firstStep_65 : decode cX3_firstStep 65 = .ok (.getfield 9, 3) := by decide +kernel
theorem dX3_firstStep_68 : decode cX3_firstStep 68 = .ok (.aload_n 0, 1) := by decide +kernel
theorem dX3_firstStep_69 : decode cX3_firstStep 69 = .ok (.getfield 28, 3) := by decide +kernel
theorem dX3_firstStep_72 : decode cX3_firstStep 72 = .ok (.iconst 1, 1) := by decide +kernel
theorem dX3_firstStep_73 : decode cX3_firstStep 73 = .ok (.isub, 1) := by decide +kernel
theorem dX3_firstStep_74 : decode cX3_firstStep 74 = .ok (.invokestatic 39, 3) := by decide +kernel
theorem dX3_firstStep_77 : decode cX3_firstStep 77 = .ok (.aload_n 0, 1) := by decide +kernel
theorem dX3_firstStep_78 : decode cX3_firstStep 78 = .ok (.getfield 9, 3) := by decide +kernel
theorem dX3_firstStep_81 : decode cX3_firstStep 81 = .ok (.aload_n 0, 1) := by decide +kernel
theorem dX3_firstStep_82 : decode cX3_firstStep 82 = .ok (.getfield 28, 3) := by decide +kernel
theorem dX3_firstStep_85 : decode cX3_firstStep 85 = .ok (.iconst 2, 1) := by decide +kernel
theorem dX3_firstStep_86 : decode cX3_firstStep 86 = .ok (.isub, 1) := by decide +kernel
theorem dX3_firstStep_87 : decode cX3_firstStep 87 = .ok (.invokestatic 39, 3) := by decide +kernel
theorem dX3_firstStep_90 : decode cX3_firstStep 90 = .ok (.if_icmp .gt 5, 3) := by decide +kernel
theorem dX3_firstStep_93 : decode cX3_firstStep 93 = .ok (.iconst 2, 1) := by decide +kernel
theorem dX3_firstStep_94 : decode cX3_firstStep 94 = .ok (.ireturn, 1) := by decide +kernel
theorem dX3_firstStep_95 : decode cX3_firstStep 95 = .ok (.iload_n 1, 1) := by decide +kernel
theorem dX3_firstStep_96 : decode cX3_firstStep 96 = .ok (.ifCond .eq 7, 3) := by decide +kernel
theorem dX3_firstStep_99 : decode cX3_firstStep 99 = .ok (.iconst 1, 1) := by decide +kernel
theorem dX3_firstStep_100 : decode cX3_firstStep 100 = .ok (.goto 4, 3) := by decide +kernel
theorem dX3_firstStep_103 : decode cX3_firstStep 103 = .ok (.iconst 0, 1) := by decide +kernel
theorem dX3_firstStep_104 : decode cX3_firstStep 104 = .ok (.istore_n 2, 1) := by decide +kernel
theorem dX3_firstStep_105 : decode cX3_firstStep 105 = .ok (.iload_n 2, 1) := by decide +kernel
theorem dX3_firstStep_106 : decode cX3_firstStep 106 = .ok (.istore_n 3, 1) := by decide +kernel
theorem dX3_firstStep_107 : decode cX3_firstStep 107 = .ok (.iload_n 3, 1) := by decide +kernel
theorem dX3_firstStep_108 : decode cX3_firstStep 108 = .ok (.aload_n 0, 1) := by decide +kernel
theorem dX3_firstStep_109 : decode cX3_firstStep 109 = .ok (.getfield 28, 3) := by decide +kernel
theorem dX3_firstStep_112 : decode cX3_firstStep 112 = .ok (.iload_n 2, 1) := by decide +kernel
theorem dX3_firstStep_113 : decode cX3_firstStep 113 = .ok (.isub, 1) := by decide +kernel
theorem dX3_firstStep_114 : decode cX3_firstStep 114 = .ok (.if_icmp .ge 95, 3) := by decide +kernel
theorem dX3_firstStep_117 : decode cX3_firstStep 117 = .ok (.aload_n 0, 1) := by decide +kernel
theorem dX3_firstStep_118 : decode cX3_firstStep 118 = .ok (.getfield 9, 3) := by decide +kernel
theorem dX3_firstStep_121 : decode cX3_firstStep 121 = .ok (.iload_n 3, 1) := by decide +kernel
theorem dX3_firstStep_122 : decode cX3_firstStep 122 = .ok (.invokestatic 39, 3) := by decide +kernel
theorem dX3_firstStep_125 : decode cX3_firstStep 125 = .ok (.aload_n 0, 1) := by decide +kernel
theorem dX3_firstStep_126 : decode cX3_firstStep 126 = .ok (.getfield 9, 3) := by decide +kernel
theorem dX3_firstStep_129 : decode cX3_firstStep 129 = .ok (.aload_n 0, 1) := by decide +kernel
theorem dX3_firstStep_130 : decode cX3_firstStep 130 = .ok (.iload_n 3, 1) := by decide +kernel
theorem dX3_firstStep_131 : decode cX3_firstStep 131 = .ok (.invokevirtual 80, 3) := by decide +kernel
theorem dX3_firstStep_134 : decode cX3_firstStep 134 = .ok (.invokestatic 39, 3) := by decide +kernel
theorem dX3_firstStep_137 : decode cX3_firstStep 137 = .ok (.if_icmp .gt 30, 3) := by decide +kernel
theorem dX3_firstStep_140 : decode cX3_firstStep 140 = .ok (.aload_n 0, 1) := by decide +kernel
theorem dX3_firstStep_141 : decode cX3_firstStep 141 = .ok (.getfield 9, 3) := by decide +kernel
theorem dX3_firstStep_144 : decode cX3_firstStep 144 = .ok (.iload_n 3, 1) := by decide +kernel
theorem dX3_firstStep_145 : decode cX3_firstStep 145 = .ok (.invokestatic 39, 3) := by decide +kernel
theorem dX3_firstStep_148 : decode cX3_firstStep 148 = .ok (.aload_n 0, 1) := by decide +kernel
theorem dX3_firstStep_149 : decode cX3_firstStep 149 = .ok (.getfield 9, 3) := by decide +kernel
theorem dX3_firstStep_152 : decode cX3_firstStep 152 = .ok (.aload_n 0, 1) := by decide +kernel
theorem dX3_firstStep_153 : decode cX3_firstStep 153 = .ok (.iload_n 3, 1) := by decide +kernel
theorem dX3_firstStep_154 : decode cX3_firstStep 154 = .ok (.invokevirtual 83, 3) := by decide +kernel
theorem dX3_firstStep_157 : decode cX3_firstStep 157 = .ok (.invokestatic 39, 3) := by decide +kernel
theorem dX3_firstStep_160 : decode cX3_firstStep 160 = .ok (.if_icmp .gt 7, 3) := by decide +kernel
theorem dX3_firstStep_163 : decode cX3_firstStep 163 = .ok (.iconst 1, 1) := by decide +kernel
theorem dX3_firstStep_164 : decode cX3_firstStep 164 = .ok (.goto 4, 3) := by decide +kernel
theorem dX3_firstStep_167 : decode cX3_firstStep 167 = .ok (.iconst 0, 1) := by decide +kernel
theorem dX3_firstStep_168 : decode cX3_firstStep 168 = .ok (.istore 4, 2) := by decide +kernel
theorem dX3_firstStep_170 : decode cX3_firstStep 170 = .ok (.iload 4, 2) := by decide +kernel
theorem dX3_firstStep_172 : decode cX3_firstStep 172 = .ok (.ifCond .eq 31, 3) := by decide +kernel
theorem dX3_firstStep_175 : decode cX3_firstStep 175 = .ok (.aload_n 0, 1) := by decide +kernel
theorem dX3_firstStep_176 : decode cX3_firstStep 176 = .ok (.getfield 15, 3) := by decide +kernel
theorem dX3_firstStep_179 : decode cX3_firstStep 179 = .ok (.iload_n 3, 1) := by decide +kernel
theorem dX3_firstStep_180 : decode cX3_firstStep 180 = .ok (.invokestatic 39, 3) := by decide +kernel
theorem dX3_firstStep_183 : decode cX3_firstStep 183 = .ok (.aload_n 0, 1) := by decide +kernel
theorem dX3_firstStep_184 : decode cX3_firstStep 184 = .ok (.getfield 15, 3) := by decide +kernel
theorem dX3_firstStep_187 : decode cX3_firstStep 187 = .ok (.aload_n 0, 1) := by decide +kernel
theorem dX3_firstStep_188 : decode cX3_firstStep 188 = .ok (.iload_n 3, 1) := by decide +kernel
theorem dX3_firstStep_189 : decode cX3_firstStep 189 = .ok (.invokevirtual 83, 3) := by decide +kernel
theorem dX3_firstStep_192 : decode cX3_firstStep 192 = .ok (.invokestatic 39, 3) := by decide +kernel
theorem dX3_firstStep_195 : decode cX3_firstStep 195 = .ok (.if_icmp .eq 8, 3) := by decide +kernel
theorem dX3_firstStep_198 : decode cX3_firstStep 198 = .ok (.bipush 10, 2) := by decide +kernel
theorem dX3_firstStep_200 : decode cX3_firstStep 200 = .ok (.iload_n 3, 1) := by decide +kernel
theorem dX3_firstStep_201 : decode cX3_firstStep 201 = .ok (.iadd, 1) := by decide +kernel
theorem dX3_firstStep_202 : decode cX3_firstStep 202 = .ok (.ireturn, 1) := by decide +kernel
theorem dX3_firstStep_203 : decode cX3_firstStep 203 = .ok (.iinc 3 1, 3) := by decide +kernel
theorem dX3_firstStep_206 : decode cX3_firstStep 206 = .ok (.goto (-99), 3) := by decide +kernel
theorem dX3_firstStep_209 : decode cX3_firstStep 209 = .ok (.iconst 0, 1) := by decide +kernel
theorem dX3_firstStep_210 : decode cX3_firstStep 210 = .ok (.ireturn, 1) := by decide +kernel
theorem dX3_foldsWith_0 : decode cX3_foldsWith 0 = .ok (.aload_n 0, 1) := by decide +kernel
theorem dX3_foldsWith_1 : decode cX3_foldsWith 1 = .ok (.aload_n 1, 1) := by decide +kernel
theorem dX3_foldsWith_2 : decode cX3_foldsWith 2 = .ok (.invokevirtual 55, 3) := by decide +kernel
theorem dX3_foldsWith_5 : decode cX3_foldsWith 5 = .ok (.iconst 0, 1) := by decide +kernel
theorem dX3_foldsWith_6 : decode cX3_foldsWith 6 = .ok (.istore_n 3, 1) := by decide +kernel
theorem dX3_foldsWith_7 : decode cX3_foldsWith 7 = .ok (.iload_n 3, 1) := by decide +kernel
theorem dX3_foldsWith_8 : decode cX3_foldsWith 8 = .ok (.aload_n 1, 1) := by decide +kernel
theorem dX3_foldsWith_9 : decode cX3_foldsWith 9 = .ok (.invokevirtual 34, 3) := by decide +kernel
theorem dX3_foldsWith_12 : decode cX3_foldsWith 12 = .ok (.if_icmp .ge 19, 3) := by decide +kernel
theorem dX3_foldsWith_15 : decode cX3_foldsWith 15 = .ok (.aload_n 0, 1) := by decide +kernel
theorem dX3_foldsWith_16 : decode cX3_foldsWith 16 = .ok (.iload_n 3, 1) := by decide +kernel
theorem dX3_foldsWith_17 : decode cX3_foldsWith 17 = .ok (.iload_n 2, 1) := by decide +kernel
theorem dX3_foldsWith_18 : decode cX3_foldsWith 18 = .ok (.iload_n 3, 1) := by decide +kernel
theorem dX3_foldsWith_19 : decode cX3_foldsWith 19 = .ok (.invokestatic 94, 3) := by decide +kernel
theorem dX3_foldsWith_22 : decode cX3_foldsWith 22 = .ok (.invokevirtual 43, 3) := by decide +kernel
theorem dX3_foldsWith_25 : decode cX3_foldsWith 25 = .ok (.iinc 3 1, 3) := by decide +kernel
theorem dX3_foldsWith_28 : decode cX3_foldsWith 28 = .ok (.goto (-21), 3) := by decide +kernel
theorem dX3_foldsWith_31 : decode cX3_foldsWith 31 = .ok (.aload_n 0, 1) := by decide +kernel
theorem dX3_foldsWith_32 : decode cX3_foldsWith 32 = .ok (.invokevirtual 74, 3) := by decide +kernel
theorem dX3_foldsWith_35 : decode cX3_foldsWith 35 = .ok (.pop, 1) := by decide +kernel
theorem dX3_foldsWith_36 : decode cX3_foldsWith 36 = .ok (.aload_n 0, 1) := by decide +kernel
theorem dX3_foldsWith_37 : decode cX3_foldsWith 37 = .ok (.invokevirtual 77, 3) := by decide +kernel
theorem dX3_foldsWith_40 : decode cX3_foldsWith 40 = .ok (.ireturn, 1) := by decide +kernel
theorem dX3_hasSmallAngleOfOneKind_0 : decode cX3_hasSmallAngleOfOneKind 0 = .ok (.iconst 0, 1) := by decide +kernel
theorem dX3_hasSmallAngleOfOneKind_1 : decode cX3_hasSmallAngleOfOneKind 1 = .ok (.istore_n 1, 1) := by decide +kernel
theorem dX3_hasSmallAngleOfOneKind_2 : decode cX3_hasSmallAngleOfOneKind 2 = .ok (.iload_n 1, 1) := by decide +kernel
theorem dX3_hasSmallAngleOfOneKind_3 : decode cX3_hasSmallAngleOfOneKind 3 = .ok (.aload_n 0, 1) := by decide +kernel
theorem dX3_hasSmallAngleOfOneKind_4 : decode cX3_hasSmallAngleOfOneKind 4 = .ok (.getfield 28, 3) := by decide +kernel
theorem dX3_hasSmallAngleOfOneKind_7 : decode cX3_hasSmallAngleOfOneKind 7 = .ok (.if_icmp .ge 85, 3) := by decide +kernel
theorem dX3_hasSmallAngleOfOneKind_10 : decode cX3_hasSmallAngleOfOneKind 10 = .ok (.aload_n 0, 1) := by decide +kernel
theorem dX3_hasSmallAngleOfOneKind_11 : decode cX3_hasSmallAngleOfOneKind 11 = .ok (.getfield 9, 3) := by decide +kernel
theorem dX3_hasSmallAngleOfOneKind_14 : decode cX3_hasSmallAngleOfOneKind 14 = .ok (.iload_n 1, 1) := by decide +kernel
theorem dX3_hasSmallAngleOfOneKind_15 : decode cX3_hasSmallAngleOfOneKind 15 = .ok (.invokestatic 39, 3) := by decide +kernel
theorem dX3_hasSmallAngleOfOneKind_18 : decode cX3_hasSmallAngleOfOneKind 18 = .ok (.istore_n 2, 1) := by decide +kernel
theorem dX3_hasSmallAngleOfOneKind_19 : decode cX3_hasSmallAngleOfOneKind 19 = .ok (.iload_n 2, 1) := by decide +kernel
theorem dX3_hasSmallAngleOfOneKind_20 : decode cX3_hasSmallAngleOfOneKind 20 = .ok (.aload_n 0, 1) := by decide +kernel
theorem dX3_hasSmallAngleOfOneKind_21 : decode cX3_hasSmallAngleOfOneKind 21 = .ok (.getfield 9, 3) := by decide +kernel
theorem dX3_hasSmallAngleOfOneKind_24 : decode cX3_hasSmallAngleOfOneKind 24 = .ok (.aload_n 0, 1) := by decide +kernel
theorem dX3_hasSmallAngleOfOneKind_25 : decode cX3_hasSmallAngleOfOneKind 25 = .ok (.iload_n 1, 1) := by decide +kernel
theorem dX3_hasSmallAngleOfOneKind_26 : decode cX3_hasSmallAngleOfOneKind 26 = .ok (.invokevirtual 80, 3) := by decide +kernel
theorem dX3_hasSmallAngleOfOneKind_29 : decode cX3_hasSmallAngleOfOneKind 29 = .ok (.invokestatic 39, 3) := by decide +kernel
theorem dX3_hasSmallAngleOfOneKind_32 : decode cX3_hasSmallAngleOfOneKind 32 = .ok (.if_icmp .ge 23, 3) := by decide +kernel
theorem dX3_hasSmallAngleOfOneKind_35 : decode cX3_hasSmallAngleOfOneKind 35 = .ok (.iload_n 2, 1) := by decide +kernel
theorem dX3_hasSmallAngleOfOneKind_36 : decode cX3_hasSmallAngleOfOneKind 36 = .ok (.aload_n 0, 1) := by decide +kernel
theorem dX3_hasSmallAngleOfOneKind_37 : decode cX3_hasSmallAngleOfOneKind 37 = .ok (.getfield 9, 3) := by decide +kernel
theorem dX3_hasSmallAngleOfOneKind_40 : decode cX3_hasSmallAngleOfOneKind 40 = .ok (.aload_n 0, 1) := by decide +kernel
theorem dX3_hasSmallAngleOfOneKind_41 : decode cX3_hasSmallAngleOfOneKind 41 = .ok (.iload_n 1, 1) := by decide +kernel
theorem dX3_hasSmallAngleOfOneKind_42 : decode cX3_hasSmallAngleOfOneKind 42 = .ok (.invokevirtual 83, 3) := by decide +kernel
theorem dX3_hasSmallAngleOfOneKind_45 : decode cX3_hasSmallAngleOfOneKind 45 = .ok (.invokestatic 39, 3) := by decide +kernel
theorem dX3_hasSmallAngleOfOneKind_48 : decode cX3_hasSmallAngleOfOneKind 48 = .ok (.if_icmp .ge 7, 3) := by decide +kernel
theorem dX3_hasSmallAngleOfOneKind_51 : decode cX3_hasSmallAngleOfOneKind 51 = .ok (.iconst 1, 1) := by decide +kernel
theorem dX3_hasSmallAngleOfOneKind_52 : decode cX3_hasSmallAngleOfOneKind 52 = .ok (.goto 4, 3) := by decide +kernel
theorem dX3_hasSmallAngleOfOneKind_55 : decode cX3_hasSmallAngleOfOneKind 55 = .ok (.iconst 0, 1) := by decide +kernel
theorem dX3_hasSmallAngleOfOneKind_56 : decode cX3_hasSmallAngleOfOneKind 56 = .ok (.istore_n 3, 1) := by decide +kernel
theorem dX3_hasSmallAngleOfOneKind_57 : decode cX3_hasSmallAngleOfOneKind 57 = .ok (.iload_n 3, 1) := by decide +kernel
theorem dX3_hasSmallAngleOfOneKind_58 : decode cX3_hasSmallAngleOfOneKind 58 = .ok (.ifCond .eq 28, 3) := by decide +kernel
theorem dX3_hasSmallAngleOfOneKind_61 : decode cX3_hasSmallAngleOfOneKind 61 = .ok (.aload_n 0, 1) := by decide +kernel
theorem dX3_hasSmallAngleOfOneKind_62 : decode cX3_hasSmallAngleOfOneKind 62 = .ok (.getfield 15, 3) := by decide +kernel
theorem dX3_hasSmallAngleOfOneKind_65 : decode cX3_hasSmallAngleOfOneKind 65 = .ok (.iload_n 1, 1) := by decide +kernel
theorem dX3_hasSmallAngleOfOneKind_66 : decode cX3_hasSmallAngleOfOneKind 66 = .ok (.invokestatic 39, 3) := by decide +kernel
theorem dX3_hasSmallAngleOfOneKind_69 : decode cX3_hasSmallAngleOfOneKind 69 = .ok (.aload_n 0, 1) := by decide +kernel
theorem dX3_hasSmallAngleOfOneKind_70 : decode cX3_hasSmallAngleOfOneKind 70 = .ok (.getfield 15, 3) := by decide +kernel
theorem dX3_hasSmallAngleOfOneKind_73 : decode cX3_hasSmallAngleOfOneKind 73 = .ok (.aload_n 0, 1) := by decide +kernel
theorem dX3_hasSmallAngleOfOneKind_74 : decode cX3_hasSmallAngleOfOneKind 74 = .ok (.iload_n 1, 1) := by decide +kernel
theorem dX3_hasSmallAngleOfOneKind_75 : decode cX3_hasSmallAngleOfOneKind 75 = .ok (.invokevirtual 83, 3) := by decide +kernel
theorem dX3_hasSmallAngleOfOneKind_78 : decode cX3_hasSmallAngleOfOneKind 78 = .ok (.invokestatic 39, 3) := by decide +kernel
theorem dX3_hasSmallAngleOfOneKind_81 : decode cX3_hasSmallAngleOfOneKind 81 = .ok (.if_icmp .ne 5, 3) := by decide +kernel
theorem dX3_hasSmallAngleOfOneKind_84 : decode cX3_hasSmallAngleOfOneKind 84 = .ok (.iconst 1, 1) := by decide +kernel
theorem dX3_hasSmallAngleOfOneKind_85 : decode cX3_hasSmallAngleOfOneKind 85 = .ok (.ireturn, 1) := by decide +kernel
theorem dX3_hasSmallAngleOfOneKind_86 : decode cX3_hasSmallAngleOfOneKind 86 = .ok (.iinc 1 1, 3) := by decide +kernel
theorem dX3_hasSmallAngleOfOneKind_89 : decode cX3_hasSmallAngleOfOneKind 89 = .ok (.goto (-87), 3) := by decide +kernel
theorem dX3_hasSmallAngleOfOneKind_92 : decode cX3_hasSmallAngleOfOneKind 92 = .ok (.iconst 0, 1) := by decide +kernel
theorem dX3_hasSmallAngleOfOneKind_93 : decode cX3_hasSmallAngleOfOneKind 93 = .ok (.ireturn, 1) := by decide +kernel
theorem dX3_isReduced_0 : decode cX3_isReduced 0 = .ok (.aload_n 0, 1) := by decide +kernel
theorem dX3_isReduced_1 : decode cX3_isReduced 1 = .ok (.getfield 24, 3) := by decide +kernel
theorem dX3_isReduced_4 : decode cX3_isReduced 4 = .ok (.ifCond .ne 17, 3) := by decide +kernel
theorem dX3_isReduced_7 : decode cX3_isReduced 7 = .ok (.aload_n 0, 1) := by decide +kernel
theorem dX3_isReduced_8 : decode cX3_isReduced 8 = .ok (.getfield 28, 3) := by decide +kernel
theorem dX3_isReduced_11 : decode cX3_isReduced 11 = .ok (.iconst 1, 1) := by decide +kernel
theorem dX3_isReduced_12 : decode cX3_isReduced 12 = .ok (.if_icmp .ne 7, 3) := by decide +kernel
theorem dX3_isReduced_15 : decode cX3_isReduced 15 = .ok (.iconst 1, 1) := by decide +kernel
theorem dX3_isReduced_16 : decode cX3_isReduced 16 = .ok (.goto 4, 3) := by decide +kernel
theorem dX3_isReduced_19 : decode cX3_isReduced 19 = .ok (.iconst 0, 1) := by decide +kernel
theorem dX3_isReduced_20 : decode cX3_isReduced 20 = .ok (.ireturn, 1) := by decide +kernel
theorem dX3_isReduced_21 : decode cX3_isReduced 21 = .ok (.aload_n 0, 1) := by decide +kernel
theorem dX3_isReduced_22 : decode cX3_isReduced 22 = .ok (.getfield 28, 3) := by decide +kernel
theorem dX3_isReduced_25 : decode cX3_isReduced 25 = .ok (.iconst 2, 1) := by decide +kernel
theorem dX3_isReduced_26 : decode cX3_isReduced 26 = .ok (.if_icmp .ne 45, 3) := by decide +kernel
theorem dX3_isReduced_29 : decode cX3_isReduced 29 = .ok (.aload_n 0, 1) := by decide +kernel
theorem dX3_isReduced_30 : decode cX3_isReduced 30 = .ok (.getfield 9, 3) := by decide +kernel
theorem dX3_isReduced_33 : decode cX3_isReduced 33 = .ok (.iconst 0, 1) := by decide +kernel
theorem dX3_isReduced_34 : decode cX3_isReduced 34 = .ok (.invokestatic 39, 3) := by decide +kernel
theorem dX3_isReduced_37 : decode cX3_isReduced 37 = .ok (.aload_n 0, 1) := by decide +kernel
theorem dX3_isReduced_38 : decode cX3_isReduced 38 = .ok (.getfield 9, 3) := by decide +kernel
theorem dX3_isReduced_41 : decode cX3_isReduced 41 = .ok (.iconst 1, 1) := by decide +kernel
theorem dX3_isReduced_42 : decode cX3_isReduced 42 = .ok (.invokestatic 39, 3) := by decide +kernel
theorem dX3_isReduced_45 : decode cX3_isReduced 45 = .ok (.if_icmp .ne 26, 3) := by decide +kernel
theorem dX3_isReduced_48 : decode cX3_isReduced 48 = .ok (.aload_n 0, 1) := by decide +kernel
theorem dX3_isReduced_49 : decode cX3_isReduced 49 = .ok (.getfield 15, 3) := by decide +kernel
theorem dX3_isReduced_52 : decode cX3_isReduced 52 = .ok (.iconst 0, 1) := by decide +kernel
theorem dX3_isReduced_53 : decode cX3_isReduced 53 = .ok (.invokestatic 39, 3) := by decide +kernel
theorem dX3_isReduced_56 : decode cX3_isReduced 56 = .ok (.aload_n 0, 1) := by decide +kernel
theorem dX3_isReduced_57 : decode cX3_isReduced 57 = .ok (.getfield 15, 3) := by decide +kernel
theorem dX3_isReduced_60 : decode cX3_isReduced 60 = .ok (.iconst 1, 1) := by decide +kernel
theorem dX3_isReduced_61 : decode cX3_isReduced 61 = .ok (.invokestatic 39, 3) := by decide +kernel
theorem dX3_isReduced_64 : decode cX3_isReduced 64 = .ok (.if_icmp .ne 7, 3) := by decide +kernel
theorem dX3_isReduced_67 : decode cX3_isReduced 67 = .ok (.iconst 1, 1) := by decide +kernel
theorem dX3_isReduced_68 : decode cX3_isReduced 68 = .ok (.goto 4, 3) := by decide +kernel
theorem dX3_isReduced_71 : decode cX3_isReduced 71 = .ok (.iconst 0, 1) := by decide +kernel
theorem dX3_isReduced_72 : decode cX3_isReduced 72 = .ok (.ireturn, 1) := by decide +kernel
theorem dX3_kindIn_0 : decode cX3_kindIn 0 = .ok (.iload_n 0, 1) := by decide +kernel
theorem dX3_kindIn_1 : decode cX3_kindIn 1 = .ok (.iload_n 1, 1) := by decide +kernel
theorem dX3_kindIn_2 : decode cX3_kindIn 2 = .ok (.ishr, 1) := by decide +kernel
theorem dX3_kindIn_3 : decode cX3_kindIn 3 = .ok (.iconst 1, 1) := by decide +kernel
theorem dX3_kindIn_4 : decode cX3_kindIn 4 = .ok (.iand, 1) := by decide +kernel
theorem dX3_kindIn_5 : decode cX3_kindIn 5 = .ok (.ifCond .ne 7, 3) := by decide +kernel
theorem dX3_kindIn_8 : decode cX3_kindIn 8 = .ok (.iconst 1, 1) := by decide +kernel
theorem dX3_kindIn_9 : decode cX3_kindIn 9 = .ok (.goto 4, 3) := by decide +kernel
theorem dX3_kindIn_12 : decode cX3_kindIn 12 = .ok (.iconst 2, 1) := by decide +kernel
theorem dX3_kindIn_13 : decode cX3_kindIn 13 = .ok (.ireturn, 1) := by decide +kernel
theorem dX3_load_0 : decode cX3_load 0 = .ok (.aload_n 0, 1) := by decide +kernel
theorem dX3_load_1 : decode cX3_load 1 = .ok (.aload_n 1, 1) := by decide +kernel
theorem dX3_load_2 : decode cX3_load 2 = .ok (.getfield 18, 3) := by decide +kernel
theorem dX3_load_5 : decode cX3_load 5 = .ok (.putfield 24, 3) := by decide +kernel
theorem dX3_load_8 : decode cX3_load 8 = .ok (.aload_n 0, 1) := by decide +kernel
theorem dX3_load_9 : decode cX3_load 9 = .ok (.aload_n 1, 1) := by decide +kernel
theorem dX3_load_10 : decode cX3_load 10 = .ok (.getfield 25, 3) := by decide +kernel
theorem dX3_load_13 : decode cX3_load 13 = .ok (.putfield 28, 3) := by decide +kernel
theorem dX3_load_16 : decode cX3_load 16 = .ok (.aload_n 1, 1) := by decide +kernel
theorem dX3_load_17 : decode cX3_load 17 = .ok (.getfield 29, 3) := by decide +kernel
theorem dX3_load_20 : decode cX3_load 20 = .ok (.aload_n 0, 1) := by decide +kernel
theorem dX3_load_21 : decode cX3_load 21 = .ok (.getfield 9, 3) := by decide +kernel
theorem dX3_load_24 : decode cX3_load 24 = .ok (.invokestatic 30, 3) := by decide +kernel
theorem dX3_load_27 : decode cX3_load 27 = .ok (.iconst 0, 1) := by decide +kernel
theorem dX3_load_28 : decode cX3_load 28 = .ok (.istore_n 2, 1) := by decide +kernel
theorem dX3_load_29 : decode cX3_load 29 = .ok (.iload_n 2, 1) := by decide +kernel
theorem dX3_load_30 : decode cX3_load 30 = .ok (.aload_n 1, 1) := by decide +kernel
theorem dX3_load_31 : decode cX3_load 31 = .ok (.invokevirtual 34, 3) := by decide +kernel
theorem dX3_load_34 : decode cX3_load 34 = .ok (.if_icmp .ge 22, 3) := by decide +kernel
theorem dX3_load_37 : decode cX3_load 37 = .ok (.aload_n 0, 1) := by decide +kernel
theorem dX3_load_38 : decode cX3_load 38 = .ok (.iload_n 2, 1) := by decide +kernel
theorem dX3_load_39 : decode cX3_load 39 = .ok (.aload_n 1, 1) := by decide +kernel
theorem dX3_load_40 : decode cX3_load 40 = .ok (.getfield 38, 3) := by decide +kernel
theorem dX3_load_43 : decode cX3_load 43 = .ok (.iload_n 2, 1) := by decide +kernel
theorem dX3_load_44 : decode cX3_load 44 = .ok (.invokestatic 39, 3) := by decide +kernel
theorem dX3_load_47 : decode cX3_load 47 = .ok (.invokevirtual 43, 3) := by decide +kernel
theorem dX3_load_50 : decode cX3_load 50 = .ok (.iinc 2 1, 3) := by decide +kernel
theorem dX3_load_53 : decode cX3_load 53 = .ok (.goto (-24), 3) := by decide +kernel
theorem dX3_load_56 : decode cX3_load 56 = .ok (.return_, 1) := by decide +kernel
theorem dX3_make_0 : decode cX3_make 0 = .ok (.iload_n 1, 1) := by decide +kernel
theorem dX3_make_1 : decode cX3_make 1 = .ok (.iconst 2, 1) := by decide +kernel
theorem dX3_make_2 : decode cX3_make 2 = .ok (.if_icmp .ne 14, 3) := by decide +kernel
theorem dX3_make_5 : decode cX3_make 5 = .ok (.aload_n 0, 1) := by decide +kernel
theorem dX3_make_6 : decode cX3_make 6 = .ok (.dup, 1) := by decide +kernel
theorem dX3_make_7 : decode cX3_make 7 = .ok (.getfield 28, 3) := by decide +kernel
theorem dX3_make_10 : decode cX3_make 10 = .ok (.iconst 1, 1) := by decide +kernel
theorem dX3_make_11 : decode cX3_make 11 = .ok (.isub, 1) := by decide +kernel
theorem dX3_make_12 : decode cX3_make 12 = .ok (.putfield 28, 3) := by decide +kernel
theorem dX3_make_15 : decode cX3_make 15 = .ok (.return_, 1) := by decide +kernel
theorem dX3_make_16 : decode cX3_make 16 = .ok (.iload_n 1, 1) := by decide +kernel
theorem dX3_make_17 : decode cX3_make 17 = .ok (.iconst 1, 1) := by decide +kernel
theorem dX3_make_18 : decode cX3_make 18 = .ok (.if_icmp .ne 30, 3) := by decide +kernel
theorem dX3_make_21 : decode cX3_make 21 = .ok (.aload_n 0, 1) := by decide +kernel
theorem dX3_make_22 : decode cX3_make 22 = .ok (.getfield 9, 3) := by decide +kernel
theorem dX3_make_25 : decode cX3_make 25 = .ok (.iconst 0, 1) := by decide +kernel
theorem dX3_make_26 : decode cX3_make 26 = .ok (.invokestatic 105, 3) := by decide +kernel
theorem dX3_make_29 : decode cX3_make 29 = .ok (.aload_n 0, 1) := by decide +kernel
theorem dX3_make_30 : decode cX3_make 30 = .ok (.getfield 15, 3) := by decide +kernel
theorem dX3_make_33 : decode cX3_make 33 = .ok (.iconst 0, 1) := by decide +kernel
theorem dX3_make_34 : decode cX3_make 34 = .ok (.invokestatic 105, 3) := by decide +kernel
theorem dX3_make_37 : decode cX3_make 37 = .ok (.aload_n 0, 1) := by decide +kernel
theorem dX3_make_38 : decode cX3_make 38 = .ok (.dup, 1) := by decide +kernel
theorem dX3_make_39 : decode cX3_make 39 = .ok (.getfield 28, 3) := by decide +kernel
theorem dX3_make_42 : decode cX3_make 42 = .ok (.iconst 1, 1) := by decide +kernel
theorem dX3_make_43 : decode cX3_make 43 = .ok (.isub, 1) := by decide +kernel
theorem dX3_make_44 : decode cX3_make 44 = .ok (.putfield 28, 3) := by decide +kernel
theorem dX3_make_47 : decode cX3_make 47 = .ok (.return_, 1) := by decide +kernel
theorem dX3_make_48 : decode cX3_make 48 = .ok (.iload_n 1, 1) := by decide +kernel
theorem dX3_make_49 : decode cX3_make 49 = .ok (.bipush 10, 2) := by decide +kernel
theorem dX3_make_51 : decode cX3_make 51 = .ok (.isub, 1) := by decide +kernel
theorem dX3_make_52 : decode cX3_make 52 = .ok (.istore_n 2, 1) := by decide +kernel
theorem dX3_make_53 : decode cX3_make 53 = .ok (.aload_n 0, 1) := by decide +kernel
theorem dX3_make_54 : decode cX3_make 54 = .ok (.iload_n 2, 1) := by decide +kernel
theorem dX3_make_55 : decode cX3_make 55 = .ok (.invokevirtual 80, 3) := by decide +kernel
theorem dX3_make_58 : decode cX3_make 58 = .ok (.istore_n 3, 1) := by decide +kernel
theorem dX3_make_59 : decode cX3_make 59 = .ok (.aload_n 0, 1) := by decide +kernel
theorem dX3_make_60 : decode cX3_make 60 = .ok (.iload_n 2, 1) := by decide +kernel
theorem dX3_make_61 : decode cX3_make 61 = .ok (.invokevirtual 83, 3) := by decide +kernel
theorem dX3_make_64 : decode cX3_make 64 = .ok (.istore 4, 2) := by decide +kernel
theorem dX3_make_66 : decode cX3_make 66 = .ok (.aload_n 0, 1) := by decide +kernel
theorem dX3_make_67 : decode cX3_make 67 = .ok (.getfield 9, 3) := by decide +kernel
theorem dX3_make_70 : decode cX3_make 70 = .ok (.iload_n 3, 1) := by decide +kernel
theorem dX3_make_71 : decode cX3_make 71 = .ok (.aload_n 0, 1) := by decide +kernel
theorem dX3_make_72 : decode cX3_make 72 = .ok (.getfield 9, 3) := by decide +kernel
theorem dX3_make_75 : decode cX3_make 75 = .ok (.iload_n 3, 1) := by decide +kernel
theorem dX3_make_76 : decode cX3_make 76 = .ok (.invokestatic 39, 3) := by decide +kernel
theorem dX3_make_79 : decode cX3_make 79 = .ok (.aload_n 0, 1) := by decide +kernel
theorem dX3_make_80 : decode cX3_make 80 = .ok (.getfield 9, 3) := by decide +kernel
theorem dX3_make_83 : decode cX3_make 83 = .ok (.iload 4, 2) := by decide +kernel
theorem dX3_make_85 : decode cX3_make 85 = .ok (.invokestatic 39, 3) := by decide +kernel
theorem dX3_make_88 : decode cX3_make 88 = .ok (.iadd, 1) := by decide +kernel
theorem dX3_make_89 : decode cX3_make 89 = .ok (.aload_n 0, 1) := by decide +kernel
theorem dX3_make_90 : decode cX3_make 90 = .ok (.getfield 9, 3) := by decide +kernel
theorem dX3_make_93 : decode cX3_make 93 = .ok (.iload_n 2, 1) := by decide +kernel
theorem dX3_make_94 : decode cX3_make 94 = .ok (.invokestatic 39, 3) := by decide +kernel
theorem dX3_make_97 : decode cX3_make 97 = .ok (.isub, 1) := by decide +kernel
theorem dX3_make_98 : decode cX3_make 98 = .ok (.invokestatic 47, 3) := by decide +kernel
theorem dX3_make_101 : decode cX3_make 101 = .ok (.aload_n 0, 1) := by decide +kernel
theorem dX3_make_102 : decode cX3_make 102 = .ok (.getfield 9, 3) := by decide +kernel
theorem dX3_make_105 : decode cX3_make 105 = .ok (.iload_n 2, 1) := by decide +kernel
theorem dX3_make_106 : decode cX3_make 106 = .ok (.iload 4, 2) := by decide +kernel
theorem dX3_make_108 : decode cX3_make 108 = .ok (.invokestatic 109, 3) := by decide +kernel
theorem dX3_make_111 : decode cX3_make 111 = .ok (.invokestatic 105, 3) := by decide +kernel
theorem dX3_make_114 : decode cX3_make 114 = .ok (.aload_n 0, 1) := by decide +kernel
theorem dX3_make_115 : decode cX3_make 115 = .ok (.getfield 9, 3) := by decide +kernel
theorem dX3_make_118 : decode cX3_make 118 = .ok (.iload_n 2, 1) := by decide +kernel
theorem dX3_make_119 : decode cX3_make 119 = .ok (.iload 4, 2) := by decide +kernel
theorem dX3_make_121 : decode cX3_make 121 = .ok (.invokestatic 112, 3) := by decide +kernel
theorem dX3_make_124 : decode cX3_make 124 = .ok (.invokestatic 105, 3) := by decide +kernel
theorem dX3_make_127 : decode cX3_make 127 = .ok (.aload_n 0, 1) := by decide +kernel
theorem dX3_make_128 : decode cX3_make 128 = .ok (.getfield 15, 3) := by decide +kernel
theorem dX3_make_131 : decode cX3_make 131 = .ok (.iload_n 2, 1) := by decide +kernel
theorem dX3_make_132 : decode cX3_make 132 = .ok (.iload 4, 2) := by decide +kernel
theorem dX3_make_134 : decode cX3_make 134 = .ok (.invokestatic 109, 3) := by decide +kernel
theorem dX3_make_137 : decode cX3_make 137 = .ok (.invokestatic 105, 3) := by decide +kernel
theorem dX3_make_140 : decode cX3_make 140 = .ok (.aload_n 0, 1) := by decide +kernel
theorem dX3_make_141 : decode cX3_make 141 = .ok (.getfield 15, 3) := by decide +kernel
theorem dX3_make_144 : decode cX3_make 144 = .ok (.iload_n 2, 1) := by decide +kernel
theorem dX3_make_145 : decode cX3_make 145 = .ok (.iload 4, 2) := by decide +kernel
theorem dX3_make_147 : decode cX3_make 147 = .ok (.invokestatic 112, 3) := by decide +kernel
theorem dX3_make_150 : decode cX3_make 150 = .ok (.invokestatic 105, 3) := by decide +kernel
theorem dX3_make_153 : decode cX3_make 153 = .ok (.aload_n 0, 1) := by decide +kernel
theorem dX3_make_154 : decode cX3_make 154 = .ok (.dup, 1) := by decide +kernel
theorem dX3_make_155 : decode cX3_make 155 = .ok (.getfield 28, 3) := by decide +kernel
theorem dX3_make_158 : decode cX3_make 158 = .ok (.iconst 2, 1) := by decide +kernel
theorem dX3_make_159 : decode cX3_make 159 = .ok (.isub, 1) := by decide +kernel
theorem dX3_make_160 : decode cX3_make 160 = .ok (.putfield 28, 3) := by decide +kernel
theorem dX3_make_163 : decode cX3_make 163 = .ok (.return_, 1) := by decide +kernel
theorem dX3_putCrease_0 : decode cX3_putCrease 0 = .ok (.aload_n 0, 1) := by decide +kernel
theorem dX3_putCrease_1 : decode cX3_putCrease 1 = .ok (.getfield 15, 3) := by decide +kernel
theorem dX3_putCrease_4 : decode cX3_putCrease 4 = .ok (.aload_n 0, 1) := by decide +kernel
theorem dX3_putCrease_5 : decode cX3_putCrease 5 = .ok (.getfield 24, 3) := by decide +kernel
theorem dX3_putCrease_8 : decode cX3_putCrease 8 = .ok (.ifCond .ne 9, 3) := by decide +kernel
theorem dX3_putCrease_11 : decode cX3_putCrease 11 = .ok (.iload_n 1, 1) := by decide +kernel
theorem dX3_putCrease_12 : decode cX3_putCrease 12 = .ok (.iconst 1, 1) := by decide +kernel
theorem dX3_putCrease_13 : decode cX3_putCrease 13 = .ok (.iadd, 1) := by decide +kernel
theorem dX3_putCrease_14 : decode cX3_putCrease 14 = .ok (.goto 4, 3) := by decide +kernel
theorem dX3_putCrease_17 : decode cX3_putCrease 17 = .ok (.iload_n 1, 1) := by decide +kernel
theorem dX3_putCrease_18 : decode cX3_putCrease 18 = .ok (.iload_n 2, 1) := by decide +kernel
theorem dX3_putCrease_19 : decode cX3_putCrease 19 = .ok (.invokestatic 47, 3) := by decide +kernel
theorem dX3_putCrease_22 : decode cX3_putCrease 22 = .ok (.return_, 1) := by decide +kernel
theorem dX3_reduce_0 : decode cX3_reduce 0 = .ok (.iconst 0, 1) := by decide +kernel
theorem dX3_reduce_1 : decode cX3_reduce 1 = .ok (.istore_n 1, 1) := by decide +kernel
theorem dX3_reduce_2 : decode cX3_reduce 2 = .ok (.aload_n 0, 1) := by decide +kernel
theorem dX3_reduce_3 : decode cX3_reduce 3 = .ok (.invokevirtual 98, 3) := by decide +kernel
theorem dX3_reduce_6 : decode cX3_reduce 6 = .ok (.istore_n 2, 1) := by decide +kernel
theorem dX3_reduce_7 : decode cX3_reduce 7 = .ok (.iload_n 1, 1) := by decide +kernel
theorem dX3_reduce_8 : decode cX3_reduce 8 = .ok (.bipush 8, 2) := by decide +kernel
theorem dX3_reduce_10 : decode cX3_reduce 10 = .ok (.if_icmp .ge 23, 3) := by decide +kernel
theorem dX3_reduce_13 : decode cX3_reduce 13 = .ok (.iload_n 2, 1) := by decide +kernel
theorem dX3_reduce_14 : decode cX3_reduce 14 = .ok (.ifCond .eq 19, 3) := by decide +kernel
theorem dX3_reduce_17 : decode cX3_reduce 17 = .ok (.aload_n 0, 1) := by decide +kernel
theorem dX3_reduce_18 : decode cX3_reduce 18 = .ok (.iload_n 2, 1) := by decide +kernel
theorem dX3_reduce_19 : decode cX3_reduce 19 = .ok (.invokevirtual 101, 3) := by decide +kernel
theorem dX3_reduce_22 : decode cX3_reduce 22 = .ok (.iinc 1 1, 3) := by decide +kernel
theorem dX3_reduce_25 : decode cX3_reduce 25 = .ok (.aload_n 0, 1) := by decide +kernel
theorem dX3_reduce_26 : decode cX3_reduce 26 = .ok (.invokevirtual 98, 3) := by decide +kernel
theorem dX3_reduce_29 : decode cX3_reduce 29 = .ok (.istore_n 2, 1) := by decide +kernel
theorem dX3_reduce_30 : decode cX3_reduce 30 = .ok (.goto (-23), 3) := by decide +kernel
theorem dX3_reduce_33 : decode cX3_reduce 33 = .ok (.iload_n 1, 1) := by decide +kernel
theorem dX3_reduce_34 : decode cX3_reduce 34 = .ok (.ireturn, 1) := by decide +kernel
theorem dX3_whatStandsInTheWay_0 : decode cX3_whatStandsInTheWay 0 = .ok (.aload_n 1, 1) := by decide +kernel
theorem dX3_whatStandsInTheWay_1 : decode cX3_whatStandsInTheWay 1 = .ok (.invokevirtual 51, 3) := by decide +kernel
theorem dX3_whatStandsInTheWay_4 : decode cX3_whatStandsInTheWay 4 = .ok (.ifCond .eq 5, 3) := by decide +kernel
theorem dX3_whatStandsInTheWay_7 : decode cX3_whatStandsInTheWay 7 = .ok (.iconst 4, 1) := by decide +kernel
theorem dX3_whatStandsInTheWay_8 : decode cX3_whatStandsInTheWay 8 = .ok (.ireturn, 1) := by decide +kernel
theorem dX3_whatStandsInTheWay_9 : decode cX3_whatStandsInTheWay 9 = .ok (.aload_n 0, 1) := by decide +kernel
theorem dX3_whatStandsInTheWay_10 : decode cX3_whatStandsInTheWay 10 = .ok (.aload_n 1, 1) := by decide +kernel
theorem dX3_whatStandsInTheWay_11 : decode cX3_whatStandsInTheWay 11 = .ok (.invokevirtual 55, 3) := by decide +kernel
theorem dX3_whatStandsInTheWay_14 : decode cX3_whatStandsInTheWay 14 = .ok (.aload_n 0, 1) := by decide +kernel
theorem dX3_whatStandsInTheWay_15 : decode cX3_whatStandsInTheWay 15 = .ok (.getfield 24, 3) := by decide +kernel
theorem dX3_whatStandsInTheWay_18 : decode cX3_whatStandsInTheWay 18 = .ok (.iconst 1, 1) := by decide +kernel
theorem dX3_whatStandsInTheWay_19 : decode cX3_whatStandsInTheWay 19 = .ok (.if_icmp .ne 43, 3) := by decide +kernel
theorem dX3_whatStandsInTheWay_22 : decode cX3_whatStandsInTheWay 22 = .ok (.aload_n 0, 1) := by decide +kernel
theorem dX3_whatStandsInTheWay_23 : decode cX3_whatStandsInTheWay 23 = .ok (.invokevirtual 59, 3) := by decide +kernel
theorem dX3_whatStandsInTheWay_26 : decode cX3_whatStandsInTheWay 26 = .ok (.bipush 12, 2) := by decide +kernel
theorem dX3_whatStandsInTheWay_28 : decode cX3_whatStandsInTheWay 28 = .ok (.if_icmp .eq 5, 3) := by decide +kernel
theorem dX3_whatStandsInTheWay_31 : decode cX3_whatStandsInTheWay 31 = .ok (.iconst 1, 1) := by decide +kernel
theorem dX3_whatStandsInTheWay_32 : decode cX3_whatStandsInTheWay 32 = .ok (.ireturn, 1) := by decide +kernel
theorem dX3_whatStandsInTheWay_33 : decode cX3_whatStandsInTheWay 33 = .ok (.aload_n 1, 1) := by decide +kernel
theorem dX3_whatStandsInTheWay_34 : decode cX3_whatStandsInTheWay 34 = .ok (.iconst 1, 1) := by decide +kernel
theorem dX3_whatStandsInTheWay_35 : decode cX3_whatStandsInTheWay 35 = .ok (.invokevirtual 62, 3) := by decide +kernel
theorem dX3_whatStandsInTheWay_38 : decode cX3_whatStandsInTheWay 38 = .ok (.aload_n 1, 1) := by decide +kernel
theorem dX3_whatStandsInTheWay_39 : decode cX3_whatStandsInTheWay 39 = .ok (.iconst 2, 1) := by decide +kernel
theorem dX3_whatStandsInTheWay_40 : decode cX3_whatStandsInTheWay 40 = .ok (.invokevirtual 62, 3) := by decide +kernel
theorem dX3_whatStandsInTheWay_43 : decode cX3_whatStandsInTheWay 43 = .ok (.isub, 1) := by decide +kernel
theorem dX3_whatStandsInTheWay_44 : decode cX3_whatStandsInTheWay 44 = .ok (.invokestatic 66, 3) := by decide +kernel
theorem dX3_whatStandsInTheWay_47 : decode cX3_whatStandsInTheWay 47 = .ok (.iconst 2, 1) := by decide +kernel
theorem dX3_whatStandsInTheWay_48 : decode cX3_whatStandsInTheWay 48 = .ok (.if_icmp .eq 5, 3) := by decide +kernel
theorem dX3_whatStandsInTheWay_51 : decode cX3_whatStandsInTheWay 51 = .ok (.iconst 2, 1) := by decide +kernel
theorem dX3_whatStandsInTheWay_52 : decode cX3_whatStandsInTheWay 52 = .ok (.ireturn, 1) := by decide +kernel
theorem dX3_whatStandsInTheWay_53 : decode cX3_whatStandsInTheWay 53 = .ok (.aload_n 0, 1) := by decide +kernel
theorem dX3_whatStandsInTheWay_54 : decode cX3_whatStandsInTheWay 54 = .ok (.invokevirtual 71, 3) := by decide +kernel
theorem dX3_whatStandsInTheWay_57 : decode cX3_whatStandsInTheWay 57 = .ok (.ifCond .eq 5, 3) := by decide +kernel
theorem dX3_whatStandsInTheWay_60 : decode cX3_whatStandsInTheWay 60 = .ok (.iconst 3, 1) := by decide +kernel
theorem dX3_whatStandsInTheWay_61 : decode cX3_whatStandsInTheWay 61 = .ok (.ireturn, 1) := by decide +kernel
theorem dX3_whatStandsInTheWay_62 : decode cX3_whatStandsInTheWay 62 = .ok (.aload_n 0, 1) := by decide +kernel
theorem dX3_whatStandsInTheWay_63 : decode cX3_whatStandsInTheWay 63 = .ok (.invokevirtual 74, 3) := by decide +kernel
theorem dX3_whatStandsInTheWay_66 : decode cX3_whatStandsInTheWay 66 = .ok (.pop, 1) := by decide +kernel
theorem dX3_whatStandsInTheWay_67 : decode cX3_whatStandsInTheWay 67 = .ok (.aload_n 0, 1) := by decide +kernel
theorem dX3_whatStandsInTheWay_68 : decode cX3_whatStandsInTheWay 68 = .ok (.invokevirtual 77, 3) := by decide +kernel
theorem dX3_whatStandsInTheWay_71 : decode cX3_whatStandsInTheWay 71 = .ok (.ifCond .eq 7, 3) := by decide +kernel
theorem dX3_whatStandsInTheWay_74 : decode cX3_whatStandsInTheWay 74 = .ok (.iconst 0, 1) := by decide +kernel
theorem dX3_whatStandsInTheWay_75 : decode cX3_whatStandsInTheWay 75 = .ok (.goto 4, 3) := by decide +kernel
theorem dX3_whatStandsInTheWay_78 : decode cX3_whatStandsInTheWay 78 = .ok (.iconst 5, 1) := by decide +kernel
theorem dX3_whatStandsInTheWay_79 : decode cX3_whatStandsInTheWay 79 = .ok (.ireturn, 1) := by decide +kernel
theorem dX4_clear_0 : decode cX4_clear 0 = .ok (.aload_n 0, 1) := by decide +kernel
theorem dX4_clear_1 : decode cX4_clear 1 = .ok (.iconst 0, 1) := by decide +kernel
theorem dX4_clear_2 : decode cX4_clear 2 = .ok (.putfield 15, 3) := by decide +kernel
theorem dX4_clear_5 : decode cX4_clear 5 = .ok (.return_, 1) := by decide +kernel
theorem dX4_codeHere_0 : decode cX4_codeHere 0 = .ok (.aload_n 0, 1) := by decide +kernel
theorem dX4_codeHere_1 : decode cX4_codeHere 1 = .ok (.getfield 23, 3) := by decide +kernel
theorem dX4_codeHere_4 : decode cX4_codeHere 4 = .ok (.aload_n 0, 1) := by decide +kernel
theorem dX4_codeHere_5 : decode cX4_codeHere 5 = .ok (.getfield 15, 3) := by decide +kernel
theorem dX4_codeHere_8 : decode cX4_codeHere 8 = .ok (.if_icmp .ge 17, 3) := by decide +kernel
theorem dX4_codeHere_11 : decode cX4_codeHere 11 = .ok (.aload_n 0, 1) := by decide +kernel
theorem dX4_codeHere_12 : decode cX4_codeHere 12 = .ok (.getfield 9, 3) := by decide +kernel
theorem dX4_codeHere_15 : decode cX4_codeHere 15 = .ok (.aload_n 0, 1) := by decide +kernel
theorem dX4_codeHere_16 : decode cX4_codeHere 16 = .ok (.getfield 23, 3) := by decide +kernel
theorem dX4_codeHere_19 : decode cX4_codeHere 19 = .ok (.invokestatic 59, 3) := by decide +kernel
theorem dX4_codeHere_22 : decode cX4_codeHere 22 = .ok (.goto 4, 3) := by decide +kernel
theorem dX4_codeHere_25 : decode cX4_codeHere 25 = .ok (.iconst 0, 1) := by decide +kernel
theorem dX4_codeHere_26 : decode cX4_codeHere 26 = .ok (.ireturn, 1) := by decide +kernel
theorem dX4_faultPosition_0 : decode cX4_faultPosition 0 = .ok (.aload_n 0, 1) := by decide +kernel
theorem dX4_faultPosition_1 : decode cX4_faultPosition 1 = .ok (.invokevirtual 26, 3) := by decide +kernel
theorem dX4_faultPosition_4 : decode cX4_faultPosition 4 = .ok (.iconst 0, 1) := by decide +kernel
theorem dX4_faultPosition_5 : decode cX4_faultPosition 5 = .ok (.istore_n 1, 1) := by decide +kernel
theorem dX4_faultPosition_6 : decode cX4_faultPosition 6 = .ok (.iload_n 1, 1) := by decide +kernel
theorem dX4_faultPosition_7 : decode cX4_faultPosition 7 = .ok (.bipush 80, 2) := by decide +kernel
theorem dX4_faultPosition_9 : decode cX4_faultPosition 9 = .ok (.if_icmp .ge 45, 3) := by decide +kernel
theorem dX4_faultPosition_12 : decode cX4_faultPosition 12 = .ok (.aload_n 0, 1) := by decide +kernel
theorem dX4_faultPosition_13 : decode cX4_faultPosition 13 = .ok (.invokevirtual 29, 3) := by decide +kernel
theorem dX4_faultPosition_16 : decode cX4_faultPosition 16 = .ok (.ifCond .eq 38, 3) := by decide +kernel
theorem dX4_faultPosition_19 : decode cX4_faultPosition 19 = .ok (.aload_n 0, 1) := by decide +kernel
theorem dX4_faultPosition_20 : decode cX4_faultPosition 20 = .ok (.getfield 23, 3) := by decide +kernel
theorem dX4_faultPosition_23 : decode cX4_faultPosition 23 = .ok (.aload_n 0, 1) := by decide +kernel
theorem dX4_faultPosition_24 : decode cX4_faultPosition 24 = .ok (.getfield 15, 3) := by decide +kernel
theorem dX4_faultPosition_27 : decode cX4_faultPosition 27 = .ok (.if_icmp .ne 7, 3) := by decide +kernel
theorem dX4_faultPosition_30 : decode cX4_faultPosition 30 = .ok (.sipush (-1004), 3) := by decide +kernel
theorem dX4_faultPosition_33 : decode cX4_faultPosition 33 = .ok (.ireturn, 1) := by decide +kernel
theorem dX4_faultPosition_34 : decode cX4_faultPosition 34 = .ok (.aload_n 0, 1) := by decide +kernel
theorem dX4_faultPosition_35 : decode cX4_faultPosition 35 = .ok (.bipush 59, 2) := by decide +kernel
theorem dX4_faultPosition_37 : decode cX4_faultPosition 37 = .ok (.invokevirtual 33, 3) := by decide +kernel
theorem dX4_faultPosition_40 : decode cX4_faultPosition 40 = .ok (.ifCond .ne 8, 3) := by decide +kernel
theorem dX4_faultPosition_43 : decode cX4_faultPosition 43 = .ok (.aload_n 0, 1) := by decide +kernel
theorem dX4_faultPosition_44 : decode cX4_faultPosition 44 = .ok (.getfield 23, 3) := by decide +kernel
theorem dX4_faultPosition_47 : decode cX4_faultPosition 47 = .ok (.ireturn, 1) := by decide +kernel
theorem dX4_faultPosition_48 : decode cX4_faultPosition 48 = .ok (.iinc 1 1, 3) := by decide +kernel
theorem dX4_faultPosition_51 : decode cX4_faultPosition 51 = .ok (.goto (-45), 3) := by decide +kernel
theorem dX4_faultPosition_54 : decode cX4_faultPosition 54 = .ok (.aload_n 0, 1) := by decide +kernel
theorem dX4_faultPosition_55 : decode cX4_faultPosition 55 = .ok (.getfield 23, 3) := by decide +kernel
theorem dX4_faultPosition_58 : decode cX4_faultPosition 58 = .ok (.ireturn, 1) := by decide +kernel
theorem dX4_rewind_0 : decode cX4_rewind 0 = .ok (.aload_n 0, 1) := by decide +kernel
theorem dX4_rewind_1 : decode cX4_rewind 1 = .ok (.iconst 0, 1) := by decide +kernel
theorem dX4_rewind_2 : decode cX4_rewind 2 = .ok (.putfield 23, 3) := by decide +kernel
theorem dX4_rewind_5 : decode cX4_rewind 5 = .ok (.return_, 1) := by decide +kernel
theorem dX4_takeCommand_0 : decode cX4_takeCommand 0 = .ok (.aload_n 0, 1) := by decide +kernel
theorem dX4_takeCommand_1 : decode cX4_takeCommand 1 = .ok (.aload_n 0, 1) := by decide +kernel
theorem dX4_takeCommand_2 : decode cX4_takeCommand 2 = .ok (.invokevirtual 37, 3) := by decide +kernel
theorem dX4_takeCommand_5 : decode cX4_takeCommand 5 = .ok (.putfield 41, 3) := by decide +kernel
theorem dX4_takeCommand_8 : decode cX4_takeCommand 8 = .ok (.aload_n 0, 1) := by decide +kernel
theorem dX4_takeCommand_9 : decode cX4_takeCommand 9 = .ok (.getfield 41, 3) := by decide +kernel
theorem dX4_takeCommand_12 : decode cX4_takeCommand 12 = .ok (.tableswitch 213 99 120 #[104, 213, 213, 198, 213, 213, 213, 213, 213, 213, 143, 213, 213, 213, 213, 213, 104, 198, 198, 213, 213, 198], 104) := by decide +kernel
theorem dX4_takeCommand_116 : decode cX4_takeCommand 116 = .ok (.aload_n 0, 1) := by decide +kernel
theorem dX4_takeCommand_117 : decode cX4_takeCommand 117 = .ok (.dup, 1) := by decide +kernel
theorem dX4_takeCommand_118 : decode cX4_takeCommand 118 = .ok (.getfield 23, 3) := by decide +kernel
theorem dX4_takeCommand_121 : decode cX4_takeCommand 121 = .ok (.iconst 1, 1) := by decide +kernel
theorem dX4_takeCommand_122 : decode cX4_takeCommand 122 = .ok (.iadd, 1) := by decide +kernel
theorem dX4_takeCommand_123 : decode cX4_takeCommand 123 = .ok (.putfield 23, 3) := by decide +kernel
theorem dX4_takeCommand_126 : decode cX4_takeCommand 126 = .ok (.aload_n 0, 1) := by decide +kernel
theorem dX4_takeCommand_127 : decode cX4_takeCommand 127 = .ok (.invokevirtual 44, 3) := by decide +kernel
theorem dX4_takeCommand_130 : decode cX4_takeCommand 130 = .ok (.ifCond .eq 23, 3) := by decide +kernel
theorem dX4_takeCommand_133 : decode cX4_takeCommand 133 = .ok (.aload_n 0, 1) := by decide +kernel
theorem dX4_takeCommand_134 : decode cX4_takeCommand 134 = .ok (.bipush 58, 2) := by decide +kernel
theorem dX4_takeCommand_136 : decode cX4_takeCommand 136 = .ok (.invokevirtual 33, 3) := by decide +kernel
theorem dX4_takeCommand_139 : decode cX4_takeCommand 139 = .ok (.ifCond .eq 14, 3) := by decide +kernel
theorem dX4_takeCommand_142 : decode cX4_takeCommand 142 = .ok (.aload_n 0, 1) := by decide +kernel
theorem dX4_takeCommand_143 : decode cX4_takeCommand 143 = .ok (.invokevirtual 47, 3) := by decide +kernel
theorem dX4_takeCommand_146 : decode cX4_takeCommand 146 = .ok (.ifCond .eq 7, 3) := by decide +kernel
theorem dX4_takeCommand_149 : decode cX4_takeCommand 149 = .ok (.iconst 1, 1) := by decide +kernel
theorem dX4_takeCommand_150 : decode cX4_takeCommand 150 = .ok (.goto 4, 3) := by decide +kernel
theorem dX4_takeCommand_153 : decode cX4_takeCommand 153 = .ok (.iconst 0, 1) := by decide +kernel
theorem dX4_takeCommand_154 : decode cX4_takeCommand 154 = .ok (.ireturn, 1) := by decide +kernel
theorem dX4_takeCommand_155 : decode cX4_takeCommand 155 = .ok (.aload_n 0, 1) := by decide +kernel
theorem dX4_takeCommand_156 : decode cX4_takeCommand 156 = .ok (.dup, 1) := by decide +kernel
theorem dX4_takeCommand_157 : decode cX4_takeCommand 157 = .ok (.getfield 23, 3) := by decide +kernel
theorem dX4_takeCommand_160 : decode cX4_takeCommand 160 = .ok (.iconst 1, 1) := by decide +kernel
theorem dX4_takeCommand_161 : decode cX4_takeCommand 161 = .ok (.iadd, 1) := by decide +kernel
theorem dX4_takeCommand_162 : decode cX4_takeCommand 162 = .ok (.putfield 23, 3) := by decide +kernel
theorem dX4_takeCommand_165 : decode cX4_takeCommand 165 = .ok (.aload_n 0, 1) := by decide +kernel
theorem dX4_takeCommand_166 : decode cX4_takeCommand 166 = .ok (.invokevirtual 50, 3) := by decide +kernel
theorem dX4_takeCommand_169 : decode cX4_takeCommand 169 = .ok (.ifCond .eq 39, 3) := by decide +kernel
theorem dX4_takeCommand_172 : decode cX4_takeCommand 172 = .ok (.aload_n 0, 1) := by decide +kernel
theorem dX4_takeCommand_173 : decode cX4_takeCommand 173 = .ok (.bipush 46, 2) := by decide +kernel
theorem dX4_takeCommand_175 : decode cX4_takeCommand 175 = .ok (.invokevirtual 33, 3) := by decide +kernel
theorem dX4_takeCommand_178 : decode cX4_takeCommand 178 = .ok (.ifCond .eq 30, 3) := by decide +kernel
theorem dX4_takeCommand_181 : decode cX4_takeCommand 181 = .ok (.aload_n 0, 1) := by decide +kernel
theorem dX4_takeCommand_182 : decode cX4_takeCommand 182 = .ok (.invokevirtual 53, 3) := by decide +kernel
theorem dX4_takeCommand_185 : decode cX4_takeCommand 185 = .ok (.ifCond .eq 23, 3) := by decide +kernel
theorem dX4_takeCommand_188 : decode cX4_takeCommand 188 = .ok (.aload_n 0, 1) := by decide +kernel
theorem dX4_takeCommand_189 : decode cX4_takeCommand 189 = .ok (.bipush 61, 2) := by decide +kernel
theorem dX4_takeCommand_191 : decode cX4_takeCommand 191 = .ok (.invokevirtual 33, 3) := by decide +kernel
theorem dX4_takeCommand_194 : decode cX4_takeCommand 194 = .ok (.ifCond .eq 14, 3) := by decide +kernel
theorem dX4_takeCommand_197 : decode cX4_takeCommand 197 = .ok (.aload_n 0, 1) := by decide +kernel
theorem dX4_takeCommand_198 : decode cX4_takeCommand 198 = .ok (.invokevirtual 56, 3) := by decide +kernel
theorem dX4_takeCommand_201 : decode cX4_takeCommand 201 = .ok (.ifCond .eq 7, 3) := by decide +kernel
theorem dX4_takeCommand_204 : decode cX4_takeCommand 204 = .ok (.iconst 1, 1) := by decide +kernel
theorem dX4_takeCommand_205 : decode cX4_takeCommand 205 = .ok (.goto 4, 3) := by decide +kernel
theorem dX4_takeCommand_208 : decode cX4_takeCommand 208 = .ok (.iconst 0, 1) := by decide +kernel
theorem dX4_takeCommand_209 : decode cX4_takeCommand 209 = .ok (.ireturn, 1) := by decide +kernel
theorem dX4_takeCommand_210 : decode cX4_takeCommand 210 = .ok (.aload_n 0, 1) := by decide +kernel
theorem dX4_takeCommand_211 : decode cX4_takeCommand 211 = .ok (.dup, 1) := by decide +kernel
theorem dX4_takeCommand_212 : decode cX4_takeCommand 212 = .ok (.getfield 23, 3) := by decide +kernel
theorem dX4_takeCommand_215 : decode cX4_takeCommand 215 = .ok (.iconst 1, 1) := by decide +kernel
theorem dX4_takeCommand_216 : decode cX4_takeCommand 216 = .ok (.iadd, 1) := by decide +kernel
theorem dX4_takeCommand_217 : decode cX4_takeCommand 217 = .ok (.putfield 23, 3) := by decide +kernel
theorem dX4_takeCommand_220 : decode cX4_takeCommand 220 = .ok (.aload_n 0, 1) := by decide +kernel
theorem dX4_takeCommand_221 : decode cX4_takeCommand 221 = .ok (.invokevirtual 50, 3) := by decide +kernel
theorem dX4_takeCommand_224 : decode cX4_takeCommand 224 = .ok (.ireturn, 1) := by decide +kernel
theorem dX4_takeCommand_225 : decode cX4_takeCommand 225 = .ok (.iconst 0, 1) := by decide +kernel
theorem dX4_takeCommand_226 : decode cX4_takeCommand 226 = .ok (.ireturn, 1) := by decide +kernel
theorem dX4_takeCrease_0 : decode cX4_takeCrease 0 = .ok (.aload_n 0, 1) := by decide +kernel
theorem dX4_takeCrease_1 : decode cX4_takeCrease 1 = .ok (.aload_n 0, 1) := by decide +kernel
theorem dX4_takeCrease_2 : decode cX4_takeCrease 2 = .ok (.invokevirtual 37, 3) := by decide +kernel
theorem dX4_takeCrease_5 : decode cX4_takeCrease 5 = .ok (.bipush 48, 2) := by decide +kernel
theorem dX4_takeCrease_7 : decode cX4_takeCrease 7 = .ok (.isub, 1) := by decide +kernel
theorem dX4_takeCrease_8 : decode cX4_takeCrease 8 = .ok (.putfield 66, 3) := by decide +kernel
theorem dX4_takeCrease_11 : decode cX4_takeCrease 11 = .ok (.aload_n 0, 1) := by decide +kernel
theorem dX4_takeCrease_12 : decode cX4_takeCrease 12 = .ok (.invokevirtual 75, 3) := by decide +kernel
theorem dX4_takeCrease_15 : decode cX4_takeCrease 15 = .ok (.ireturn, 1) := by decide +kernel
theorem dX4_takeCreases_0 : decode cX4_takeCreases 0 = .ok (.aload_n 0, 1) := by decide +kernel
theorem dX4_takeCreases_1 : decode cX4_takeCreases 1 = .ok (.iconst 0, 1) := by decide +kernel
theorem dX4_takeCreases_2 : decode cX4_takeCreases 2 = .ok (.putfield 66, 3) := by decide +kernel
theorem dX4_takeCreases_5 : decode cX4_takeCreases 5 = .ok (.aload_n 0, 1) := by decide +kernel
theorem dX4_takeCreases_6 : decode cX4_takeCreases 6 = .ok (.iconst 0, 1) := by decide +kernel
theorem dX4_takeCreases_7 : decode cX4_takeCreases 7 = .ok (.putfield 69, 3) := by decide +kernel
theorem dX4_takeCreases_10 : decode cX4_takeCreases 10 = .ok (.iconst 0, 1) := by decide +kernel
theorem dX4_takeCreases_11 : decode cX4_takeCreases 11 = .ok (.istore_n 1, 1) := by decide +kernel
theorem dX4_takeCreases_12 : decode cX4_takeCreases 12 = .ok (.iload_n 1, 1) := by decide +kernel
theorem dX4_takeCreases_13 : decode cX4_takeCreases 13 = .ok (.bipush 8, 2) := by decide +kernel
theorem dX4_takeCreases_15 : decode cX4_takeCreases 15 = .ok (.if_icmp .ge 42, 3) := by decide +kernel
theorem dX4_takeCreases_18 : decode cX4_takeCreases 18 = .ok (.aload_n 0, 1) := by decide +kernel
theorem dX4_takeCreases_19 : decode cX4_takeCreases 19 = .ok (.invokevirtual 56, 3) := by decide +kernel
theorem dX4_takeCreases_22 : decode cX4_takeCreases 22 = .ok (.ifCond .eq 35, 3) := by decide +kernel
theorem dX4_takeCreases_25 : decode cX4_takeCreases 25 = .ok (.aload_n 0, 1) := by decide +kernel
theorem dX4_takeCreases_26 : decode cX4_takeCreases 26 = .ok (.aload_n 0, 1) := by decide +kernel
theorem dX4_takeCreases_27 : decode cX4_takeCreases 27 = .ok (.getfield 66, 3) := by decide +kernel
theorem dX4_takeCreases_30 : decode cX4_takeCreases 30 = .ok (.bipush 10, 2) := by decide +kernel
theorem dX4_takeCreases_32 : decode cX4_takeCreases 32 = .ok (.imul, 1) := by decide +kernel
theorem dX4_takeCreases_33 : decode cX4_takeCreases 33 = .ok (.aload_n 0, 1) := by decide +kernel
theorem dX4_takeCreases_34 : decode cX4_takeCreases 34 = .ok (.getfield 72, 3) := by decide +kernel
theorem dX4_takeCreases_37 : decode cX4_takeCreases 37 = .ok (.iadd, 1) := by decide +kernel
theorem dX4_takeCreases_38 : decode cX4_takeCreases 38 = .ok (.putfield 66, 3) := by decide +kernel
theorem dX4_takeCreases_41 : decode cX4_takeCreases 41 = .ok (.aload_n 0, 1) := by decide +kernel
theorem dX4_takeCreases_42 : decode cX4_takeCreases 42 = .ok (.dup, 1) := by decide +kernel
theorem dX4_takeCreases_43 : decode cX4_takeCreases 43 = .ok (.getfield 69, 3) := by decide +kernel
theorem dX4_takeCreases_46 : decode cX4_takeCreases 46 = .ok (.iconst 1, 1) := by decide +kernel
theorem dX4_takeCreases_47 : decode cX4_takeCreases 47 = .ok (.iadd, 1) := by decide +kernel
theorem dX4_takeCreases_48 : decode cX4_takeCreases 48 = .ok (.putfield 69, 3) := by decide +kernel
theorem dX4_takeCreases_51 : decode cX4_takeCreases 51 = .ok (.iinc 1 1, 3) := by decide +kernel
theorem dX4_takeCreases_54 : decode cX4_takeCreases 54 = .ok (.goto (-42), 3) := by decide +kernel
theorem dX4_takeCreases_57 : decode cX4_takeCreases 57 = .ok (.aload_n 0, 1) := by decide +kernel
theorem dX4_takeCreases_58 : decode cX4_takeCreases 58 = .ok (.getfield 69, 3) := by decide +kernel
theorem dX4_takeCreases_61 : decode cX4_takeCreases 61 = .ok (.ifCond .le 7, 3) := by decide +kernel
theorem dX4_takeCreases_64 : decode cX4_takeCreases 64 = .ok (.iconst 1, 1) := by decide +kernel
theorem dX4_takeCreases_65 : decode cX4_takeCreases 65 = .ok (.goto 4, 3) := by decide +kernel
theorem dX4_takeCreases_68 : decode cX4_takeCreases 68 = .ok (.iconst 0, 1) := by decide +kernel
theorem dX4_takeCreases_69 : decode cX4_takeCreases 69 = .ok (.ireturn, 1) := by decide +kernel
theorem dX4_takeDigit_0 : decode cX4_takeDigit 0 = .ok (.aload_n 0, 1) := by decide +kernel
theorem dX4_takeDigit_1 : decode cX4_takeDigit 1 = .ok (.invokevirtual 37, 3) := by decide +kernel
theorem dX4_takeDigit_4 : decode cX4_takeDigit 4 = .ok (.bipush 48, 2) := by decide +kernel
theorem dX4_takeDigit_6 : decode cX4_takeDigit 6 = .ok (.if_icmp .lt 12, 3) := by decide +kernel
theorem dX4_takeDigit_9 : decode cX4_takeDigit 9 = .ok (.aload_n 0, 1) := by decide +kernel
theorem dX4_takeDigit_10 : decode cX4_takeDigit 10 = .ok (.invokevirtual 37, 3) := by decide +kernel
theorem dX4_takeDigit_13 : decode cX4_takeDigit 13 = .ok (.bipush 57, 2) := by decide +kernel
theorem dX4_takeDigit_15 : decode cX4_takeDigit 15 = .ok (.if_icmp .le 5, 3) := by decide +kernel
theorem dX4_takeDigit_18 : decode cX4_takeDigit 18 = .ok (.iconst 0, 1) := by decide +kernel
theorem dX4_takeDigit_19 : decode cX4_takeDigit 19 = .ok (.ireturn, 1) := by decide +kernel
theorem dX4_takeDigit_20 : decode cX4_takeDigit 20 = .ok (.aload_n 0, 1) := by decide +kernel
theorem dX4_takeDigit_21 : decode cX4_takeDigit 21 = .ok (.dup, 1) := by decide +kernel
theorem dX4_takeDigit_22 : decode cX4_takeDigit 22 = .ok (.getfield 23, 3) := by decide +kernel
theorem dX4_takeDigit_25 : decode cX4_takeDigit 25 = .ok (.iconst 1, 1) := by decide +kernel
theorem dX4_takeDigit_26 : decode cX4_takeDigit 26 = .ok (.iadd, 1) := by decide +kernel
theorem dX4_takeDigit_27 : decode cX4_takeDigit 27 = .ok (.putfield 23, 3) := by decide +kernel
theorem dX4_takeDigit_30 : decode cX4_takeDigit 30 = .ok (.iconst 1, 1) := by decide +kernel
theorem dX4_takeDigit_31 : decode cX4_takeDigit 31 = .ok (.ireturn, 1) := by decide +kernel
theorem dX4_takeKind_0 : decode cX4_takeKind 0 = .ok (.aload_n 0, 1) := by decide +kernel
theorem dX4_takeKind_1 : decode cX4_takeKind 1 = .ok (.invokevirtual 37, 3) := by decide +kernel
theorem dX4_takeKind_4 : decode cX4_takeKind 4 = .ok (.istore_n 1, 1) := by decide +kernel
theorem dX4_takeKind_5 : decode cX4_takeKind 5 = .ok (.iload_n 1, 1) := by decide +kernel
theorem dX4_takeKind_6 : decode cX4_takeKind 6 = .ok (.bipush 111, 2) := by decide +kernel
theorem dX4_takeKind_8 : decode cX4_takeKind 8 = .ok (.if_icmp .eq 17, 3) := by decide +kernel
theorem dX4_takeKind_11 : decode cX4_takeKind 11 = .ok (.iload_n 1, 1) := by decide +kernel
theorem dX4_takeKind_12 : decode cX4_takeKind 12 = .ok (.bipush 109, 2) := by decide +kernel
theorem dX4_takeKind_14 : decode cX4_takeKind 14 = .ok (.if_icmp .eq 11, 3) := by decide +kernel
theorem dX4_takeKind_17 : decode cX4_takeKind 17 = .ok (.iload_n 1, 1) := by decide +kernel
theorem dX4_takeKind_18 : decode cX4_takeKind 18 = .ok (.bipush 118, 2) := by decide +kernel
theorem dX4_takeKind_20 : decode cX4_takeKind 20 = .ok (.if_icmp .eq 5, 3) := by decide +kernel
theorem dX4_takeKind_23 : decode cX4_takeKind 23 = .ok (.iconst 0, 1) := by decide +kernel
theorem dX4_takeKind_24 : decode cX4_takeKind 24 = .ok (.ireturn, 1) := by decide +kernel
theorem dX4_takeKind_25 : decode cX4_takeKind 25 = .ok (.aload_n 0, 1) := by decide +kernel
theorem dX4_takeKind_26 : decode cX4_takeKind 26 = .ok (.iload_n 1, 1) := by decide +kernel
theorem dX4_takeKind_27 : decode cX4_takeKind 27 = .ok (.bipush 111, 2) := by decide +kernel
theorem dX4_takeKind_29 : decode cX4_takeKind 29 = .ok (.if_icmp .ne 7, 3) := by decide +kernel
theorem dX4_takeKind_32 : decode cX4_takeKind 32 = .ok (.iconst 0, 1) := by decide +kernel
theorem dX4_takeKind_33 : decode cX4_takeKind 33 = .ok (.goto 14, 3) := by decide +kernel
theorem dX4_takeKind_36 : decode cX4_takeKind 36 = .ok (.iload_n 1, 1) := by decide +kernel
theorem dX4_takeKind_37 : decode cX4_takeKind 37 = .ok (.bipush 109, 2) := by decide +kernel
theorem dX4_takeKind_39 : decode cX4_takeKind 39 = .ok (.if_icmp .ne 7, 3) := by decide +kernel
theorem dX4_takeKind_42 : decode cX4_takeKind 42 = .ok (.iconst 1, 1) := by decide +kernel
theorem dX4_takeKind_43 : decode cX4_takeKind 43 = .ok (.goto 4, 3) := by decide +kernel
theorem dX4_takeKind_46 : decode cX4_takeKind 46 = .ok (.iconst 2, 1) := by decide +kernel
theorem dX4_takeKind_47 : decode cX4_takeKind 47 = .ok (.putfield 72, 3) := by decide +kernel
theorem dX4_takeKind_50 : decode cX4_takeKind 50 = .ok (.aload_n 0, 1) := by decide +kernel
theorem dX4_takeKind_51 : decode cX4_takeKind 51 = .ok (.dup, 1) := by decide +kernel
theorem dX4_takeKind_52 : decode cX4_takeKind 52 = .ok (.getfield 23, 3) := by decide +kernel
theorem dX4_takeKind_55 : decode cX4_takeKind 55 = .ok (.iconst 1, 1) := by decide +kernel
theorem dX4_takeKind_56 : decode cX4_takeKind 56 = .ok (.iadd, 1) := by decide +kernel
theorem dX4_takeKind_57 : decode cX4_takeKind 57 = .ok (.putfield 23, 3) := by decide +kernel
theorem dX4_takeKind_60 : decode cX4_takeKind 60 = .ok (.iconst 1, 1) := by decide +kernel
theorem dX4_takeKind_61 : decode cX4_takeKind 61 = .ok (.ireturn, 1) := by decide +kernel
theorem dX4_takePiece_0 : decode cX4_takePiece 0 = .ok (.aload_n 0, 1) := by decide +kernel
theorem dX4_takePiece_1 : decode cX4_takePiece 1 = .ok (.aload_n 0, 1) := by decide +kernel
theorem dX4_takePiece_2 : decode cX4_takePiece 2 = .ok (.invokevirtual 37, 3) := by decide +kernel
theorem dX4_takePiece_5 : decode cX4_takePiece 5 = .ok (.bipush 48, 2) := by decide +kernel
theorem dX4_takePiece_7 : decode cX4_takePiece 7 = .ok (.isub, 1) := by decide +kernel
theorem dX4_takePiece_8 : decode cX4_takePiece 8 = .ok (.putfield 63, 3) := by decide +kernel
theorem dX4_takePiece_11 : decode cX4_takePiece 11 = .ok (.aload_n 0, 1) := by decide +kernel
theorem dX4_takePiece_12 : decode cX4_takePiece 12 = .ok (.invokevirtual 75, 3) := by decide +kernel
theorem dX4_takePiece_15 : decode cX4_takePiece 15 = .ok (.ireturn, 1) := by decide +kernel
theorem dX4_takeSign_0 : decode cX4_takeSign 0 = .ok (.aload_n 0, 1) := by decide +kernel
theorem dX4_takeSign_1 : decode cX4_takeSign 1 = .ok (.invokevirtual 37, 3) := by decide +kernel
theorem dX4_takeSign_4 : decode cX4_takeSign 4 = .ok (.iload_n 1, 1) := by decide +kernel
theorem dX4_takeSign_5 : decode cX4_takeSign 5 = .ok (.if_icmp .eq 5, 3) := by decide +kernel
theorem dX4_takeSign_8 : decode cX4_takeSign 8 = .ok (.iconst 0, 1) := by decide +kernel
theorem dX4_takeSign_9 : decode cX4_takeSign 9 = .ok (.ireturn, 1) := by decide +kernel
theorem dX4_takeSign_10 : decode cX4_takeSign 10 = .ok (.aload_n 0, 1) := by decide +kernel
theorem dX4_takeSign_11 : decode cX4_takeSign 11 = .ok (.dup, 1) := by decide +kernel
theorem dX4_takeSign_12 : decode cX4_takeSign 12 = .ok (.getfield 23, 3) := by decide +kernel
theorem dX4_takeSign_15 : decode cX4_takeSign 15 = .ok (.iconst 1, 1) := by decide +kernel
theorem dX4_takeSign_16 : decode cX4_takeSign 16 = .ok (.iadd, 1) := by decide +kernel
theorem dX4_takeSign_17 : decode cX4_takeSign 17 = .ok (.putfield 23, 3) := by decide +kernel
theorem dX4_takeSign_20 : decode cX4_takeSign 20 = .ok (.iconst 1, 1) := by decide +kernel
theorem dX4_takeSign_21 : decode cX4_takeSign 21 = .ok (.ireturn, 1) := by decide +kernel
theorem dX4_takeSizes_0 : decode cX4_takeSizes 0 = .ok (.aload_n 0, 1) := by decide +kernel
theorem dX4_takeSizes_1 : decode cX4_takeSizes 1 = .ok (.iconst 0, 1) := by decide +kernel
theorem dX4_takeSizes_2 : decode cX4_takeSizes 2 = .ok (.putfield 63, 3) := by decide +kernel
theorem dX4_takeSizes_5 : decode cX4_takeSizes 5 = .ok (.iconst 0, 1) := by decide +kernel
theorem dX4_takeSizes_6 : decode cX4_takeSizes 6 = .ok (.istore_n 1, 1) := by decide +kernel
theorem dX4_takeSizes_7 : decode cX4_takeSizes 7 = .ok (.iload_n 1, 1) := by decide +kernel
theorem dX4_takeSizes_8 : decode cX4_takeSizes 8 = .ok (.bipush 8, 2) := by decide +kernel
theorem dX4_takeSizes_10 : decode cX4_takeSizes 10 = .ok (.if_icmp .ge 56, 3) := by decide +kernel
theorem dX4_takeSizes_13 : decode cX4_takeSizes 13 = .ok (.aload_n 0, 1) := by decide +kernel
theorem dX4_takeSizes_14 : decode cX4_takeSizes 14 = .ok (.invokevirtual 37, 3) := by decide +kernel
theorem dX4_takeSizes_17 : decode cX4_takeSizes 17 = .ok (.bipush 49, 2) := by decide +kernel
theorem dX4_takeSizes_19 : decode cX4_takeSizes 19 = .ok (.if_icmp .lt 47, 3) := by decide +kernel
theorem dX4_takeSizes_22 : decode cX4_takeSizes 22 = .ok (.aload_n 0, 1) := by decide +kernel
theorem dX4_takeSizes_23 : decode cX4_takeSizes 23 = .ok (.invokevirtual 37, 3) := by decide +kernel
theorem dX4_takeSizes_26 : decode cX4_takeSizes 26 = .ok (.bipush 57, 2) := by decide +kernel
theorem dX4_takeSizes_28 : decode cX4_takeSizes 28 = .ok (.if_icmp .gt 38, 3) := by decide +kernel
theorem dX4_takeSizes_31 : decode cX4_takeSizes 31 = .ok (.aload_n 0, 1) := by decide +kernel
theorem dX4_takeSizes_32 : decode cX4_takeSizes 32 = .ok (.aload_n 0, 1) := by decide +kernel
theorem dX4_takeSizes_33 : decode cX4_takeSizes 33 = .ok (.getfield 63, 3) := by decide +kernel
theorem dX4_takeSizes_36 : decode cX4_takeSizes 36 = .ok (.bipush 10, 2) := by decide +kernel
theorem dX4_takeSizes_38 : decode cX4_takeSizes 38 = .ok (.imul, 1) := by decide +kernel
theorem dX4_takeSizes_39 : decode cX4_takeSizes 39 = .ok (.aload_n 0, 1) := by decide +kernel
theorem dX4_takeSizes_40 : decode cX4_takeSizes 40 = .ok (.invokevirtual 37, 3) := by decide +kernel
theorem dX4_takeSizes_43 : decode cX4_takeSizes 43 = .ok (.iadd, 1) := by decide +kernel
theorem dX4_takeSizes_44 : decode cX4_takeSizes 44 = .ok (.bipush 48, 2) := by decide +kernel
theorem dX4_takeSizes_46 : decode cX4_takeSizes 46 = .ok (.isub, 1) := by decide +kernel
theorem dX4_takeSizes_47 : decode cX4_takeSizes 47 = .ok (.putfield 63, 3) := by decide +kernel
theorem dX4_takeSizes_50 : decode cX4_takeSizes 50 = .ok (.aload_n 0, 1) := by decide +kernel
theorem dX4_takeSizes_51 : decode cX4_takeSizes 51 = .ok (.dup, 1) := by decide +kernel
theorem dX4_takeSizes_52 : decode cX4_takeSizes 52 = .ok (.getfield 23, 3) := by decide +kernel
theorem dX4_takeSizes_55 : decode cX4_takeSizes 55 = .ok (.iconst 1, 1) := by decide +kernel
theorem dX4_takeSizes_56 : decode cX4_takeSizes 56 = .ok (.iadd, 1) := by decide +kernel
theorem dX4_takeSizes_57 : decode cX4_takeSizes 57 = .ok (.putfield 23, 3) := by decide +kernel
theorem dX4_takeSizes_60 : decode cX4_takeSizes 60 = .ok (.iinc 1 1, 3) := by decide +kernel
theorem dX4_takeSizes_63 : decode cX4_takeSizes 63 = .ok (.goto (-56), 3) := by decide +kernel
theorem dX4_takeSizes_66 : decode cX4_takeSizes 66 = .ok (.aload_n 0, 1) := by decide +kernel
theorem dX4_takeSizes_67 : decode cX4_takeSizes 67 = .ok (.getfield 63, 3) := by decide +kernel
theorem dX4_takeSizes_70 : decode cX4_takeSizes 70 = .ok (.ifCond .le 7, 3) := by decide +kernel
theorem dX4_takeSizes_73 : decode cX4_takeSizes 73 = .ok (.iconst 1, 1) := by decide +kernel
theorem dX4_takeSizes_74 : decode cX4_takeSizes 74 = .ok (.goto 4, 3) := by decide +kernel
theorem dX4_takeSizes_77 : decode cX4_takeSizes 77 = .ok (.iconst 0, 1) := by decide +kernel
theorem dX4_takeSizes_78 : decode cX4_takeSizes 78 = .ok (.ireturn, 1) := by decide +kernel
theorem dX4_write_0 : decode cX4_write 0 = .ok (.aload_n 0, 1) := by decide +kernel
theorem dX4_write_1 : decode cX4_write 1 = .ok (.getfield 9, 3) := by decide +kernel
theorem dX4_write_4 : decode cX4_write 4 = .ok (.aload_n 0, 1) := by decide +kernel
theorem dX4_write_5 : decode cX4_write 5 = .ok (.getfield 15, 3) := by decide +kernel
theorem dX4_write_8 : decode cX4_write 8 = .ok (.iload_n 1, 1) := by decide +kernel
theorem dX4_write_9 : decode cX4_write 9 = .ok (.invokestatic 19, 3) := by decide +kernel
theorem dX4_write_12 : decode cX4_write 12 = .ok (.aload_n 0, 1) := by decide +kernel
theorem dX4_write_13 : decode cX4_write 13 = .ok (.dup, 1) := by decide +kernel
theorem dX4_write_14 : decode cX4_write 14 = .ok (.getfield 15, 3) := by decide +kernel
theorem dX4_write_17 : decode cX4_write 17 = .ok (.iconst 1, 1) := by decide +kernel
theorem dX4_write_18 : decode cX4_write 18 = .ok (.iadd, 1) := by decide +kernel
theorem dX4_write_19 : decode cX4_write 19 = .ok (.putfield 15, 3) := by decide +kernel
theorem dX4_write_22 : decode cX4_write 22 = .ok (.return_, 1) := by decide +kernel
theorem dX5_addCopyOf_0 : decode cX5_addCopyOf 0 = .ok (.aload_n 0, 1) := by decide +kernel
theorem dX5_addCopyOf_1 : decode cX5_addCopyOf 1 = .ok (.getfield 22, 3) := by decide +kernel
theorem dX5_addCopyOf_4 : decode cX5_addCopyOf 4 = .ok (.aload_n 0, 1) := by decide +kernel
theorem dX5_addCopyOf_5 : decode cX5_addCopyOf 5 = .ok (.getfield 11, 3) := by decide +kernel
theorem dX5_addCopyOf_8 : decode cX5_addCopyOf 8 = .ok (.arraylength, 1) := by decide +kernel
theorem dX5_addCopyOf_9 : decode cX5_addCopyOf 9 = .ok (.if_icmp .lt 4, 3) := by decide +kernel
theorem dX5_addCopyOf_12 : decode cX5_addCopyOf 12 = .ok (.return_, 1) := by decide +kernel
theorem dX5_addCopyOf_13 : decode cX5_addCopyOf 13 = .ok (.aload_n 0, 1) := by decide +kernel
theorem dX5_addCopyOf_14 : decode cX5_addCopyOf 14 = .ok (.dup, 1) := by decide +kernel
theorem dX5_addCopyOf_15 : decode cX5_addCopyOf 15 = .ok (.getfield 22, 3) := by decide +kernel
theorem dX5_addCopyOf_18 : decode cX5_addCopyOf 18 = .ok (.iconst 1, 1) := by decide +kernel
theorem dX5_addCopyOf_19 : decode cX5_addCopyOf 19 = .ok (.iadd, 1) := by decide +kernel
theorem dX5_addCopyOf_20 : decode cX5_addCopyOf 20 = .ok (.putfield 22, 3) := by decide +kernel
theorem dX5_addCopyOf_23 : decode cX5_addCopyOf 23 = .ok (.aload_n 0, 1) := by decide +kernel
theorem dX5_addCopyOf_24 : decode cX5_addCopyOf 24 = .ok (.aload_n 0, 1) := by decide +kernel
theorem dX5_addCopyOf_25 : decode cX5_addCopyOf 25 = .ok (.getfield 22, 3) := by decide +kernel
theorem dX5_addCopyOf_28 : decode cX5_addCopyOf 28 = .ok (.iconst 1, 1) := by decide +kernel
theorem dX5_addCopyOf_29 : decode cX5_addCopyOf 29 = .ok (.isub, 1) := by decide +kernel
theorem dX5_addCopyOf_30 : decode cX5_addCopyOf 30 = .ok (.invokevirtual 28, 3) := by decide +kernel
theorem dX5_addCopyOf_33 : decode cX5_addCopyOf 33 = .ok (.astore_n 2, 1) := by decide +kernel
theorem dX5_addCopyOf_34 : decode cX5_addCopyOf 34 = .ok (.aload_n 2, 1) := by decide +kernel
theorem dX5_addCopyOf_35 : decode cX5_addCopyOf 35 = .ok (.ifnull 8, 3) := by decide +kernel
theorem dX5_addCopyOf_38 : decode cX5_addCopyOf 38 = .ok (.aload_n 2, 1) := by decide +kernel
theorem dX5_addCopyOf_39 : decode cX5_addCopyOf 39 = .ok (.aload_n 1, 1) := by decide +kernel
theorem dX5_addCopyOf_40 : decode cX5_addCopyOf 40 = .ok (.invokevirtual 32, 3) := by decide +kernel
theorem dX5_addCopyOf_43 : decode cX5_addCopyOf 43 = .ok (.return_, 1) := by decide +kernel
theorem dX5_copyFrom_0 : decode cX5_copyFrom 0 = .ok (.aload_n 0, 1) := by decide +kernel
theorem dX5_copyFrom_1 : decode cX5_copyFrom 1 = .ok (.aload_n 1, 1) := by decide +kernel
theorem dX5_copyFrom_2 : decode cX5_copyFrom 2 = .ok (.getfield 22, 3) := by decide +kernel
theorem dX5_copyFrom_5 : decode cX5_copyFrom 5 = .ok (.putfield 22, 3) := by decide +kernel
theorem dX5_copyFrom_8 : decode cX5_copyFrom 8 = .ok (.aload_n 0, 1) := by decide +kernel
theorem dX5_copyFrom_9 : decode cX5_copyFrom 9 = .ok (.aload_n 1, 1) := by decide +kernel
theorem dX5_copyFrom_10 : decode cX5_copyFrom 10 = .ok (.getfield 17, 3) := by decide +kernel
theorem dX5_copyFrom_13 : decode cX5_copyFrom 13 = .ok (.putfield 17, 3) := by decide +kernel
theorem dX5_copyFrom_16 : decode cX5_copyFrom 16 = .ok (.aload_n 0, 1) := by decide +kernel
theorem dX5_copyFrom_17 : decode cX5_copyFrom 17 = .ok (.aload_n 1, 1) := by decide +kernel
theorem dX5_copyFrom_18 : decode cX5_copyFrom 18 = .ok (.getfield 25, 3) := by decide +kernel
theorem dX5_copyFrom_21 : decode cX5_copyFrom 21 = .ok (.putfield 25, 3) := by decide +kernel
theorem dX5_copyFrom_24 : decode cX5_copyFrom 24 = .ok (.iconst 0, 1) := by decide +kernel
theorem dX5_copyFrom_25 : decode cX5_copyFrom 25 = .ok (.istore_n 2, 1) := by decide +kernel
theorem dX5_copyFrom_26 : decode cX5_copyFrom 26 = .ok (.iload_n 2, 1) := by decide +kernel
theorem dX5_copyFrom_27 : decode cX5_copyFrom 27 = .ok (.aload_n 0, 1) := by decide +kernel
theorem dX5_copyFrom_28 : decode cX5_copyFrom 28 = .ok (.getfield 22, 3) := by decide +kernel
theorem dX5_copyFrom_31 : decode cX5_copyFrom 31 = .ok (.if_icmp .ge 37, 3) := by decide +kernel
theorem dX5_copyFrom_34 : decode cX5_copyFrom 34 = .ok (.aload_n 0, 1) := by decide +kernel
theorem dX5_copyFrom_35 : decode cX5_copyFrom 35 = .ok (.iload_n 2, 1) := by decide +kernel
theorem dX5_copyFrom_36 : decode cX5_copyFrom 36 = .ok (.invokevirtual 28, 3) := by decide +kernel
theorem dX5_copyFrom_39 : decode cX5_copyFrom 39 = .ok (.astore_n 3, 1) := by decide +kernel
theorem dX5_copyFrom_40 : decode cX5_copyFrom 40 = .ok (.aload_n 1, 1) := by decide +kernel
theorem dX5_copyFrom_41 : decode cX5_copyFrom 41 = .ok (.iload_n 2, 1) := by decide +kernel
theorem dX5_copyFrom_42 : decode cX5_copyFrom 42 = .ok (.invokevirtual 28, 3) := by decide +kernel
theorem dX5_copyFrom_45 : decode cX5_copyFrom 45 = .ok (.astore 4, 2) := by decide +kernel
theorem dX5_copyFrom_47 : decode cX5_copyFrom 47 = .ok (.aload_n 3, 1) := by decide +kernel
theorem dX5_copyFrom_48 : decode cX5_copyFrom 48 = .ok (.ifnull 14, 3) := by decide +kernel
theorem dX5_copyFrom_51 : decode cX5_copyFrom 51 = .ok (.aload 4, 2) := by decide +kernel
theorem dX5_copyFrom_53 : decode cX5_copyFrom 53 = .ok (.ifnull 9, 3) := by decide +kernel
theorem dX5_copyFrom_56 : decode cX5_copyFrom 56 = .ok (.aload_n 3, 1) := by decide +kernel
theorem dX5_copyFrom_57 : decode cX5_copyFrom 57 = .ok (.aload 4, 2) := by decide +kernel
theorem dX5_copyFrom_59 : decode cX5_copyFrom 59 = .ok (.invokevirtual 32, 3) := by decide +kernel
theorem dX5_copyFrom_62 : decode cX5_copyFrom 62 = .ok (.iinc 2 1, 3) := by decide +kernel
theorem dX5_copyFrom_65 : decode cX5_copyFrom 65 = .ok (.goto (-39), 3) := by decide +kernel
theorem dX5_copyFrom_68 : decode cX5_copyFrom 68 = .ok (.return_, 1) := by decide +kernel
theorem dX5_countOfKind_0 : decode cX5_countOfKind 0 = .ok (.iconst 0, 1) := by decide +kernel
theorem dX5_countOfKind_1 : decode cX5_countOfKind 1 = .ok (.istore_n 2, 1) := by decide +kernel
theorem dX5_countOfKind_2 : decode cX5_countOfKind 2 = .ok (.iconst 0, 1) := by decide +kernel
theorem dX5_countOfKind_3 : decode cX5_countOfKind 3 = .ok (.istore_n 3, 1) := by decide +kernel
theorem dX5_countOfKind_4 : decode cX5_countOfKind 4 = .ok (.iload_n 3, 1) := by decide +kernel
theorem dX5_countOfKind_5 : decode cX5_countOfKind 5 = .ok (.aload_n 0, 1) := by decide +kernel
theorem dX5_countOfKind_6 : decode cX5_countOfKind 6 = .ok (.getfield 22, 3) := by decide +kernel
theorem dX5_countOfKind_9 : decode cX5_countOfKind 9 = .ok (.if_icmp .ge 33, 3) := by decide +kernel
theorem dX5_countOfKind_12 : decode cX5_countOfKind 12 = .ok (.aload_n 0, 1) := by decide +kernel
theorem dX5_countOfKind_13 : decode cX5_countOfKind 13 = .ok (.iload_n 3, 1) := by decide +kernel
theorem dX5_countOfKind_14 : decode cX5_countOfKind 14 = .ok (.invokevirtual 28, 3) := by decide +kernel
theorem dX5_countOfKind_17 : decode cX5_countOfKind 17 = .ok (.astore 4, 2) := by decide +kernel
theorem dX5_countOfKind_19 : decode cX5_countOfKind 19 = .ok (.aload 4, 2) := by decide +kernel
theorem dX5_countOfKind_21 : decode cX5_countOfKind 21 = .ok (.ifnull 15, 3) := by decide +kernel
theorem dX5_countOfKind_24 : decode cX5_countOfKind 24 = .ok (.aload 4, 2) := by decide +kernel
theorem dX5_countOfKind_26 : decode cX5_countOfKind 26 = .ok (.getfield 43, 3) := by decide +kernel
theorem dX5_countOfKind_29 : decode cX5_countOfKind 29 = .ok (.iload_n 1, 1) := by decide +kernel
theorem dX5_countOfKind_30 : decode cX5_countOfKind 30 = .ok (.if_icmp .ne 6, 3) := by decide +kernel
theorem dX5_countOfKind_33 : decode cX5_countOfKind 33 = .ok (.iinc 2 1, 3) := by decide +kernel
theorem dX5_countOfKind_36 : decode cX5_countOfKind 36 = .ok (.iinc 3 1, 3) := by decide +kernel
theorem dX5_countOfKind_39 : decode cX5_countOfKind 39 = .ok (.goto (-35), 3) := by decide +kernel
theorem dX5_countOfKind_42 : decode cX5_countOfKind 42 = .ok (.iload_n 2, 1) := by decide +kernel
theorem dX5_countOfKind_43 : decode cX5_countOfKind 43 = .ok (.ireturn, 1) := by decide +kernel
theorem dX5_creasesOf_0 : decode cX5_creasesOf 0 = .ok (.iconst 0, 1) := by decide +kernel
theorem dX5_creasesOf_1 : decode cX5_creasesOf 1 = .ok (.istore_n 2, 1) := by decide +kernel
theorem dX5_creasesOf_2 : decode cX5_creasesOf 2 = .ok (.iconst 0, 1) := by decide +kernel
theorem dX5_creasesOf_3 : decode cX5_creasesOf 3 = .ok (.istore_n 3, 1) := by decide +kernel
theorem dX5_creasesOf_4 : decode cX5_creasesOf 4 = .ok (.iload_n 3, 1) := by decide +kernel
theorem dX5_creasesOf_5 : decode cX5_creasesOf 5 = .ok (.aload_n 0, 1) := by decide +kernel
theorem dX5_creasesOf_6 : decode cX5_creasesOf 6 = .ok (.getfield 22, 3) := by decide +kernel
theorem dX5_creasesOf_9 : decode cX5_creasesOf 9 = .ok (.if_icmp .ge 30, 3) := by decide +kernel
theorem dX5_creasesOf_12 : decode cX5_creasesOf 12 = .ok (.aload_n 0, 1) := by decide +kernel
theorem dX5_creasesOf_13 : decode cX5_creasesOf 13 = .ok (.iload_n 3, 1) := by decide +kernel
theorem dX5_creasesOf_14 : decode cX5_creasesOf 14 = .ok (.invokevirtual 28, 3) := by decide +kernel
theorem dX5_creasesOf_17 : decode cX5_creasesOf 17 = .ok (.astore 4, 2) := by decide +kernel
theorem dX5_creasesOf_19 : decode cX5_creasesOf 19 = .ok (.aload 4, 2) := by decide +kernel
theorem dX5_creasesOf_21 : decode cX5_creasesOf 21 = .ok (.ifnull 12, 3) := by decide +kernel
theorem dX5_creasesOf_24 : decode cX5_creasesOf 24 = .ok (.iload_n 2, 1) := by decide +kernel
theorem dX5_creasesOf_25 : decode cX5_creasesOf 25 = .ok (.aload 4, 2) := by decide +kernel
theorem dX5_creasesOf_27 : decode cX5_creasesOf 27 = .ok (.iload_n 1, 1) := by decide +kernel
theorem dX5_creasesOf_28 : decode cX5_creasesOf 28 = .ok (.invokevirtual 47, 3) := by decide +kernel
theorem dX5_creasesOf_31 : decode cX5_creasesOf 31 = .ok (.iadd, 1) := by decide +kernel
theorem dX5_creasesOf_32 : decode cX5_creasesOf 32 = .ok (.istore_n 2, 1) := by decide +kernel
theorem dX5_creasesOf_33 : decode cX5_creasesOf 33 = .ok (.iinc 3 1, 3) := by decide +kernel
theorem dX5_creasesOf_36 : decode cX5_creasesOf 36 = .ok (.goto (-32), 3) := by decide +kernel
theorem dX5_creasesOf_39 : decode cX5_creasesOf 39 = .ok (.iload_n 2, 1) := by decide +kernel
theorem dX5_creasesOf_40 : decode cX5_creasesOf 40 = .ok (.ireturn, 1) := by decide +kernel
theorem dX5_foldedCount_0 : decode cX5_foldedCount 0 = .ok (.iconst 0, 1) := by decide +kernel
theorem dX5_foldedCount_1 : decode cX5_foldedCount 1 = .ok (.istore_n 1, 1) := by decide +kernel
theorem dX5_foldedCount_2 : decode cX5_foldedCount 2 = .ok (.iconst 0, 1) := by decide +kernel
theorem dX5_foldedCount_3 : decode cX5_foldedCount 3 = .ok (.istore_n 2, 1) := by decide +kernel
theorem dX5_foldedCount_4 : decode cX5_foldedCount 4 = .ok (.iload_n 2, 1) := by decide +kernel
theorem dX5_foldedCount_5 : decode cX5_foldedCount 5 = .ok (.aload_n 0, 1) := by decide +kernel
theorem dX5_foldedCount_6 : decode cX5_foldedCount 6 = .ok (.getfield 22, 3) := by decide +kernel
theorem dX5_foldedCount_9 : decode cX5_foldedCount 9 = .ok (.if_icmp .ge 29, 3) := by decide +kernel
theorem dX5_foldedCount_12 : decode cX5_foldedCount 12 = .ok (.aload_n 0, 1) := by decide +kernel
theorem dX5_foldedCount_13 : decode cX5_foldedCount 13 = .ok (.iload_n 2, 1) := by decide +kernel
theorem dX5_foldedCount_14 : decode cX5_foldedCount 14 = .ok (.invokevirtual 28, 3) := by decide +kernel
theorem dX5_foldedCount_17 : decode cX5_foldedCount 17 = .ok (.astore_n 3, 1) := by decide +kernel
theorem dX5_foldedCount_18 : decode cX5_foldedCount 18 = .ok (.aload_n 3, 1) := by decide +kernel
theorem dX5_foldedCount_19 : decode cX5_foldedCount 19 = .ok (.ifnull 13, 3) := by decide +kernel
theorem dX5_foldedCount_22 : decode cX5_foldedCount 22 = .ok (.aload_n 3, 1) := by decide +kernel
theorem dX5_foldedCount_23 : decode cX5_foldedCount 23 = .ok (.getfield 36, 3) := by decide +kernel
theorem dX5_foldedCount_26 : decode cX5_foldedCount 26 = .ok (.ifCond .eq 6, 3) := by decide +kernel
theorem dX5_foldedCount_29 : decode cX5_foldedCount 29 = .ok (.iinc 1 1, 3) := by decide +kernel
theorem dX5_foldedCount_32 : decode cX5_foldedCount 32 = .ok (.iinc 2 1, 3) := by decide +kernel
theorem dX5_foldedCount_35 : decode cX5_foldedCount 35 = .ok (.goto (-31), 3) := by decide +kernel
theorem dX5_foldedCount_38 : decode cX5_foldedCount 38 = .ok (.iload_n 1, 1) := by decide +kernel
theorem dX5_foldedCount_39 : decode cX5_foldedCount 39 = .ok (.ireturn, 1) := by decide +kernel
theorem dX5_occupied_0 : decode cX5_occupied 0 = .ok (.iconst 0, 1) := by decide +kernel
theorem dX5_occupied_1 : decode cX5_occupied 1 = .ok (.istore_n 1, 1) := by decide +kernel
theorem dX5_occupied_2 : decode cX5_occupied 2 = .ok (.iconst 0, 1) := by decide +kernel
theorem dX5_occupied_3 : decode cX5_occupied 3 = .ok (.istore_n 2, 1) := by decide +kernel
theorem dX5_occupied_4 : decode cX5_occupied 4 = .ok (.iload_n 2, 1) := by decide +kernel
theorem dX5_occupied_5 : decode cX5_occupied 5 = .ok (.aload_n 0, 1) := by decide +kernel
theorem dX5_occupied_6 : decode cX5_occupied 6 = .ok (.getfield 22, 3) := by decide +kernel
theorem dX5_occupied_9 : decode cX5_occupied 9 = .ok (.if_icmp .ge 33, 3) := by decide +kernel
theorem dX5_occupied_12 : decode cX5_occupied 12 = .ok (.aload_n 0, 1) := by decide +kernel
theorem dX5_occupied_13 : decode cX5_occupied 13 = .ok (.iload_n 2, 1) := by decide +kernel
theorem dX5_occupied_14 : decode cX5_occupied 14 = .ok (.invokevirtual 28, 3) := by decide +kernel
theorem dX5_occupied_17 : decode cX5_occupied 17 = .ok (.astore_n 3, 1) := by decide +kernel
theorem dX5_occupied_18 : decode cX5_occupied 18 = .ok (.aload_n 3, 1) := by decide +kernel
theorem dX5_occupied_19 : decode cX5_occupied 19 = .ok (.ifnull 17, 3) := by decide +kernel
theorem dX5_occupied_22 : decode cX5_occupied 22 = .ok (.aload_n 3, 1) := by decide +kernel
theorem dX5_occupied_23 : decode cX5_occupied 23 = .ok (.getfield 36, 3) := by decide +kernel
theorem dX5_occupied_26 : decode cX5_occupied 26 = .ok (.ifCond .eq 10, 3) := by decide +kernel
theorem dX5_occupied_29 : decode cX5_occupied 29 = .ok (.iload_n 1, 1) := by decide +kernel
theorem dX5_occupied_30 : decode cX5_occupied 30 = .ok (.aload_n 3, 1) := by decide +kernel
theorem dX5_occupied_31 : decode cX5_occupied 31 = .ok (.invokevirtual 40, 3) := by decide +kernel
theorem dX5_occupied_34 : decode cX5_occupied 34 = .ok (.iadd, 1) := by decide +kernel
theorem dX5_occupied_35 : decode cX5_occupied 35 = .ok (.istore_n 1, 1) := by decide +kernel
theorem dX5_occupied_36 : decode cX5_occupied 36 = .ok (.iinc 2 1, 3) := by decide +kernel
theorem dX5_occupied_39 : decode cX5_occupied 39 = .ok (.goto (-35), 3) := by decide +kernel
theorem dX5_occupied_42 : decode cX5_occupied 42 = .ok (.iload_n 1, 1) := by decide +kernel
theorem dX5_occupied_43 : decode cX5_occupied 43 = .ok (.ireturn, 1) := by decide +kernel
theorem dX5_panelCount_0 : decode cX5_panelCount 0 = .ok (.iconst 0, 1) := by decide +kernel
theorem dX5_panelCount_1 : decode cX5_panelCount 1 = .ok (.istore_n 1, 1) := by decide +kernel
theorem dX5_panelCount_2 : decode cX5_panelCount 2 = .ok (.iconst 0, 1) := by decide +kernel
theorem dX5_panelCount_3 : decode cX5_panelCount 3 = .ok (.istore_n 2, 1) := by decide +kernel
theorem dX5_panelCount_4 : decode cX5_panelCount 4 = .ok (.iload_n 2, 1) := by decide +kernel
theorem dX5_panelCount_5 : decode cX5_panelCount 5 = .ok (.aload_n 0, 1) := by decide +kernel
theorem dX5_panelCount_6 : decode cX5_panelCount 6 = .ok (.getfield 22, 3) := by decide +kernel
theorem dX5_panelCount_9 : decode cX5_panelCount 9 = .ok (.if_icmp .ge 33, 3) := by decide +kernel
theorem dX5_panelCount_12 : decode cX5_panelCount 12 = .ok (.aload_n 0, 1) := by decide +kernel
theorem dX5_panelCount_13 : decode cX5_panelCount 13 = .ok (.iload_n 2, 1) := by decide +kernel
theorem dX5_panelCount_14 : decode cX5_panelCount 14 = .ok (.invokevirtual 28, 3) := by decide +kernel
theorem dX5_panelCount_17 : decode cX5_panelCount 17 = .ok (.astore_n 3, 1) := by decide +kernel
theorem dX5_panelCount_18 : decode cX5_panelCount 18 = .ok (.aload_n 3, 1) := by decide +kernel
theorem dX5_panelCount_19 : decode cX5_panelCount 19 = .ok (.ifnull 17, 3) := by decide +kernel
theorem dX5_panelCount_22 : decode cX5_panelCount 22 = .ok (.aload_n 3, 1) := by decide +kernel
theorem dX5_panelCount_23 : decode cX5_panelCount 23 = .ok (.getfield 43, 3) := by decide +kernel
theorem dX5_panelCount_26 : decode cX5_panelCount 26 = .ok (.ifCond .ne 10, 3) := by decide +kernel
theorem dX5_panelCount_29 : decode cX5_panelCount 29 = .ok (.iload_n 1, 1) := by decide +kernel
theorem dX5_panelCount_30 : decode cX5_panelCount 30 = .ok (.aload_n 3, 1) := by decide +kernel
theorem dX5_panelCount_31 : decode cX5_panelCount 31 = .ok (.getfield 46, 3) := by decide +kernel
theorem dX5_panelCount_34 : decode cX5_panelCount 34 = .ok (.iadd, 1) := by decide +kernel
theorem dX5_panelCount_35 : decode cX5_panelCount 35 = .ok (.istore_n 1, 1) := by decide +kernel
theorem dX5_panelCount_36 : decode cX5_panelCount 36 = .ok (.iinc 2 1, 3) := by decide +kernel
theorem dX5_panelCount_39 : decode cX5_panelCount 39 = .ok (.goto (-35), 3) := by decide +kernel
theorem dX5_panelCount_42 : decode cX5_panelCount 42 = .ok (.iload_n 1, 1) := by decide +kernel
theorem dX5_panelCount_43 : decode cX5_panelCount 43 = .ok (.ireturn, 1) := by decide +kernel
theorem dX5_pieceAt_0 : decode cX5_pieceAt 0 = .ok (.iload_n 1, 1) := by decide +kernel
theorem dX5_pieceAt_1 : decode cX5_pieceAt 1 = .ok (.ifCond .lt 29, 3) := by decide +kernel
theorem dX5_pieceAt_4 : decode cX5_pieceAt 4 = .ok (.iload_n 1, 1) := by decide +kernel
theorem dX5_pieceAt_5 : decode cX5_pieceAt 5 = .ok (.aload_n 0, 1) := by decide +kernel
theorem dX5_pieceAt_6 : decode cX5_pieceAt 6 = .ok (.getfield 22, 3) := by decide +kernel
theorem dX5_pieceAt_9 : decode cX5_pieceAt 9 = .ok (.if_icmp .ge 21, 3) := by decide +kernel
theorem dX5_pieceAt_12 : decode cX5_pieceAt 12 = .ok (.iload_n 1, 1) := by decide +kernel
theorem dX5_pieceAt_13 : decode cX5_pieceAt 13 = .ok (.aload_n 0, 1) := by decide +kernel
theorem dX5_pieceAt_14 : decode cX5_pieceAt 14 = .ok (.getfield 11, 3) := by decide +kernel
theorem dX5_pieceAt_17 : decode cX5_pieceAt 17 = .ok (.arraylength, 1) := by decide +kernel
theorem dX5_pieceAt_18 : decode cX5_pieceAt 18 = .ok (.if_icmp .ge 12, 3) := by decide +kernel
theorem dX5_pieceAt_21 : decode cX5_pieceAt 21 = .ok (.aload_n 0, 1) := by decide +kernel
theorem dX5_pieceAt_22 : decode cX5_pieceAt 22 = .ok (.getfield 11, 3) := by decide +kernel
theorem dX5_pieceAt_25 : decode cX5_pieceAt 25 = .ok (.iload_n 1, 1) := by decide +kernel
theorem dX5_pieceAt_26 : decode cX5_pieceAt 26 = .ok (.aaload, 1) := by decide +kernel
theorem dX5_pieceAt_27 : decode cX5_pieceAt 27 = .ok (.goto 4, 3) := by decide +kernel
theorem dX5_pieceAt_30 : decode cX5_pieceAt 30 = .ok (.aconst_null, 1) := by decide +kernel
theorem dX5_pieceAt_31 : decode cX5_pieceAt 31 = .ok (.areturn, 1) := by decide +kernel
theorem dX5_removeAt_0 : decode cX5_removeAt 0 = .ok (.aload_n 0, 1) := by decide +kernel
theorem dX5_removeAt_1 : decode cX5_removeAt 1 = .ok (.iload_n 1, 1) := by decide +kernel
theorem dX5_removeAt_2 : decode cX5_removeAt 2 = .ok (.invokevirtual 28, 3) := by decide +kernel
theorem dX5_removeAt_5 : decode cX5_removeAt 5 = .ok (.astore_n 2, 1) := by decide +kernel
theorem dX5_removeAt_6 : decode cX5_removeAt 6 = .ok (.aload_n 2, 1) := by decide +kernel
theorem dX5_removeAt_7 : decode cX5_removeAt 7 = .ok (.ifnonnull 4, 3) := by decide +kernel
theorem dX5_removeAt_10 : decode cX5_removeAt 10 = .ok (.return_, 1) := by decide +kernel
theorem dX5_removeAt_11 : decode cX5_removeAt 11 = .ok (.iload_n 1, 1) := by decide +kernel
theorem dX5_removeAt_12 : decode cX5_removeAt 12 = .ok (.istore_n 3, 1) := by decide +kernel
theorem dX5_removeAt_13 : decode cX5_removeAt 13 = .ok (.iload_n 1, 1) := by decide +kernel
theorem dX5_removeAt_14 : decode cX5_removeAt 14 = .ok (.iconst 1, 1) := by decide +kernel
theorem dX5_removeAt_15 : decode cX5_removeAt 15 = .ok (.iadd, 1) := by decide +kernel
theorem dX5_removeAt_16 : decode cX5_removeAt 16 = .ok (.istore 4, 2) := by decide +kernel
theorem dX5_removeAt_18 : decode cX5_removeAt 18 = .ok (.iload 4, 2) := by decide +kernel
theorem dX5_removeAt_20 : decode cX5_removeAt 20 = .ok (.ifCond .le 47, 3) := by decide +kernel
theorem dX5_removeAt_23 : decode cX5_removeAt 23 = .ok (.iload 4, 2) := by decide +kernel
theorem dX5_removeAt_25 : decode cX5_removeAt 25 = .ok (.aload_n 0, 1) := by decide +kernel
theorem dX5_removeAt_26 : decode cX5_removeAt 26 = .ok (.getfield 22, 3) := by decide +kernel
theorem dX5_removeAt_29 : decode cX5_removeAt 29 = .ok (.if_icmp .ge 38, 3) := by decide +kernel
theorem dX5_removeAt_32 : decode cX5_removeAt 32 = .ok (.iload 4, 2) := by decide +kernel
theorem dX5_removeAt_34 : decode cX5_removeAt 34 = .ok (.aload_n 0, 1) := by decide +kernel
theorem dX5_removeAt_35 : decode cX5_removeAt 35 = .ok (.getfield 11, 3) := by decide +kernel
theorem dX5_removeAt_38 : decode cX5_removeAt 38 = .ok (.arraylength, 1) := by decide +kernel
theorem dX5_removeAt_39 : decode cX5_removeAt 39 = .ok (.if_icmp .ge 28, 3) := by decide +kernel
theorem dX5_removeAt_42 : decode cX5_removeAt 42 = .ok (.aload_n 0, 1) := by decide +kernel
theorem dX5_removeAt_43 : decode cX5_removeAt 43 = .ok (.getfield 11, 3) := by decide +kernel
theorem dX5_removeAt_46 : decode cX5_removeAt 46 = .ok (.iload 4, 2) := by decide +kernel
theorem dX5_removeAt_48 : decode cX5_removeAt 48 = .ok (.iconst 1, 1) := by decide +kernel
theorem dX5_removeAt_49 : decode cX5_removeAt 49 = .ok (.isub, 1) := by decide +kernel
theorem dX5_removeAt_50 : decode cX5_removeAt 50 = .ok (.aload_n 0, 1) := by decide +kernel
theorem dX5_removeAt_51 : decode cX5_removeAt 51 = .ok (.getfield 11, 3) := by decide +kernel
theorem dX5_removeAt_54 : decode cX5_removeAt 54 = .ok (.iload 4, 2) := by decide +kernel
theorem dX5_removeAt_56 : decode cX5_removeAt 56 = .ok (.aaload, 1) := by decide +kernel
theorem dX5_removeAt_57 : decode cX5_removeAt 57 = .ok (.aastore, 1) := by decide +kernel
theorem dX5_removeAt_58 : decode cX5_removeAt 58 = .ok (.iload 4, 2) := by decide +kernel
theorem dX5_removeAt_60 : decode cX5_removeAt 60 = .ok (.istore_n 3, 1) := by decide +kernel
theorem dX5_removeAt_61 : decode cX5_removeAt 61 = .ok (.iinc 4 1, 3) := by decide +kernel
theorem dX5_removeAt_64 : decode cX5_removeAt 64 = .ok (.goto (-46), 3) := by decide +kernel
theorem dX5_removeAt_67 : decode cX5_removeAt 67 = .ok (.iload_n 3, 1) := by decide +kernel
theorem dX5_removeAt_68 : decode cX5_removeAt 68 = .ok (.ifCond .lt 19, 3) := by decide +kernel
theorem dX5_removeAt_71 : decode cX5_removeAt 71 = .ok (.iload_n 3, 1) := by decide +kernel
theorem dX5_removeAt_72 : decode cX5_removeAt 72 = .ok (.aload_n 0, 1) := by decide +kernel
theorem dX5_removeAt_73 : decode cX5_removeAt 73 = .ok (.getfield 11, 3) := by decide +kernel
theorem dX5_removeAt_76 : decode cX5_removeAt 76 = .ok (.arraylength, 1) := by decide +kernel
theorem dX5_removeAt_77 : decode cX5_removeAt 77 = .ok (.if_icmp .ge 10, 3) := by decide +kernel
theorem dX5_removeAt_80 : decode cX5_removeAt 80 = .ok (.aload_n 0, 1) := by decide +kernel
theorem dX5_removeAt_81 : decode cX5_removeAt 81 = .ok (.getfield 11, 3) := by decide +kernel
theorem dX5_removeAt_84 : decode cX5_removeAt 84 = .ok (.iload_n 3, 1) := by decide +kernel
theorem dX5_removeAt_85 : decode cX5_removeAt 85 = .ok (.aload_n 2, 1) := by decide +kernel
theorem dX5_removeAt_86 : decode cX5_removeAt 86 = .ok (.aastore, 1) := by decide +kernel
theorem dX5_removeAt_87 : decode cX5_removeAt 87 = .ok (.aload_n 0, 1) := by decide +kernel
theorem dX5_removeAt_88 : decode cX5_removeAt 88 = .ok (.dup, 1) := by decide +kernel
theorem dX5_removeAt_89 : decode cX5_removeAt 89 = .ok (.getfield 22, 3) := by decide +kernel
theorem dX5_removeAt_92 : decode cX5_removeAt 92 = .ok (.iconst 1, 1) := by decide +kernel
theorem dX5_removeAt_93 : decode cX5_removeAt 93 = .ok (.isub, 1) := by decide +kernel
theorem dX5_removeAt_94 : decode cX5_removeAt 94 = .ok (.putfield 22, 3) := by decide +kernel
theorem dX5_removeAt_97 : decode cX5_removeAt 97 = .ok (.return_, 1) := by decide +kernel
theorem dX6_account_0 : decode cX6_account 0 = .ok (.iload_n 1, 1) := by decide +kernel
theorem dX6_account_1 : decode cX6_account 1 = .ok (.tableswitch 184 0 12 #[67, 75, 84, 93, 101, 109, 125, 133, 142, 151, 160, 168, 176], 67) := by decide +kernel
theorem dX6_account_68 : decode cX6_account 68 = .ok (.aload_n 0, 1) := by decide +kernel
theorem dX6_account_69 : decode cX6_account 69 = .ok (.getfield 10, 3) := by decide +kernel
theorem dX6_account_72 : decode cX6_account 72 = .ok (.getfield 87, 3) := by decide +kernel
theorem dX6_account_75 : decode cX6_account 75 = .ok (.ireturn, 1) := by decide +kernel
theorem dX6_account_76 : decode cX6_account 76 = .ok (.aload_n 0, 1) := by decide +kernel
theorem dX6_account_77 : decode cX6_account 77 = .ok (.getfield 10, 3) := by decide +kernel
theorem dX6_account_80 : decode cX6_account 80 = .ok (.iconst 0, 1) := by decide +kernel
theorem dX6_account_81 : decode cX6_account 81 = .ok (.invokevirtual 252, 3) := by decide +kernel
theorem dX6_account_84 : decode cX6_account 84 = .ok (.ireturn, 1) := by decide +kernel
theorem dX6_account_85 : decode cX6_account 85 = .ok (.aload_n 0, 1) := by decide +kernel
theorem dX6_account_86 : decode cX6_account 86 = .ok (.getfield 10, 3) := by decide +kernel
theorem dX6_account_89 : decode cX6_account 89 = .ok (.iconst 1, 1) := by decide +kernel
theorem dX6_account_90 : decode cX6_account 90 = .ok (.invokevirtual 252, 3) := by decide +kernel
theorem dX6_account_93 : decode cX6_account 93 = .ok (.ireturn, 1) := by decide +kernel
theorem dX6_account_94 : decode cX6_account 94 = .ok (.aload_n 0, 1) := by decide +kernel
theorem dX6_account_95 : decode cX6_account 95 = .ok (.getfield 10, 3) := by decide +kernel
theorem dX6_account_98 : decode cX6_account 98 = .ok (.invokevirtual 255, 3) := by decide +kernel
theorem dX6_account_101 : decode cX6_account 101 = .ok (.ireturn, 1) := by decide +kernel
theorem dX6_account_102 : decode cX6_account 102 = .ok (.aload_n 0, 1) := by decide +kernel
theorem dX6_account_103 : decode cX6_account 103 = .ok (.getfield 10, 3) := by decide +kernel
theorem dX6_account_106 : decode cX6_account 106 = .ok (.getfield 76, 3) := by decide +kernel
theorem dX6_account_109 : decode cX6_account 109 = .ok (.ireturn, 1) := by decide +kernel
theorem dX6_account_110 : decode cX6_account 110 = .ok (.aload_n 0, 1) := by decide +kernel
theorem dX6_account_111 : decode cX6_account 111 = .ok (.getfield 10, 3) := by decide +kernel
theorem dX6_account_114 : decode cX6_account 114 = .ok (.getfield 76, 3) := by decide +kernel
theorem dX6_account_117 : decode cX6_account 117 = .ok (.aload_n 0, 1) := by decide +kernel
theorem dX6_account_118 : decode cX6_account 118 = .ok (.getfield 10, 3) := by decide +kernel
theorem dX6_account_121 : decode cX6_account 121 = .ok (.invokevirtual 64, 3) := by decide +kernel
theorem dX6_account_124 : decode cX6_account 124 = .ok (.isub, 1) := by decide +kernel
theorem dX6_account_125 : decode cX6_account 125 = .ok (.ireturn, 1) := by decide +kernel
theorem dX6_account_126 : decode cX6_account 126 = .ok (.aload_n 0, 1) := by decide +kernel
theorem dX6_account_127 : decode cX6_account 127 = .ok (.getfield 10, 3) := by decide +kernel
theorem dX6_account_130 : decode cX6_account 130 = .ok (.invokevirtual 258, 3) := by decide +kernel
theorem dX6_account_133 : decode cX6_account 133 = .ok (.ireturn, 1) := by decide +kernel
theorem dX6_account_134 : decode cX6_account 134 = .ok (.aload_n 0, 1) := by decide +kernel
theorem dX6_account_135 : decode cX6_account 135 = .ok (.getfield 10, 3) := by decide +kernel
theorem dX6_account_138 : decode cX6_account 138 = .ok (.iconst 1, 1) := by decide +kernel
theorem dX6_account_139 : decode cX6_account 139 = .ok (.invokevirtual 261, 3) := by decide +kernel
theorem dX6_account_142 : decode cX6_account 142 = .ok (.ireturn, 1) := by decide +kernel
theorem dX6_account_143 : decode cX6_account 143 = .ok (.aload_n 0, 1) := by decide +kernel
theorem dX6_account_144 : decode cX6_account 144 = .ok (.getfield 10, 3) := by decide +kernel
theorem dX6_account_147 : decode cX6_account 147 = .ok (.iconst 2, 1) := by decide +kernel
theorem dX6_account_148 : decode cX6_account 148 = .ok (.invokevirtual 261, 3) := by decide +kernel
theorem dX6_account_151 : decode cX6_account 151 = .ok (.ireturn, 1) := by decide +kernel
theorem dX6_account_152 : decode cX6_account 152 = .ok (.aload_n 0, 1) := by decide +kernel
theorem dX6_account_153 : decode cX6_account 153 = .ok (.getfield 10, 3) := by decide +kernel
theorem dX6_account_156 : decode cX6_account 156 = .ok (.iconst 0, 1) := by decide +kernel
theorem dX6_account_157 : decode cX6_account 157 = .ok (.invokevirtual 261, 3) := by decide +kernel
theorem dX6_account_160 : decode cX6_account 160 = .ok (.ireturn, 1) := by decide +kernel
theorem dX6_account_161 : decode cX6_account 161 = .ok (.aload_n 0, 1) := by decide +kernel
theorem dX6_account_162 : decode cX6_account 162 = .ok (.getfield 10, 3) := by decide +kernel
theorem dX6_account_165 : decode cX6_account 165 = .ok (.getfield 172, 3) := by decide +kernel
theorem dX6_account_168 : decode cX6_account 168 = .ok (.ireturn, 1) := by decide +kernel
theorem dX6_account_169 : decode cX6_account 169 = .ok (.aload_n 0, 1) := by decide +kernel
theorem dX6_account_170 : decode cX6_account 170 = .ok (.getfield 32, 3) := by decide +kernel
theorem dX6_account_173 : decode cX6_account 173 = .ok (.getfield 216, 3) := by decide +kernel
theorem dX6_account_176 : decode cX6_account 176 = .ok (.ireturn, 1) := by decide +kernel
theorem dX6_account_177 : decode cX6_account 177 = .ok (.aload_n 0, 1) := by decide +kernel
theorem dX6_account_178 : decode cX6_account 178 = .ok (.getfield 25, 3) := by decide +kernel
theorem dX6_account_181 : decode cX6_account 181 = .ok (.getfield 264, 3) := by decide +kernel
theorem dX6_account_184 : decode cX6_account 184 = .ok (.ireturn, 1) := by decide +kernel
theorem dX6_account_185 : decode cX6_account 185 = .ok (.sipush (-1002), 3) := by decide +kernel
theorem dX6_account_188 : decode cX6_account 188 = .ok (.ireturn, 1) := by decide +kernel
theorem dX6_add_0 : decode cX6_add 0 = .ok (.iload_n 1, 1) := by decide +kernel
theorem dX6_add_1 : decode cX6_add 1 = .ok (.ifCond .eq 12, 3) := by decide +kernel
theorem dX6_add_4 : decode cX6_add 4 = .ok (.iload_n 1, 1) := by decide +kernel
theorem dX6_add_5 : decode cX6_add 5 = .ok (.iconst 1, 1) := by decide +kernel
theorem dX6_add_6 : decode cX6_add 6 = .ok (.if_icmp .eq 7, 3) := by decide +kernel
theorem dX6_add_9 : decode cX6_add 9 = .ok (.sipush (-1002), 3) := by decide +kernel
theorem dX6_add_12 : decode cX6_add 12 = .ok (.ireturn, 1) := by decide +kernel
theorem dX6_add_13 : decode cX6_add 13 = .ok (.aload_n 0, 1) := by decide +kernel
theorem dX6_add_14 : decode cX6_add 14 = .ok (.getfield 53, 3) := by decide +kernel
theorem dX6_add_17 : decode cX6_add 17 = .ok (.iload_n 1, 1) := by decide +kernel
theorem dX6_add_18 : decode cX6_add 18 = .ok (.iload_n 2, 1) := by decide +kernel
theorem dX6_add_19 : decode cX6_add 19 = .ok (.invokevirtual 79, 3) := by decide +kernel
theorem dX6_add_22 : decode cX6_add 22 = .ok (.ifCond .eq 14, 3) := by decide +kernel
theorem dX6_add_25 : decode cX6_add 25 = .ok (.aload_n 0, 1) := by decide +kernel
theorem dX6_add_26 : decode cX6_add 26 = .ok (.getfield 53, 3) := by decide +kernel
theorem dX6_add_29 : decode cX6_add 29 = .ok (.iload_n 3, 1) := by decide +kernel
theorem dX6_add_30 : decode cX6_add 30 = .ok (.invokevirtual 83, 3) := by decide +kernel
theorem dX6_add_33 : decode cX6_add 33 = .ok (.ifCond .ne 7, 3) := by decide +kernel
theorem dX6_add_36 : decode cX6_add 36 = .ok (.sipush (-1002), 3) := by decide +kernel
theorem dX6_add_39 : decode cX6_add 39 = .ok (.ireturn, 1) := by decide +kernel
theorem dX6_add_40 : decode cX6_add 40 = .ok (.aload_n 0, 1) := by decide +kernel
theorem dX6_add_41 : decode cX6_add 41 = .ok (.getfield 10, 3) := by decide +kernel
theorem dX6_add_44 : decode cX6_add 44 = .ok (.getfield 87, 3) := by decide +kernel
theorem dX6_add_47 : decode cX6_add 47 = .ok (.bipush 8, 2) := by decide +kernel
theorem dX6_add_49 : decode cX6_add 49 = .ok (.if_icmp .lt 11, 3) := by decide +kernel
theorem dX6_add_52 : decode cX6_add 52 = .ok (.aload_n 0, 1) := by decide +kernel
theorem dX6_add_53 : decode cX6_add 53 = .ok (.iconst 1, 1) := by decide +kernel
theorem dX6_add_54 : decode cX6_add 54 = .ok (.bipush 8, 2) := by decide +kernel
theorem dX6_add_56 : decode cX6_add 56 = .ok (.invokevirtual 68, 3) := by decide +kernel
theorem dX6_add_59 : decode cX6_add 59 = .ok (.ireturn, 1) := by decide +kernel
theorem dX6_add_60 : decode cX6_add 60 = .ok (.aload_n 0, 1) := by decide +kernel
theorem dX6_add_61 : decode cX6_add 61 = .ok (.getfield 25, 3) := by decide +kernel
theorem dX6_add_64 : decode cX6_add 64 = .ok (.aload_n 0, 1) := by decide +kernel
theorem dX6_add_65 : decode cX6_add 65 = .ok (.getfield 10, 3) := by decide +kernel
theorem dX6_add_68 : decode cX6_add 68 = .ok (.invokevirtual 72, 3) := by decide +kernel
theorem dX6_add_71 : decode cX6_add 71 = .ok (.aload_n 0, 1) := by decide +kernel
theorem dX6_add_72 : decode cX6_add 72 = .ok (.getfield 10, 3) := by decide +kernel
theorem dX6_add_75 : decode cX6_add 75 = .ok (.aload_n 0, 1) := by decide +kernel
theorem dX6_add_76 : decode cX6_add 76 = .ok (.getfield 53, 3) := by decide +kernel
theorem dX6_add_79 : decode cX6_add 79 = .ok (.invokevirtual 90, 3) := by decide +kernel
theorem dX6_add_82 : decode cX6_add 82 = .ok (.aload_n 0, 1) := by decide +kernel
theorem dX6_add_83 : decode cX6_add 83 = .ok (.getfield 10, 3) := by decide +kernel
theorem dX6_add_86 : decode cX6_add 86 = .ok (.getfield 87, 3) := by decide +kernel
theorem dX6_add_89 : decode cX6_add 89 = .ok (.iconst 1, 1) := by decide +kernel
theorem dX6_add_90 : decode cX6_add 90 = .ok (.isub, 1) := by decide +kernel
theorem dX6_add_91 : decode cX6_add 91 = .ok (.ireturn, 1) := by decide +kernel
theorem dX6_append_0 : decode cX6_append 0 = .ok (.iload_n 1, 1) := by decide +kernel
theorem dX6_append_1 : decode cX6_append 1 = .ok (.bipush 32, 2) := by decide +kernel
theorem dX6_append_3 : decode cX6_append 3 = .ok (.if_icmp .lt 21, 3) := by decide +kernel
theorem dX6_append_6 : decode cX6_append 6 = .ok (.iload_n 1, 1) := by decide +kernel
theorem dX6_append_7 : decode cX6_append 7 = .ok (.bipush 126, 2) := by decide +kernel
theorem dX6_append_9 : decode cX6_append 9 = .ok (.if_icmp .gt 15, 3) := by decide +kernel
theorem dX6_append_12 : decode cX6_append 12 = .ok (.aload_n 0, 1) := by decide +kernel
theorem dX6_append_13 : decode cX6_append 13 = .ok (.getfield 32, 3) := by decide +kernel
theorem dX6_append_16 : decode cX6_append 16 = .ok (.getfield 216, 3) := by decide +kernel
theorem dX6_append_19 : decode cX6_append 19 = .ok (.bipush 80, 2) := by decide +kernel
theorem dX6_append_21 : decode cX6_append 21 = .ok (.if_icmp .lt 7, 3) := by decide +kernel
theorem dX6_append_24 : decode cX6_append 24 = .ok (.sipush (-1002), 3) := by decide +kernel
theorem dX6_append_27 : decode cX6_append 27 = .ok (.ireturn, 1) := by decide +kernel
theorem dX6_append_28 : decode cX6_append 28 = .ok (.aload_n 0, 1) := by decide +kernel
theorem dX6_append_29 : decode cX6_append 29 = .ok (.getfield 32, 3) := by decide +kernel
theorem dX6_append_32 : decode cX6_append 32 = .ok (.iload_n 1, 1) := by decide +kernel
theorem dX6_append_33 : decode cX6_append 33 = .ok (.invokevirtual 219, 3) := by decide +kernel
theorem dX6_append_36 : decode cX6_append 36 = .ok (.aload_n 0, 1) := by decide +kernel
theorem dX6_append_37 : decode cX6_append 37 = .ok (.getfield 32, 3) := by decide +kernel
theorem dX6_append_40 : decode cX6_append 40 = .ok (.getfield 216, 3) := by decide +kernel
theorem dX6_append_43 : decode cX6_append 43 = .ok (.ireturn, 1) := by decide +kernel
theorem dX6_at_0 : decode cX6_at 0 = .ok (.iload_n 1, 1) := by decide +kernel
theorem dX6_at_1 : decode cX6_at 1 = .ok (.ifCond .lt 15, 3) := by decide +kernel
theorem dX6_at_4 : decode cX6_at 4 = .ok (.iload_n 1, 1) := by decide +kernel
theorem dX6_at_5 : decode cX6_at 5 = .ok (.aload_n 0, 1) := by decide +kernel
theorem dX6_at_6 : decode cX6_at 6 = .ok (.arraylength, 1) := by decide +kernel
theorem dX6_at_7 : decode cX6_at 7 = .ok (.if_icmp .ge 9, 3) := by decide +kernel
theorem dX6_at_10 : decode cX6_at 10 = .ok (.aload_n 0, 1) := by decide +kernel
theorem dX6_at_11 : decode cX6_at 11 = .ok (.iload_n 1, 1) := by decide +kernel
theorem dX6_at_12 : decode cX6_at 12 = .ok (.iaload, 1) := by decide +kernel
theorem dX6_at_13 : decode cX6_at 13 = .ok (.goto 4, 3) := by decide +kernel
theorem dX6_at_16 : decode cX6_at 16 = .ok (.iconst 0, 1) := by decide +kernel
theorem dX6_at_17 : decode cX6_at 17 = .ok (.ireturn, 1) := by decide +kernel
theorem dX6_copyRow_0 : decode cX6_copyRow 0 = .ok (.iconst 0, 1) := by decide +kernel
theorem dX6_copyRow_1 : decode cX6_copyRow 1 = .ok (.istore_n 2, 1) := by decide +kernel
theorem dX6_copyRow_2 : decode cX6_copyRow 2 = .ok (.iload_n 2, 1) := by decide +kernel
theorem dX6_copyRow_3 : decode cX6_copyRow 3 = .ok (.aload_n 0, 1) := by decide +kernel
theorem dX6_copyRow_4 : decode cX6_copyRow 4 = .ok (.arraylength, 1) := by decide +kernel
theorem dX6_copyRow_5 : decode cX6_copyRow 5 = .ok (.if_icmp .ge 21, 3) := by decide +kernel
theorem dX6_copyRow_8 : decode cX6_copyRow 8 = .ok (.iload_n 2, 1) := by decide +kernel
theorem dX6_copyRow_9 : decode cX6_copyRow 9 = .ok (.aload_n 1, 1) := by decide +kernel
theorem dX6_copyRow_10 : decode cX6_copyRow 10 = .ok (.arraylength, 1) := by decide +kernel
theorem dX6_copyRow_11 : decode cX6_copyRow 11 = .ok (.if_icmp .ge 15, 3) := by decide +kernel
theorem dX6_copyRow_14 : decode cX6_copyRow 14 = .ok (.aload_n 1, 1) := by decide +kernel
theorem dX6_copyRow_15 : decode cX6_copyRow 15 = .ok (.iload_n 2, 1) := by decide +kernel
theorem dX6_copyRow_16 : decode cX6_copyRow 16 = .ok (.aload_n 0, 1) := by decide +kernel
theorem dX6_copyRow_17 : decode cX6_copyRow 17 = .ok (.iload_n 2, 1) := by decide +kernel
theorem dX6_copyRow_18 : decode cX6_copyRow 18 = .ok (.iaload, 1) := by decide +kernel
theorem dX6_copyRow_19 : decode cX6_copyRow 19 = .ok (.iastore, 1) := by decide +kernel
theorem dX6_copyRow_20 : decode cX6_copyRow 20 = .ok (.iinc 2 1, 3) := by decide +kernel
theorem dX6_copyRow_23 : decode cX6_copyRow 23 = .ok (.goto (-21), 3) := by decide +kernel
theorem dX6_copyRow_26 : decode cX6_copyRow 26 = .ok (.return_, 1) := by decide +kernel
theorem dX6_crease_0 : decode cX6_crease 0 = .ok (.aload_n 0, 1) := by decide +kernel
theorem dX6_crease_1 : decode cX6_crease 1 = .ok (.getfield 10, 3) := by decide +kernel
theorem dX6_crease_4 : decode cX6_crease 4 = .ok (.iload_n 1, 1) := by decide +kernel
theorem dX6_crease_5 : decode cX6_crease 5 = .ok (.invokevirtual 94, 3) := by decide +kernel
theorem dX6_crease_8 : decode cX6_crease 8 = .ok (.astore_n 3, 1) := by decide +kernel
theorem dX6_crease_9 : decode cX6_crease 9 = .ok (.aload_n 3, 1) := by decide +kernel
theorem dX6_crease_10 : decode cX6_crease 10 = .ok (.ifnull 11, 3) := by decide +kernel
theorem dX6_crease_13 : decode cX6_crease 13 = .ok (.aload_n 3, 1) := by decide +kernel
theorem dX6_crease_14 : decode cX6_crease 14 = .ok (.iload_n 2, 1) := by decide +kernel
theorem dX6_crease_15 : decode cX6_crease 15 = .ok (.invokevirtual 98, 3) := by decide +kernel
theorem dX6_crease_18 : decode cX6_crease 18 = .ok (.ifCond .ne 7, 3) := by decide +kernel
theorem dX6_crease_21 : decode cX6_crease 21 = .ok (.sipush (-1001), 3) := by decide +kernel
theorem dX6_crease_24 : decode cX6_crease 24 = .ok (.ireturn, 1) := by decide +kernel
theorem dX6_crease_25 : decode cX6_crease 25 = .ok (.aload_n 3, 1) := by decide +kernel
theorem dX6_crease_26 : decode cX6_crease 26 = .ok (.getfield 108, 3) := by decide +kernel
theorem dX6_crease_29 : decode cX6_crease 29 = .ok (.iload_n 2, 1) := by decide +kernel
theorem dX6_crease_30 : decode cX6_crease 30 = .ok (.invokestatic 112, 3) := by decide +kernel
theorem dX6_crease_33 : decode cX6_crease 33 = .ok (.ireturn, 1) := by decide +kernel
theorem dX6_cut_0 : decode cX6_cut 0 = .ok (.aload_n 0, 1) := by decide +kernel
theorem dX6_cut_1 : decode cX6_cut 1 = .ok (.getfield 10, 3) := by decide +kernel
theorem dX6_cut_4 : decode cX6_cut 4 = .ok (.iload_n 1, 1) := by decide +kernel
theorem dX6_cut_5 : decode cX6_cut 5 = .ok (.invokevirtual 94, 3) := by decide +kernel
theorem dX6_cut_8 : decode cX6_cut 8 = .ok (.astore_n 3, 1) := by decide +kernel
theorem dX6_cut_9 : decode cX6_cut 9 = .ok (.aload_n 3, 1) := by decide +kernel
theorem dX6_cut_10 : decode cX6_cut 10 = .ok (.ifnull 11, 3) := by decide +kernel
theorem dX6_cut_13 : decode cX6_cut 13 = .ok (.aload_n 3, 1) := by decide +kernel
theorem dX6_cut_14 : decode cX6_cut 14 = .ok (.iload_n 2, 1) := by decide +kernel
theorem dX6_cut_15 : decode cX6_cut 15 = .ok (.invokevirtual 98, 3) := by decide +kernel
theorem dX6_cut_18 : decode cX6_cut 18 = .ok (.ifCond .ne 7, 3) := by decide +kernel
theorem dX6_cut_21 : decode cX6_cut 21 = .ok (.sipush (-1001), 3) := by decide +kernel
theorem dX6_cut_24 : decode cX6_cut 24 = .ok (.ireturn, 1) := by decide +kernel
theorem dX6_cut_25 : decode cX6_cut 25 = .ok (.aload_n 0, 1) := by decide +kernel
theorem dX6_cut_26 : decode cX6_cut 26 = .ok (.getfield 10, 3) := by decide +kernel
theorem dX6_cut_29 : decode cX6_cut 29 = .ok (.getfield 87, 3) := by decide +kernel
theorem dX6_cut_32 : decode cX6_cut 32 = .ok (.bipush 8, 2) := by decide +kernel
theorem dX6_cut_34 : decode cX6_cut 34 = .ok (.if_icmp .lt 11, 3) := by decide +kernel
theorem dX6_cut_37 : decode cX6_cut 37 = .ok (.aload_n 0, 1) := by decide +kernel
theorem dX6_cut_38 : decode cX6_cut 38 = .ok (.iconst 1, 1) := by decide +kernel
theorem dX6_cut_39 : decode cX6_cut 39 = .ok (.bipush 8, 2) := by decide +kernel
theorem dX6_cut_41 : decode cX6_cut 41 = .ok (.invokevirtual 68, 3) := by decide +kernel
theorem dX6_cut_44 : decode cX6_cut 44 = .ok (.ireturn, 1) := by decide +kernel
theorem dX6_cut_45 : decode cX6_cut 45 = .ok (.aload_n 3, 1) := by decide +kernel
theorem dX6_cut_46 : decode cX6_cut 46 = .ok (.getfield 104, 3) := by decide +kernel
theorem dX6_cut_49 : decode cX6_cut 49 = .ok (.ifCond .eq 10, 3) := by decide +kernel
theorem dX6_cut_52 : decode cX6_cut 52 = .ok (.aload_n 0, 1) := by decide +kernel
theorem dX6_cut_53 : decode cX6_cut 53 = .ok (.iconst 2, 1) := by decide +kernel
theorem dX6_cut_54 : decode cX6_cut 54 = .ok (.iload_n 1, 1) := by decide +kernel
theorem dX6_cut_55 : decode cX6_cut 55 = .ok (.invokevirtual 68, 3) := by decide +kernel
theorem dX6_cut_58 : decode cX6_cut 58 = .ok (.ireturn, 1) := by decide +kernel
theorem dX6_cut_59 : decode cX6_cut 59 = .ok (.aload_n 3, 1) := by decide +kernel
theorem dX6_cut_60 : decode cX6_cut 60 = .ok (.getfield 130, 3) := by decide +kernel
theorem dX6_cut_63 : decode cX6_cut 63 = .ok (.ifCond .eq 10, 3) := by decide +kernel
theorem dX6_cut_66 : decode cX6_cut 66 = .ok (.aload_n 0, 1) := by decide +kernel
theorem dX6_cut_67 : decode cX6_cut 67 = .ok (.iconst 3, 1) := by decide +kernel
theorem dX6_cut_68 : decode cX6_cut 68 = .ok (.iload_n 1, 1) := by decide +kernel
theorem dX6_cut_69 : decode cX6_cut 69 = .ok (.invokevirtual 68, 3) := by decide +kernel
theorem dX6_cut_72 : decode cX6_cut 72 = .ok (.ireturn, 1) := by decide +kernel
theorem dX6_cut_73 : decode cX6_cut 73 = .ok (.iload_n 2, 1) := by decide +kernel
theorem dX6_cut_74 : decode cX6_cut 74 = .ok (.iconst 1, 1) := by decide +kernel
theorem dX6_cut_75 : decode cX6_cut 75 = .ok (.iadd, 1) := by decide +kernel
theorem dX6_cut_76 : decode cX6_cut 76 = .ok (.istore 4, 2) := by decide +kernel
theorem dX6_cut_78 : decode cX6_cut 78 = .ok (.iload 4, 2) := by decide +kernel
theorem dX6_cut_80 : decode cX6_cut 80 = .ok (.aload_n 3, 1) := by decide +kernel
theorem dX6_cut_81 : decode cX6_cut 81 = .ok (.getfield 143, 3) := by decide +kernel
theorem dX6_cut_84 : decode cX6_cut 84 = .ok (.iload 4, 2) := by decide +kernel
theorem dX6_cut_86 : decode cX6_cut 86 = .ok (.isub, 1) := by decide +kernel
theorem dX6_cut_87 : decode cX6_cut 87 = .ok (.invokestatic 151, 3) := by decide +kernel
theorem dX6_cut_90 : decode cX6_cut 90 = .ok (.istore 5, 2) := by decide +kernel
theorem dX6_cut_92 : decode cX6_cut 92 = .ok (.iload 5, 2) := by decide +kernel
theorem dX6_cut_94 : decode cX6_cut 94 = .ok (.iconst 2, 1) := by decide +kernel
theorem dX6_cut_95 : decode cX6_cut 95 = .ok (.if_icmp .ge 12, 3) := by decide +kernel
theorem dX6_cut_98 : decode cX6_cut 98 = .ok (.aload_n 0, 1) := by decide +kernel
theorem dX6_cut_99 : decode cX6_cut 99 = .ok (.bipush 6, 2) := by decide +kernel
theorem dX6_cut_101 : decode cX6_cut 101 = .ok (.iload 5, 2) := by decide +kernel
theorem dX6_cut_103 : decode cX6_cut 103 = .ok (.invokevirtual 68, 3) := by decide +kernel
theorem dX6_cut_106 : decode cX6_cut 106 = .ok (.ireturn, 1) := by decide +kernel
theorem dX6_cut_107 : decode cX6_cut 107 = .ok (.aload_n 0, 1) := by decide +kernel
theorem dX6_cut_108 : decode cX6_cut 108 = .ok (.getfield 25, 3) := by decide +kernel
theorem dX6_cut_111 : decode cX6_cut 111 = .ok (.aload_n 0, 1) := by decide +kernel
theorem dX6_cut_112 : decode cX6_cut 112 = .ok (.getfield 10, 3) := by decide +kernel
theorem dX6_cut_115 : decode cX6_cut 115 = .ok (.invokevirtual 72, 3) := by decide +kernel
theorem dX6_cut_118 : decode cX6_cut 118 = .ok (.aload_n 0, 1) := by decide +kernel
theorem dX6_cut_119 : decode cX6_cut 119 = .ok (.getfield 53, 3) := by decide +kernel
theorem dX6_cut_122 : decode cX6_cut 122 = .ok (.aload_n 3, 1) := by decide +kernel
theorem dX6_cut_123 : decode cX6_cut 123 = .ok (.iload 4, 2) := by decide +kernel
theorem dX6_cut_125 : decode cX6_cut 125 = .ok (.invokevirtual 156, 3) := by decide +kernel
theorem dX6_cut_128 : decode cX6_cut 128 = .ok (.aload_n 3, 1) := by decide +kernel
theorem dX6_cut_129 : decode cX6_cut 129 = .ok (.iload 4, 2) := by decide +kernel
theorem dX6_cut_131 : decode cX6_cut 131 = .ok (.putfield 143, 3) := by decide +kernel
theorem dX6_cut_134 : decode cX6_cut 134 = .ok (.aload_n 0, 1) := by decide +kernel
theorem dX6_cut_135 : decode cX6_cut 135 = .ok (.getfield 10, 3) := by decide +kernel
theorem dX6_cut_138 : decode cX6_cut 138 = .ok (.aload_n 0, 1) := by decide +kernel
theorem dX6_cut_139 : decode cX6_cut 139 = .ok (.getfield 53, 3) := by decide +kernel
theorem dX6_cut_142 : decode cX6_cut 142 = .ok (.invokevirtual 90, 3) := by decide +kernel
theorem dX6_cut_145 : decode cX6_cut 145 = .ok (.aload_n 0, 1) := by decide +kernel
theorem dX6_cut_146 : decode cX6_cut 146 = .ok (.getfield 10, 3) := by decide +kernel
theorem dX6_cut_149 : decode cX6_cut 149 = .ok (.getfield 87, 3) := by decide +kernel
theorem dX6_cut_152 : decode cX6_cut 152 = .ok (.iconst 1, 1) := by decide +kernel
theorem dX6_cut_153 : decode cX6_cut 153 = .ok (.isub, 1) := by decide +kernel
theorem dX6_cut_154 : decode cX6_cut 154 = .ok (.ireturn, 1) := by decide +kernel
theorem dX6_drop_0 : decode cX6_drop 0 = .ok (.aload_n 0, 1) := by decide +kernel
theorem dX6_drop_1 : decode cX6_drop 1 = .ok (.getfield 10, 3) := by decide +kernel
theorem dX6_drop_4 : decode cX6_drop 4 = .ok (.iload_n 1, 1) := by decide +kernel
theorem dX6_drop_5 : decode cX6_drop 5 = .ok (.invokevirtual 94, 3) := by decide +kernel
theorem dX6_drop_8 : decode cX6_drop 8 = .ok (.ifnonnull 7, 3) := by decide +kernel
theorem dX6_drop_11 : decode cX6_drop 11 = .ok (.sipush (-1001), 3) := by decide +kernel
theorem dX6_drop_14 : decode cX6_drop 14 = .ok (.ireturn, 1) := by decide +kernel
theorem dX6_drop_15 : decode cX6_drop 15 = .ok (.aload_n 0, 1) := by decide +kernel
theorem dX6_drop_16 : decode cX6_drop 16 = .ok (.getfield 25, 3) := by decide +kernel
theorem dX6_drop_19 : decode cX6_drop 19 = .ok (.aload_n 0, 1) := by decide +kernel
theorem dX6_drop_20 : decode cX6_drop 20 = .ok (.getfield 10, 3) := by decide +kernel
theorem dX6_drop_23 : decode cX6_drop 23 = .ok (.invokevirtual 72, 3) := by decide +kernel
theorem dX6_drop_26 : decode cX6_drop 26 = .ok (.aload_n 0, 1) := by decide +kernel
theorem dX6_drop_27 : decode cX6_drop 27 = .ok (.getfield 10, 3) := by decide +kernel
theorem dX6_drop_30 : decode cX6_drop 30 = .ok (.iload_n 1, 1) := by decide +kernel
theorem dX6_drop_31 : decode cX6_drop 31 = .ok (.invokevirtual 147, 3) := by decide +kernel
theorem dX6_drop_34 : decode cX6_drop 34 = .ok (.aload_n 0, 1) := by decide +kernel
theorem dX6_drop_35 : decode cX6_drop 35 = .ok (.getfield 10, 3) := by decide +kernel
theorem dX6_drop_38 : decode cX6_drop 38 = .ok (.getfield 87, 3) := by decide +kernel
theorem dX6_drop_41 : decode cX6_drop 41 = .ok (.ireturn, 1) := by decide +kernel
theorem dX6_errorOfDecidedStrip_0 : decode cX6_errorOfDecidedStrip 0 = .ok (.aload_n 0, 1) := by decide +kernel
theorem dX6_errorOfDecidedStrip_1 : decode cX6_errorOfDecidedStrip 1 = .ok (.ifnonnull 7, 3) := by decide +kernel
theorem dX6_errorOfDecidedStrip_4 : decode cX6_errorOfDecidedStrip 4 = .ok (.sipush (-1001), 3) := by decide +kernel
theorem dX6_errorOfDecidedStrip_7 : decode cX6_errorOfDecidedStrip 7 = .ok (.ireturn, 1) := by decide +kernel
theorem dX6_errorOfDecidedStrip_8 : decode cX6_errorOfDecidedStrip 8 = .ok (.aload_n 0, 1) := by decide +kernel
theorem dX6_errorOfDecidedStrip_9 : decode cX6_errorOfDecidedStrip 9 = .ok (.getfield 130, 3) := by decide +kernel
theorem dX6_errorOfDecidedStrip_12 : decode cX6_errorOfDecidedStrip 12 = .ok (.ifCond .eq 7, 3) := by decide +kernel
theorem dX6_errorOfDecidedStrip_15 : decode cX6_errorOfDecidedStrip 15 = .ok (.sipush (-1002), 3) := by decide +kernel
theorem dX6_errorOfDecidedStrip_18 : decode cX6_errorOfDecidedStrip 18 = .ok (.ireturn, 1) := by decide +kernel
theorem dX6_errorOfDecidedStrip_19 : decode cX6_errorOfDecidedStrip 19 = .ok (.aload_n 0, 1) := by decide +kernel
theorem dX6_errorOfDecidedStrip_20 : decode cX6_errorOfDecidedStrip 20 = .ok (.invokevirtual 159, 3) := by decide +kernel
theorem dX6_errorOfDecidedStrip_23 : decode cX6_errorOfDecidedStrip 23 = .ok (.ifCond .eq 9, 3) := by decide +kernel
theorem dX6_errorOfDecidedStrip_26 : decode cX6_errorOfDecidedStrip 26 = .ok (.sipush (-1004), 3) := by decide +kernel
theorem dX6_errorOfDecidedStrip_29 : decode cX6_errorOfDecidedStrip 29 = .ok (.goto 4, 3) := by decide +kernel
theorem dX6_errorOfDecidedStrip_32 : decode cX6_errorOfDecidedStrip 32 = .ok (.iconst 0, 1) := by decide +kernel
theorem dX6_errorOfDecidedStrip_33 : decode cX6_errorOfDecidedStrip 33 = .ok (.ireturn, 1) := by decide +kernel
theorem dX6_fewest_0 : decode cX6_fewest 0 = .ok (.aload_n 0, 1) := by decide +kernel
theorem dX6_fewest_1 : decode cX6_fewest 1 = .ok (.getfield 10, 3) := by decide +kernel
theorem dX6_fewest_4 : decode cX6_fewest 4 = .ok (.iload_n 1, 1) := by decide +kernel
theorem dX6_fewest_5 : decode cX6_fewest 5 = .ok (.invokevirtual 94, 3) := by decide +kernel
theorem dX6_fewest_8 : decode cX6_fewest 8 = .ok (.astore_n 2, 1) := by decide +kernel
theorem dX6_fewest_9 : decode cX6_fewest 9 = .ok (.aload_n 2, 1) := by decide +kernel
theorem dX6_fewest_10 : decode cX6_fewest 10 = .ok (.ifnonnull 9, 3) := by decide +kernel
theorem dX6_fewest_13 : decode cX6_fewest 13 = .ok (.sipush (-1001), 3) := by decide +kernel
theorem dX6_fewest_16 : decode cX6_fewest 16 = .ok (.goto 11, 3) := by decide +kernel
theorem dX6_fewest_19 : decode cX6_fewest 19 = .ok (.aload_n 0, 1) := by decide +kernel
theorem dX6_fewest_20 : decode cX6_fewest 20 = .ok (.getfield 39, 3) := by decide +kernel
theorem dX6_fewest_23 : decode cX6_fewest 23 = .ok (.aload_n 2, 1) := by decide +kernel
theorem dX6_fewest_24 : decode cX6_fewest 24 = .ok (.invokevirtual 200, 3) := by decide +kernel
theorem dX6_fewest_27 : decode cX6_fewest 27 = .ok (.ireturn, 1) := by decide +kernel
theorem dX6_fold_0 : decode cX6_fold 0 = .ok (.aload_n 0, 1) := by decide +kernel
theorem dX6_fold_1 : decode cX6_fold 1 = .ok (.getfield 10, 3) := by decide +kernel
theorem dX6_fold_4 : decode cX6_fold 4 = .ok (.iload_n 1, 1) := by decide +kernel
theorem dX6_fold_5 : decode cX6_fold 5 = .ok (.invokevirtual 94, 3) := by decide +kernel
theorem dX6_fold_8 : decode cX6_fold 8 = .ok (.astore_n 2, 1) := by decide +kernel
theorem dX6_fold_9 : decode cX6_fold 9 = .ok (.aload_n 2, 1) := by decide +kernel
theorem dX6_fold_10 : decode cX6_fold 10 = .ok (.ifnonnull 7, 3) := by decide +kernel
theorem dX6_fold_13 : decode cX6_fold 13 = .ok (.sipush (-1001), 3) := by decide +kernel
theorem dX6_fold_16 : decode cX6_fold 16 = .ok (.ireturn, 1) := by decide +kernel
theorem dX6_fold_17 : decode cX6_fold 17 = .ok (.aload_n 2, 1) := by decide +kernel
theorem dX6_fold_18 : decode cX6_fold 18 = .ok (.getfield 104, 3) := by decide +kernel
theorem dX6_fold_21 : decode cX6_fold 21 = .ok (.ifCond .eq 10, 3) := by decide +kernel
theorem dX6_fold_24 : decode cX6_fold 24 = .ok (.aload_n 0, 1) := by decide +kernel
theorem dX6_fold_25 : decode cX6_fold 25 = .ok (.iconst 2, 1) := by decide +kernel
theorem dX6_fold_26 : decode cX6_fold 26 = .ok (.iload_n 1, 1) := by decide +kernel
theorem dX6_fold_27 : decode cX6_fold 27 = .ok (.invokevirtual 68, 3) := by decide +kernel
theorem dX6_fold_30 : decode cX6_fold 30 = .ok (.ireturn, 1) := by decide +kernel
theorem dX6_fold_31 : decode cX6_fold 31 = .ok (.aload_n 2, 1) := by decide +kernel
theorem dX6_fold_32 : decode cX6_fold 32 = .ok (.invokevirtual 159, 3) := by decide +kernel
theorem dX6_fold_35 : decode cX6_fold 35 = .ok (.ifCond .eq 13, 3) := by decide +kernel
theorem dX6_fold_38 : decode cX6_fold 38 = .ok (.aload_n 0, 1) := by decide +kernel
theorem dX6_fold_39 : decode cX6_fold 39 = .ok (.iconst 4, 1) := by decide +kernel
theorem dX6_fold_40 : decode cX6_fold 40 = .ok (.aload_n 2, 1) := by decide +kernel
theorem dX6_fold_41 : decode cX6_fold 41 = .ok (.invokevirtual 163, 3) := by decide +kernel
theorem dX6_fold_44 : decode cX6_fold 44 = .ok (.invokevirtual 68, 3) := by decide +kernel
theorem dX6_fold_47 : decode cX6_fold 47 = .ok (.ireturn, 1) := by decide +kernel
theorem dX6_fold_48 : decode cX6_fold 48 = .ok (.aload_n 0, 1) := by decide +kernel
theorem dX6_fold_49 : decode cX6_fold 49 = .ok (.getfield 39, 3) := by decide +kernel
theorem dX6_fold_52 : decode cX6_fold 52 = .ok (.aload_n 2, 1) := by decide +kernel
theorem dX6_fold_53 : decode cX6_fold 53 = .ok (.invokevirtual 166, 3) := by decide +kernel
theorem dX6_fold_56 : decode cX6_fold 56 = .ok (.istore_n 3, 1) := by decide +kernel
theorem dX6_fold_57 : decode cX6_fold 57 = .ok (.iload_n 3, 1) := by decide +kernel
theorem dX6_fold_58 : decode cX6_fold 58 = .ok (.ifCond .eq 10, 3) := by decide +kernel
theorem dX6_fold_61 : decode cX6_fold 61 = .ok (.aload_n 0, 1) := by decide +kernel
theorem dX6_fold_62 : decode cX6_fold 62 = .ok (.iconst 5, 1) := by decide +kernel
theorem dX6_fold_63 : decode cX6_fold 63 = .ok (.iload_n 3, 1) := by decide +kernel
theorem dX6_fold_64 : decode cX6_fold 64 = .ok (.invokevirtual 68, 3) := by decide +kernel
theorem dX6_fold_67 : decode cX6_fold 67 = .ok (.ireturn, 1) := by decide +kernel
theorem dX6_fold_68 : decode cX6_fold 68 = .ok (.aload_n 2, 1) := by decide +kernel
theorem dX6_fold_69 : decode cX6_fold 69 = .ok (.invokevirtual 170, 3) := by decide +kernel
theorem dX6_fold_72 : decode cX6_fold 72 = .ok (.istore 4, 2) := by decide +kernel
theorem dX6_fold_74 : decode cX6_fold 74 = .ok (.aload_n 0, 1) := by decide +kernel
theorem dX6_fold_75 : decode cX6_fold 75 = .ok (.getfield 10, 3) := by decide +kernel
theorem dX6_fold_78 : decode cX6_fold 78 = .ok (.invokevirtual 64, 3) := by decide +kernel
theorem dX6_fold_81 : decode cX6_fold 81 = .ok (.iload 4, 2) := by decide +kernel
theorem dX6_fold_83 : decode cX6_fold 83 = .ok (.iadd, 1) := by decide +kernel
theorem dX6_fold_84 : decode cX6_fold 84 = .ok (.aload_n 0, 1) := by decide +kernel
theorem dX6_fold_85 : decode cX6_fold 85 = .ok (.getfield 10, 3) := by decide +kernel
theorem dX6_fold_88 : decode cX6_fold 88 = .ok (.getfield 76, 3) := by decide +kernel
theorem dX6_fold_91 : decode cX6_fold 91 = .ok (.isub, 1) := by decide +kernel
theorem dX6_fold_92 : decode cX6_fold 92 = .ok (.istore 5, 2) := by decide +kernel
theorem dX6_fold_94 : decode cX6_fold 94 = .ok (.iload 5, 2) := by decide +kernel
theorem dX6_fold_96 : decode cX6_fold 96 = .ok (.ifCond .le 12, 3) := by decide +kernel
theorem dX6_fold_99 : decode cX6_fold 99 = .ok (.aload_n 0, 1) := by decide +kernel
theorem dX6_fold_100 : decode cX6_fold 100 = .ok (.bipush 7, 2) := by decide +kernel
theorem dX6_fold_102 : decode cX6_fold 102 = .ok (.iload 5, 2) := by decide +kernel
theorem dX6_fold_104 : decode cX6_fold 104 = .ok (.invokevirtual 68, 3) := by decide +kernel
theorem dX6_fold_107 : decode cX6_fold 107 = .ok (.ireturn, 1) := by decide +kernel
theorem dX6_fold_108 : decode cX6_fold 108 = .ok (.aload_n 0, 1) := by decide +kernel
theorem dX6_fold_109 : decode cX6_fold 109 = .ok (.getfield 25, 3) := by decide +kernel
theorem dX6_fold_112 : decode cX6_fold 112 = .ok (.aload_n 0, 1) := by decide +kernel
theorem dX6_fold_113 : decode cX6_fold 113 = .ok (.getfield 10, 3) := by decide +kernel
theorem dX6_fold_116 : decode cX6_fold 116 = .ok (.invokevirtual 72, 3) := by decide +kernel
theorem dX6_fold_119 : decode cX6_fold 119 = .ok (.aload_n 2, 1) := by decide +kernel
theorem dX6_fold_120 : decode cX6_fold 120 = .ok (.iconst 1, 1) := by decide +kernel
theorem dX6_fold_121 : decode cX6_fold 121 = .ok (.putfield 104, 3) := by decide +kernel
theorem dX6_fold_124 : decode cX6_fold 124 = .ok (.aload_n 0, 1) := by decide +kernel
theorem dX6_fold_125 : decode cX6_fold 125 = .ok (.getfield 10, 3) := by decide +kernel
theorem dX6_fold_128 : decode cX6_fold 128 = .ok (.dup, 1) := by decide +kernel
theorem dX6_fold_129 : decode cX6_fold 129 = .ok (.getfield 172, 3) := by decide +kernel
theorem dX6_fold_132 : decode cX6_fold 132 = .ok (.iconst 1, 1) := by decide +kernel
theorem dX6_fold_133 : decode cX6_fold 133 = .ok (.iadd, 1) := by decide +kernel
theorem dX6_fold_134 : decode cX6_fold 134 = .ok (.putfield 172, 3) := by decide +kernel
theorem dX6_fold_137 : decode cX6_fold 137 = .ok (.iload 4, 2) := by decide +kernel
theorem dX6_fold_139 : decode cX6_fold 139 = .ok (.ireturn, 1) := by decide +kernel
theorem dX6_foldsAgain_0 : decode cX6_foldsAgain 0 = .ok (.aload_n 0, 1) := by decide +kernel
theorem dX6_foldsAgain_1 : decode cX6_foldsAgain 1 = .ok (.getfield 10, 3) := by decide +kernel
theorem dX6_foldsAgain_4 : decode cX6_foldsAgain 4 = .ok (.iload_n 1, 1) := by decide +kernel
theorem dX6_foldsAgain_5 : decode cX6_foldsAgain 5 = .ok (.invokevirtual 94, 3) := by decide +kernel
theorem dX6_foldsAgain_8 : decode cX6_foldsAgain 8 = .ok (.astore_n 2, 1) := by decide +kernel
theorem dX6_foldsAgain_9 : decode cX6_foldsAgain 9 = .ok (.aload_n 2, 1) := by decide +kernel
theorem dX6_foldsAgain_10 : decode cX6_foldsAgain 10 = .ok (.invokestatic 181, 3) := by decide +kernel
theorem dX6_foldsAgain_13 : decode cX6_foldsAgain 13 = .ok (.istore_n 3, 1) := by decide +kernel
theorem dX6_foldsAgain_14 : decode cX6_foldsAgain 14 = .ok (.iload_n 3, 1) := by decide +kernel
theorem dX6_foldsAgain_15 : decode cX6_foldsAgain 15 = .ok (.ifCond .ne 7, 3) := by decide +kernel
theorem dX6_foldsAgain_18 : decode cX6_foldsAgain 18 = .ok (.aload_n 2, 1) := by decide +kernel
theorem dX6_foldsAgain_19 : decode cX6_foldsAgain 19 = .ok (.ifnonnull 5, 3) := by decide +kernel
theorem dX6_foldsAgain_22 : decode cX6_foldsAgain 22 = .ok (.iload_n 3, 1) := by decide +kernel
theorem dX6_foldsAgain_23 : decode cX6_foldsAgain 23 = .ok (.ireturn, 1) := by decide +kernel
theorem dX6_foldsAgain_24 : decode cX6_foldsAgain 24 = .ok (.aload_n 0, 1) := by decide +kernel
theorem dX6_foldsAgain_25 : decode cX6_foldsAgain 25 = .ok (.getfield 46, 3) := by decide +kernel
theorem dX6_foldsAgain_28 : decode cX6_foldsAgain 28 = .ok (.aload_n 2, 1) := by decide +kernel
theorem dX6_foldsAgain_29 : decode cX6_foldsAgain 29 = .ok (.iconst 1, 1) := by decide +kernel
theorem dX6_foldsAgain_30 : decode cX6_foldsAgain 30 = .ok (.invokevirtual 184, 3) := by decide +kernel
theorem dX6_isCreaseKind_0 : decode cX6_isCreaseKind 0 = .ok (.iload_n 0, 1) := by decide +kernel
theorem dX6_isCreaseKind_1 : decode cX6_isCreaseKind 1 = .ok (.ifCond .eq 13, 3) := by decide +kernel
theorem dX6_isCreaseKind_4 : decode cX6_isCreaseKind 4 = .ok (.iload_n 0, 1) := by decide +kernel
theorem dX6_isCreaseKind_5 : decode cX6_isCreaseKind 5 = .ok (.iconst 1, 1) := by decide +kernel
theorem dX6_isCreaseKind_6 : decode cX6_isCreaseKind 6 = .ok (.if_icmp .eq 8, 3) := by decide +kernel
theorem dX6_isCreaseKind_9 : decode cX6_isCreaseKind 9 = .ok (.iload_n 0, 1) := by decide +kernel
theorem dX6_isCreaseKind_10 : decode cX6_isCreaseKind 10 = .ok (.iconst 2, 1) := by decide +kernel
theorem dX6_isCreaseKind_11 : decode cX6_isCreaseKind 11 = .ok (.if_icmp .ne 7, 3) := by decide +kernel
theorem dX6_isCreaseKind_14 : decode cX6_isCreaseKind 14 = .ok (.iconst 1, 1) := by decide +kernel
theorem dX6_isCreaseKind_15 : decode cX6_isCreaseKind 15 = .ok (.goto 4, 3) := by decide +kernel
theorem dX6_isCreaseKind_18 : decode cX6_isCreaseKind 18 = .ok (.iconst 0, 1) := by decide +kernel
theorem dX6_isCreaseKind_19 : decode cX6_isCreaseKind 19 = .ok (.ireturn, 1) := by decide +kernel
theorem dX6_join_0 : decode cX6_join 0 = .ok (.aload_n 0, 1) := by decide +kernel
theorem dX6_join_1 : decode cX6_join 1 = .ok (.getfield 10, 3) := by decide +kernel
theorem dX6_join_4 : decode cX6_join 4 = .ok (.iload_n 1, 1) := by decide +kernel
theorem dX6_join_5 : decode cX6_join 5 = .ok (.invokevirtual 94, 3) := by decide +kernel
theorem dX6_join_8 : decode cX6_join 8 = .ok (.astore 4, 2) := by decide +kernel
theorem dX6_join_10 : decode cX6_join 10 = .ok (.aload_n 0, 1) := by decide +kernel
theorem dX6_join_11 : decode cX6_join 11 = .ok (.getfield 10, 3) := by decide +kernel
theorem dX6_join_14 : decode cX6_join 14 = .ok (.iload_n 2, 1) := by decide +kernel
theorem dX6_join_15 : decode cX6_join 15 = .ok (.invokevirtual 94, 3) := by decide +kernel
theorem dX6_join_18 : decode cX6_join 18 = .ok (.astore 5, 2) := by decide +kernel
theorem dX6_join_20 : decode cX6_join 20 = .ok (.aload 4, 2) := by decide +kernel
theorem dX6_join_22 : decode cX6_join 22 = .ok (.ifnull 13, 3) := by decide +kernel
theorem dX6_join_25 : decode cX6_join 25 = .ok (.aload 5, 2) := by decide +kernel
theorem dX6_join_27 : decode cX6_join 27 = .ok (.ifnull 8, 3) := by decide +kernel
theorem dX6_join_30 : decode cX6_join 30 = .ok (.iload_n 1, 1) := by decide +kernel
theorem dX6_join_31 : decode cX6_join 31 = .ok (.iload_n 2, 1) := by decide +kernel
theorem dX6_join_32 : decode cX6_join 32 = .ok (.if_icmp .ne 7, 3) := by decide +kernel
theorem dX6_join_35 : decode cX6_join 35 = .ok (.sipush (-1001), 3) := by decide +kernel
theorem dX6_join_38 : decode cX6_join 38 = .ok (.ireturn, 1) := by decide +kernel
theorem dX6_join_39 : decode cX6_join 39 = .ok (.iload_n 3, 1) := by decide +kernel
theorem dX6_join_40 : decode cX6_join 40 = .ok (.invokestatic 101, 3) := by decide +kernel
theorem dX6_join_43 : decode cX6_join 43 = .ok (.ifCond .ne 7, 3) := by decide +kernel
theorem dX6_join_46 : decode cX6_join 46 = .ok (.sipush (-1002), 3) := by decide +kernel
theorem dX6_join_49 : decode cX6_join 49 = .ok (.ireturn, 1) := by decide +kernel
theorem dX6_join_50 : decode cX6_join 50 = .ok (.aload 4, 2) := by decide +kernel
theorem dX6_join_52 : decode cX6_join 52 = .ok (.getfield 104, 3) := by decide +kernel
theorem dX6_join_55 : decode cX6_join 55 = .ok (.ifCond .ne 11, 3) := by decide +kernel
theorem dX6_join_58 : decode cX6_join 58 = .ok (.aload 5, 2) := by decide +kernel
theorem dX6_join_60 : decode cX6_join 60 = .ok (.getfield 104, 3) := by decide +kernel
theorem dX6_join_63 : decode cX6_join 63 = .ok (.ifCond .eq 22, 3) := by decide +kernel
theorem dX6_join_66 : decode cX6_join 66 = .ok (.aload_n 0, 1) := by decide +kernel
theorem dX6_join_67 : decode cX6_join 67 = .ok (.iconst 2, 1) := by decide +kernel
theorem dX6_join_68 : decode cX6_join 68 = .ok (.aload 4, 2) := by decide +kernel
theorem dX6_join_70 : decode cX6_join 70 = .ok (.getfield 104, 3) := by decide +kernel
theorem dX6_join_73 : decode cX6_join 73 = .ok (.ifCond .eq 7, 3) := by decide +kernel
theorem dX6_join_76 : decode cX6_join 76 = .ok (.iload_n 1, 1) := by decide +kernel
theorem dX6_join_77 : decode cX6_join 77 = .ok (.goto 4, 3) := by decide +kernel
theorem dX6_join_80 : decode cX6_join 80 = .ok (.iload_n 2, 1) := by decide +kernel
theorem dX6_join_81 : decode cX6_join 81 = .ok (.invokevirtual 68, 3) := by decide +kernel
theorem dX6_join_84 : decode cX6_join 84 = .ok (.ireturn, 1) := by decide +kernel
theorem dX6_join_85 : decode cX6_join 85 = .ok (.aload 4, 2) := by decide +kernel
theorem dX6_join_87 : decode cX6_join 87 = .ok (.getfield 130, 3) := by decide +kernel
theorem dX6_join_90 : decode cX6_join 90 = .ok (.ifCond .ne 11, 3) := by decide +kernel
theorem dX6_join_93 : decode cX6_join 93 = .ok (.aload 5, 2) := by decide +kernel
theorem dX6_join_95 : decode cX6_join 95 = .ok (.getfield 130, 3) := by decide +kernel
theorem dX6_join_98 : decode cX6_join 98 = .ok (.ifCond .eq 22, 3) := by decide +kernel
theorem dX6_join_101 : decode cX6_join 101 = .ok (.aload_n 0, 1) := by decide +kernel
theorem dX6_join_102 : decode cX6_join 102 = .ok (.iconst 3, 1) := by decide +kernel
theorem dX6_join_103 : decode cX6_join 103 = .ok (.aload 4, 2) := by decide +kernel
theorem dX6_join_105 : decode cX6_join 105 = .ok (.getfield 130, 3) := by decide +kernel
theorem dX6_join_108 : decode cX6_join 108 = .ok (.ifCond .eq 7, 3) := by decide +kernel
theorem dX6_join_111 : decode cX6_join 111 = .ok (.iload_n 1, 1) := by decide +kernel
theorem dX6_join_112 : decode cX6_join 112 = .ok (.goto 4, 3) := by decide +kernel
theorem dX6_join_115 : decode cX6_join 115 = .ok (.iload_n 2, 1) := by decide +kernel
theorem dX6_join_116 : decode cX6_join 116 = .ok (.invokevirtual 68, 3) := by decide +kernel
theorem dX6_join_119 : decode cX6_join 119 = .ok (.ireturn, 1) := by decide +kernel
theorem dX6_join_120 : decode cX6_join 120 = .ok (.aload 4, 2) := by decide +kernel
theorem dX6_join_122 : decode cX6_join 122 = .ok (.getfield 143, 3) := by decide +kernel
theorem dX6_join_125 : decode cX6_join 125 = .ok (.aload 5, 2) := by decide +kernel
theorem dX6_join_127 : decode cX6_join 127 = .ok (.getfield 143, 3) := by decide +kernel
theorem dX6_join_130 : decode cX6_join 130 = .ok (.iadd, 1) := by decide +kernel
theorem dX6_join_131 : decode cX6_join 131 = .ok (.istore 6, 2) := by decide +kernel
theorem dX6_join_133 : decode cX6_join 133 = .ok (.iload 6, 2) := by decide +kernel
theorem dX6_join_135 : decode cX6_join 135 = .ok (.bipush 7, 2) := by decide +kernel
theorem dX6_join_137 : decode cX6_join 137 = .ok (.if_icmp .le 12, 3) := by decide +kernel
theorem dX6_join_140 : decode cX6_join 140 = .ok (.aload_n 0, 1) := by decide +kernel
theorem dX6_join_141 : decode cX6_join 141 = .ok (.bipush 6, 2) := by decide +kernel
theorem dX6_join_143 : decode cX6_join 143 = .ok (.iload 6, 2) := by decide +kernel
theorem dX6_join_145 : decode cX6_join 145 = .ok (.invokevirtual 68, 3) := by decide +kernel
theorem dX6_join_148 : decode cX6_join 148 = .ok (.ireturn, 1) := by decide +kernel
theorem dX6_join_149 : decode cX6_join 149 = .ok (.aload_n 0, 1) := by decide +kernel
theorem dX6_join_150 : decode cX6_join 150 = .ok (.getfield 25, 3) := by decide +kernel
theorem dX6_join_153 : decode cX6_join 153 = .ok (.aload_n 0, 1) := by decide +kernel
theorem dX6_join_154 : decode cX6_join 154 = .ok (.getfield 10, 3) := by decide +kernel
theorem dX6_join_157 : decode cX6_join 157 = .ok (.invokevirtual 72, 3) := by decide +kernel
theorem dX6_join_160 : decode cX6_join 160 = .ok (.aload 4, 2) := by decide +kernel
theorem dX6_join_162 : decode cX6_join 162 = .ok (.aload 5, 2) := by decide +kernel
theorem dX6_join_164 : decode cX6_join 164 = .ok (.iload_n 3, 1) := by decide +kernel
theorem dX6_join_165 : decode cX6_join 165 = .ok (.invokevirtual 144, 3) := by decide +kernel
theorem dX6_join_168 : decode cX6_join 168 = .ok (.aload_n 0, 1) := by decide +kernel
theorem dX6_join_169 : decode cX6_join 169 = .ok (.getfield 10, 3) := by decide +kernel
theorem dX6_join_172 : decode cX6_join 172 = .ok (.iload_n 2, 1) := by decide +kernel
theorem dX6_join_173 : decode cX6_join 173 = .ok (.invokevirtual 147, 3) := by decide +kernel
theorem dX6_join_176 : decode cX6_join 176 = .ok (.iload 6, 2) := by decide +kernel
theorem dX6_join_178 : decode cX6_join 178 = .ok (.ireturn, 1) := by decide +kernel
theorem dX6_layer_0 : decode cX6_layer 0 = .ok (.aload_n 0, 1) := by decide +kernel
theorem dX6_layer_1 : decode cX6_layer 1 = .ok (.getfield 10, 3) := by decide +kernel
theorem dX6_layer_4 : decode cX6_layer 4 = .ok (.iload_n 1, 1) := by decide +kernel
theorem dX6_layer_5 : decode cX6_layer 5 = .ok (.invokevirtual 94, 3) := by decide +kernel
theorem dX6_layer_8 : decode cX6_layer 8 = .ok (.astore_n 3, 1) := by decide +kernel
theorem dX6_layer_9 : decode cX6_layer 9 = .ok (.aload_n 3, 1) := by decide +kernel
theorem dX6_layer_10 : decode cX6_layer 10 = .ok (.ifnonnull 7, 3) := by decide +kernel
theorem dX6_layer_13 : decode cX6_layer 13 = .ok (.sipush (-1001), 3) := by decide +kernel
theorem dX6_layer_16 : decode cX6_layer 16 = .ok (.ireturn, 1) := by decide +kernel
theorem dX6_layer_17 : decode cX6_layer 17 = .ok (.aload_n 3, 1) := by decide +kernel
theorem dX6_layer_18 : decode cX6_layer 18 = .ok (.getfield 130, 3) := by decide +kernel
theorem dX6_layer_21 : decode cX6_layer 21 = .ok (.ifCond .ne 19, 3) := by decide +kernel
theorem dX6_layer_40 : decode cX6_layer 40 = .ok (.aload_n 3, 1) := by decide +kernel
theorem dX6_layer_41 : decode cX6_layer 41 = .ok (.invokestatic 181, 3) := by decide +kernel
theorem dX6_layer_44 : decode cX6_layer 44 = .ok (.istore 4, 2) := by decide +kernel
theorem dX6_layer_46 : decode cX6_layer 46 = .ok (.iload 4, 2) := by decide +kernel
theorem dX6_layer_48 : decode cX6_layer 48 = .ok (.ifCond .eq 6, 3) := by decide +kernel
theorem dX6_layer_54 : decode cX6_layer 54 = .ok (.aload_n 0, 1) := by decide +kernel
theorem dX6_layer_55 : decode cX6_layer 55 = .ok (.getfield 46, 3) := by decide +kernel
theorem dX6_layer_58 : decode cX6_layer 58 = .ok (.aload_n 3, 1) := by decide +kernel
theorem dX6_layer_59 : decode cX6_layer 59 = .ok (.iconst 1, 1) := by decide +kernel
theorem dX6_layer_60 : decode cX6_layer 60 = .ok (.invokevirtual 184, 3) := by decide +kernel
theorem dX6_mark_0 : decode cX6_mark 0 = .ok (.aload_n 0, 1) := by decide +kernel
theorem dX6_mark_1 : decode cX6_mark 1 = .ok (.getfield 10, 3) := by decide +kernel
theorem dX6_mark_4 : decode cX6_mark 4 = .ok (.iload_n 1, 1) := by decide +kernel
theorem dX6_mark_5 : decode cX6_mark 5 = .ok (.invokevirtual 94, 3) := by decide +kernel
theorem dX6_mark_8 : decode cX6_mark 8 = .ok (.astore 4, 2) := by decide +kernel
theorem dX6_mark_10 : decode cX6_mark 10 = .ok (.aload 4, 2) := by decide +kernel
theorem dX6_mark_12 : decode cX6_mark 12 = .ok (.ifnull 12, 3) := by decide +kernel
theorem dX6_mark_15 : decode cX6_mark 15 = .ok (.aload 4, 2) := by decide +kernel
theorem dX6_mark_17 : decode cX6_mark 17 = .ok (.iload_n 2, 1) := by decide +kernel
theorem dX6_mark_18 : decode cX6_mark 18 = .ok (.invokevirtual 98, 3) := by decide +kernel
theorem dX6_mark_21 : decode cX6_mark 21 = .ok (.ifCond .ne 7, 3) := by decide +kernel
theorem dX6_mark_24 : decode cX6_mark 24 = .ok (.sipush (-1001), 3) := by decide +kernel
theorem dX6_mark_27 : decode cX6_mark 27 = .ok (.ireturn, 1) := by decide +kernel
theorem dX6_mark_28 : decode cX6_mark 28 = .ok (.iload_n 3, 1) := by decide +kernel
theorem dX6_mark_29 : decode cX6_mark 29 = .ok (.invokestatic 101, 3) := by decide +kernel
theorem dX6_mark_32 : decode cX6_mark 32 = .ok (.ifCond .ne 7, 3) := by decide +kernel
theorem dX6_mark_35 : decode cX6_mark 35 = .ok (.sipush (-1002), 3) := by decide +kernel
theorem dX6_mark_38 : decode cX6_mark 38 = .ok (.ireturn, 1) := by decide +kernel
theorem dX6_mark_39 : decode cX6_mark 39 = .ok (.aload 4, 2) := by decide +kernel
theorem dX6_mark_41 : decode cX6_mark 41 = .ok (.getfield 104, 3) := by decide +kernel
theorem dX6_mark_44 : decode cX6_mark 44 = .ok (.ifCond .eq 10, 3) := by decide +kernel
theorem dX6_mark_47 : decode cX6_mark 47 = .ok (.aload_n 0, 1) := by decide +kernel
theorem dX6_mark_48 : decode cX6_mark 48 = .ok (.iconst 2, 1) := by decide +kernel
theorem dX6_mark_49 : decode cX6_mark 49 = .ok (.iload_n 1, 1) := by decide +kernel
theorem dX6_mark_50 : decode cX6_mark 50 = .ok (.invokevirtual 68, 3) := by decide +kernel
theorem dX6_mark_53 : decode cX6_mark 53 = .ok (.ireturn, 1) := by decide +kernel
theorem dX6_mark_54 : decode cX6_mark 54 = .ok (.aload_n 0, 1) := by decide +kernel
theorem dX6_mark_55 : decode cX6_mark 55 = .ok (.getfield 25, 3) := by decide +kernel
theorem dX6_mark_58 : decode cX6_mark 58 = .ok (.aload_n 0, 1) := by decide +kernel
theorem dX6_mark_59 : decode cX6_mark 59 = .ok (.getfield 10, 3) := by decide +kernel
theorem dX6_mark_62 : decode cX6_mark 62 = .ok (.invokevirtual 72, 3) := by decide +kernel
theorem dX6_mark_65 : decode cX6_mark 65 = .ok (.aload 4, 2) := by decide +kernel
theorem dX6_mark_67 : decode cX6_mark 67 = .ok (.getfield 108, 3) := by decide +kernel
theorem dX6_mark_70 : decode cX6_mark 70 = .ok (.iload_n 2, 1) := by decide +kernel
theorem dX6_mark_71 : decode cX6_mark 71 = .ok (.invokestatic 112, 3) := by decide +kernel
theorem dX6_mark_74 : decode cX6_mark 74 = .ok (.istore 5, 2) := by decide +kernel
theorem dX6_mark_76 : decode cX6_mark 76 = .ok (.aload 4, 2) := by decide +kernel
theorem dX6_mark_78 : decode cX6_mark 78 = .ok (.getfield 108, 3) := by decide +kernel
theorem dX6_mark_81 : decode cX6_mark 81 = .ok (.iload_n 2, 1) := by decide +kernel
theorem dX6_mark_82 : decode cX6_mark 82 = .ok (.iload_n 3, 1) := by decide +kernel
theorem dX6_mark_83 : decode cX6_mark 83 = .ok (.invokestatic 116, 3) := by decide +kernel
theorem dX6_mark_86 : decode cX6_mark 86 = .ok (.iload 5, 2) := by decide +kernel
theorem dX6_mark_88 : decode cX6_mark 88 = .ok (.ireturn, 1) := by decide +kernel
theorem dX6_orders_0 : decode cX6_orders 0 = .ok (.aload_n 0, 1) := by decide +kernel
theorem dX6_orders_1 : decode cX6_orders 1 = .ok (.getfield 10, 3) := by decide +kernel
theorem dX6_orders_4 : decode cX6_orders 4 = .ok (.iload_n 1, 1) := by decide +kernel
theorem dX6_orders_5 : decode cX6_orders 5 = .ok (.invokevirtual 94, 3) := by decide +kernel
theorem dX6_orders_8 : decode cX6_orders 8 = .ok (.astore_n 2, 1) := by decide +kernel
theorem dX6_orders_9 : decode cX6_orders 9 = .ok (.aload_n 2, 1) := by decide +kernel
theorem dX6_orders_10 : decode cX6_orders 10 = .ok (.invokestatic 181, 3) := by decide +kernel
theorem dX6_orders_13 : decode cX6_orders 13 = .ok (.istore_n 3, 1) := by decide +kernel
theorem dX6_orders_14 : decode cX6_orders 14 = .ok (.iload_n 3, 1) := by decide +kernel
theorem dX6_orders_15 : decode cX6_orders 15 = .ok (.ifCond .ne 7, 3) := by decide +kernel
theorem dX6_orders_18 : decode cX6_orders 18 = .ok (.aload_n 2, 1) := by decide +kernel
theorem dX6_orders_19 : decode cX6_orders 19 = .ok (.ifnonnull 5, 3) := by decide +kernel
theorem dX6_orders_22 : decode cX6_orders 22 = .ok (.iload_n 3, 1) := by decide +kernel
theorem dX6_orders_23 : decode cX6_orders 23 = .ok (.ireturn, 1) := by decide +kernel
theorem dX6_orders_24 : decode cX6_orders 24 = .ok (.aload_n 0, 1) := by decide +kernel
theorem dX6_orders_25 : decode cX6_orders 25 = .ok (.getfield 46, 3) := by decide +kernel
theorem dX6_orders_28 : decode cX6_orders 28 = .ok (.aload_n 2, 1) := by decide +kernel
theorem dX6_orders_29 : decode cX6_orders 29 = .ok (.ldc 209, 2) := by decide +kernel
theorem dX6_perform_0 : decode cX6_perform 0 = .ok (.aload_n 0, 1) := by decide +kernel
theorem dX6_perform_1 : decode cX6_perform 1 = .ok (.getfield 32, 3) := by decide +kernel
theorem dX6_perform_4 : decode cX6_perform 4 = .ok (.getfield 276, 3) := by decide +kernel
theorem dX6_perform_7 : decode cX6_perform 7 = .ok (.tableswitch 223 99 120 #[125, 223, 223, 187, 223, 223, 223, 223, 223, 223, 149, 223, 223, 223, 223, 223, 101, 175, 199, 223, 223, 211], 101) := by decide +kernel
theorem dX6_perform_108 : decode cX6_perform 108 = .ok (.aload_n 0, 1) := by decide +kernel
theorem dX6_perform_109 : decode cX6_perform 109 = .ok (.aload_n 0, 1) := by decide +kernel
theorem dX6_perform_110 : decode cX6_perform 110 = .ok (.iconst 0, 1) := by decide +kernel
theorem dX6_perform_111 : decode cX6_perform 111 = .ok (.aload_n 0, 1) := by decide +kernel
theorem dX6_perform_112 : decode cX6_perform 112 = .ok (.getfield 32, 3) := by decide +kernel
theorem dX6_perform_115 : decode cX6_perform 115 = .ok (.getfield 279, 3) := by decide +kernel
theorem dX6_perform_118 : decode cX6_perform 118 = .ok (.aload_n 0, 1) := by decide +kernel
theorem dX6_perform_119 : decode cX6_perform 119 = .ok (.getfield 32, 3) := by decide +kernel
theorem dX6_perform_122 : decode cX6_perform 122 = .ok (.getfield 282, 3) := by decide +kernel
theorem dX6_perform_125 : decode cX6_perform 125 = .ok (.invokevirtual 284, 3) := by decide +kernel
theorem dX6_perform_128 : decode cX6_perform 128 = .ok (.invokevirtual 288, 3) := by decide +kernel
theorem dX6_perform_131 : decode cX6_perform 131 = .ok (.ireturn, 1) := by decide +kernel
theorem dX6_perform_132 : decode cX6_perform 132 = .ok (.aload_n 0, 1) := by decide +kernel
theorem dX6_perform_133 : decode cX6_perform 133 = .ok (.aload_n 0, 1) := by decide +kernel
theorem dX6_perform_134 : decode cX6_perform 134 = .ok (.iconst 1, 1) := by decide +kernel
theorem dX6_perform_135 : decode cX6_perform 135 = .ok (.aload_n 0, 1) := by decide +kernel
theorem dX6_perform_136 : decode cX6_perform 136 = .ok (.getfield 32, 3) := by decide +kernel
theorem dX6_perform_139 : decode cX6_perform 139 = .ok (.getfield 279, 3) := by decide +kernel
theorem dX6_perform_142 : decode cX6_perform 142 = .ok (.aload_n 0, 1) := by decide +kernel
theorem dX6_perform_143 : decode cX6_perform 143 = .ok (.getfield 32, 3) := by decide +kernel
theorem dX6_perform_146 : decode cX6_perform 146 = .ok (.getfield 282, 3) := by decide +kernel
theorem dX6_perform_149 : decode cX6_perform 149 = .ok (.invokevirtual 284, 3) := by decide +kernel
theorem dX6_perform_152 : decode cX6_perform 152 = .ok (.invokevirtual 288, 3) := by decide +kernel
theorem dX6_perform_155 : decode cX6_perform 155 = .ok (.ireturn, 1) := by decide +kernel
theorem dX6_perform_156 : decode cX6_perform 156 = .ok (.aload_n 0, 1) := by decide +kernel
theorem dX6_perform_157 : decode cX6_perform 157 = .ok (.aload_n 0, 1) := by decide +kernel
theorem dX6_perform_158 : decode cX6_perform 158 = .ok (.getfield 32, 3) := by decide +kernel
theorem dX6_perform_161 : decode cX6_perform 161 = .ok (.getfield 279, 3) := by decide +kernel
theorem dX6_perform_164 : decode cX6_perform 164 = .ok (.aload_n 0, 1) := by decide +kernel
theorem dX6_perform_165 : decode cX6_perform 165 = .ok (.getfield 32, 3) := by decide +kernel
theorem dX6_perform_168 : decode cX6_perform 168 = .ok (.getfield 282, 3) := by decide +kernel
theorem dX6_perform_171 : decode cX6_perform 171 = .ok (.aload_n 0, 1) := by decide +kernel
theorem dX6_perform_172 : decode cX6_perform 172 = .ok (.getfield 32, 3) := by decide +kernel
theorem dX6_perform_175 : decode cX6_perform 175 = .ok (.getfield 291, 3) := by decide +kernel
theorem dX6_perform_178 : decode cX6_perform 178 = .ok (.invokevirtual 294, 3) := by decide +kernel
theorem dX6_perform_181 : decode cX6_perform 181 = .ok (.ireturn, 1) := by decide +kernel
theorem dX6_perform_182 : decode cX6_perform 182 = .ok (.aload_n 0, 1) := by decide +kernel
theorem dX6_perform_183 : decode cX6_perform 183 = .ok (.aload_n 0, 1) := by decide +kernel
theorem dX6_perform_184 : decode cX6_perform 184 = .ok (.getfield 32, 3) := by decide +kernel
theorem dX6_perform_187 : decode cX6_perform 187 = .ok (.getfield 279, 3) := by decide +kernel
theorem dX6_perform_190 : decode cX6_perform 190 = .ok (.invokevirtual 297, 3) := by decide +kernel
theorem dX6_perform_193 : decode cX6_perform 193 = .ok (.ireturn, 1) := by decide +kernel
theorem dX6_perform_194 : decode cX6_perform 194 = .ok (.aload_n 0, 1) := by decide +kernel
theorem dX6_perform_195 : decode cX6_perform 195 = .ok (.aload_n 0, 1) := by decide +kernel
theorem dX6_perform_196 : decode cX6_perform 196 = .ok (.getfield 32, 3) := by decide +kernel
theorem dX6_perform_199 : decode cX6_perform 199 = .ok (.getfield 279, 3) := by decide +kernel
theorem dX6_perform_202 : decode cX6_perform 202 = .ok (.invokevirtual 300, 3) := by decide +kernel
theorem dX6_perform_205 : decode cX6_perform 205 = .ok (.ireturn, 1) := by decide +kernel
theorem dX6_perform_206 : decode cX6_perform 206 = .ok (.aload_n 0, 1) := by decide +kernel
theorem dX6_perform_207 : decode cX6_perform 207 = .ok (.aload_n 0, 1) := by decide +kernel
theorem dX6_perform_208 : decode cX6_perform 208 = .ok (.getfield 32, 3) := by decide +kernel
theorem dX6_perform_211 : decode cX6_perform 211 = .ok (.getfield 279, 3) := by decide +kernel
theorem dX6_perform_214 : decode cX6_perform 214 = .ok (.invokevirtual 303, 3) := by decide +kernel
theorem dX6_perform_217 : decode cX6_perform 217 = .ok (.ireturn, 1) := by decide +kernel
theorem dX6_perform_218 : decode cX6_perform 218 = .ok (.aload_n 0, 1) := by decide +kernel
theorem dX6_perform_219 : decode cX6_perform 219 = .ok (.aload_n 0, 1) := by decide +kernel
theorem dX6_perform_220 : decode cX6_perform 220 = .ok (.getfield 32, 3) := by decide +kernel
theorem dX6_perform_223 : decode cX6_perform 223 = .ok (.getfield 279, 3) := by decide +kernel
theorem dX6_perform_226 : decode cX6_perform 226 = .ok (.invokevirtual 306, 3) := by decide +kernel
theorem dX6_perform_229 : decode cX6_perform 229 = .ok (.ireturn, 1) := by decide +kernel
theorem dX6_perform_230 : decode cX6_perform 230 = .ok (.sipush (-1002), 3) := by decide +kernel
theorem dX6_perform_233 : decode cX6_perform 233 = .ok (.ireturn, 1) := by decide +kernel
theorem dX6_piece_0 : decode cX6_piece 0 = .ok (.aload_n 0, 1) := by decide +kernel
theorem dX6_piece_1 : decode cX6_piece 1 = .ok (.getfield 10, 3) := by decide +kernel
theorem dX6_piece_4 : decode cX6_piece 4 = .ok (.iload_n 1, 1) := by decide +kernel
theorem dX6_piece_5 : decode cX6_piece 5 = .ok (.invokevirtual 94, 3) := by decide +kernel
theorem dX6_piece_8 : decode cX6_piece 8 = .ok (.astore_n 3, 1) := by decide +kernel
theorem dX6_piece_9 : decode cX6_piece 9 = .ok (.aload_n 3, 1) := by decide +kernel
theorem dX6_piece_10 : decode cX6_piece 10 = .ok (.ifnonnull 7, 3) := by decide +kernel
theorem dX6_piece_13 : decode cX6_piece 13 = .ok (.sipush (-1001), 3) := by decide +kernel
theorem dX6_piece_16 : decode cX6_piece 16 = .ok (.ireturn, 1) := by decide +kernel
theorem dX6_piece_17 : decode cX6_piece 17 = .ok (.iload_n 2, 1) := by decide +kernel
theorem dX6_piece_18 : decode cX6_piece 18 = .ok (.tableswitch 106 0 8 #[50, 55, 60, 65, 71, 77, 83, 88, 101], 50) := by decide +kernel
theorem dX6_piece_68 : decode cX6_piece 68 = .ok (.aload_n 3, 1) := by decide +kernel
theorem dX6_piece_69 : decode cX6_piece 69 = .ok (.getfield 130, 3) := by decide +kernel
theorem dX6_piece_72 : decode cX6_piece 72 = .ok (.ireturn, 1) := by decide +kernel
theorem dX6_piece_73 : decode cX6_piece 73 = .ok (.aload_n 3, 1) := by decide +kernel
theorem dX6_piece_74 : decode cX6_piece 74 = .ok (.getfield 143, 3) := by decide +kernel
theorem dX6_piece_77 : decode cX6_piece 77 = .ok (.ireturn, 1) := by decide +kernel
theorem dX6_piece_78 : decode cX6_piece 78 = .ok (.aload_n 3, 1) := by decide +kernel
theorem dX6_piece_79 : decode cX6_piece 79 = .ok (.invokevirtual 123, 3) := by decide +kernel
theorem dX6_piece_82 : decode cX6_piece 82 = .ok (.ireturn, 1) := by decide +kernel
theorem dX6_piece_83 : decode cX6_piece 83 = .ok (.aload_n 3, 1) := by decide +kernel
theorem dX6_piece_84 : decode cX6_piece 84 = .ok (.iconst 1, 1) := by decide +kernel
theorem dX6_piece_85 : decode cX6_piece 85 = .ok (.invokevirtual 126, 3) := by decide +kernel
theorem dX6_piece_88 : decode cX6_piece 88 = .ok (.ireturn, 1) := by decide +kernel
theorem dX6_piece_89 : decode cX6_piece 89 = .ok (.aload_n 3, 1) := by decide +kernel
theorem dX6_piece_90 : decode cX6_piece 90 = .ok (.iconst 2, 1) := by decide +kernel
theorem dX6_piece_91 : decode cX6_piece 91 = .ok (.invokevirtual 126, 3) := by decide +kernel
theorem dX6_piece_94 : decode cX6_piece 94 = .ok (.ireturn, 1) := by decide +kernel
theorem dX6_piece_95 : decode cX6_piece 95 = .ok (.aload_n 3, 1) := by decide +kernel
theorem dX6_piece_96 : decode cX6_piece 96 = .ok (.iconst 0, 1) := by decide +kernel
theorem dX6_piece_97 : decode cX6_piece 97 = .ok (.invokevirtual 126, 3) := by decide +kernel
theorem dX6_piece_100 : decode cX6_piece 100 = .ok (.ireturn, 1) := by decide +kernel
theorem dX6_piece_101 : decode cX6_piece 101 = .ok (.aload_n 3, 1) := by decide +kernel
theorem dX6_piece_102 : decode cX6_piece 102 = .ok (.invokevirtual 175, 3) := by decide +kernel
theorem dX6_piece_105 : decode cX6_piece 105 = .ok (.ireturn, 1) := by decide +kernel
theorem dX6_piece_106 : decode cX6_piece 106 = .ok (.aload_n 3, 1) := by decide +kernel
theorem dX6_piece_107 : decode cX6_piece 107 = .ok (.getfield 104, 3) := by decide +kernel
theorem dX6_piece_110 : decode cX6_piece 110 = .ok (.ifCond .eq 7, 3) := by decide +kernel
theorem dX6_piece_113 : decode cX6_piece 113 = .ok (.iconst 1, 1) := by decide +kernel
theorem dX6_piece_114 : decode cX6_piece 114 = .ok (.goto 4, 3) := by decide +kernel
theorem dX6_piece_117 : decode cX6_piece 117 = .ok (.iconst 0, 1) := by decide +kernel
theorem dX6_piece_118 : decode cX6_piece 118 = .ok (.ireturn, 1) := by decide +kernel
theorem dX6_piece_119 : decode cX6_piece 119 = .ok (.aload_n 3, 1) := by decide +kernel
theorem dX6_piece_120 : decode cX6_piece 120 = .ok (.invokevirtual 170, 3) := by decide +kernel
theorem dX6_piece_123 : decode cX6_piece 123 = .ok (.ireturn, 1) := by decide +kernel
theorem dX6_piece_124 : decode cX6_piece 124 = .ok (.sipush (-1002), 3) := by decide +kernel
theorem dX6_piece_127 : decode cX6_piece 127 = .ok (.ireturn, 1) := by decide +kernel
theorem dX6_place_0 : decode cX6_place 0 = .ok (.aload_n 0, 1) := by decide +kernel
theorem dX6_place_1 : decode cX6_place 1 = .ok (.getfield 10, 3) := by decide +kernel
theorem dX6_place_4 : decode cX6_place 4 = .ok (.iload_n 1, 1) := by decide +kernel
theorem dX6_place_5 : decode cX6_place 5 = .ok (.invokevirtual 94, 3) := by decide +kernel
theorem dX6_place_8 : decode cX6_place 8 = .ok (.astore_n 3, 1) := by decide +kernel
theorem dX6_place_9 : decode cX6_place 9 = .ok (.aload_n 3, 1) := by decide +kernel
theorem dX6_place_10 : decode cX6_place 10 = .ok (.ifnonnull 7, 3) := by decide +kernel
theorem dX6_place_13 : decode cX6_place 13 = .ok (.sipush (-1001), 3) := by decide +kernel
theorem dX6_place_16 : decode cX6_place 16 = .ok (.ireturn, 1) := by decide +kernel
theorem dX6_place_17 : decode cX6_place 17 = .ok (.aload_n 3, 1) := by decide +kernel
theorem dX6_place_18 : decode cX6_place 18 = .ok (.getfield 130, 3) := by decide +kernel
theorem dX6_place_21 : decode cX6_place 21 = .ok (.ifCond .eq 7, 3) := by decide +kernel
theorem dX6_place_24 : decode cX6_place 24 = .ok (.sipush (-1002), 3) := by decide +kernel
theorem dX6_place_27 : decode cX6_place 27 = .ok (.ireturn, 1) := by decide +kernel
theorem dX6_place_28 : decode cX6_place 28 = .ok (.iload_n 2, 1) := by decide +kernel
theorem dX6_place_29 : decode cX6_place 29 = .ok (.ifCond .lt 11, 3) := by decide +kernel
theorem dX6_place_32 : decode cX6_place 32 = .ok (.iload_n 2, 1) := by decide +kernel
theorem dX6_place_33 : decode cX6_place 33 = .ok (.aload_n 3, 1) := by decide +kernel
theorem dX6_place_34 : decode cX6_place 34 = .ok (.getfield 143, 3) := by decide +kernel
theorem dX6_place_37 : decode cX6_place 37 = .ok (.if_icmp .le 7, 3) := by decide +kernel
theorem dX6_place_40 : decode cX6_place 40 = .ok (.sipush (-1001), 3) := by decide +kernel
theorem dX6_place_43 : decode cX6_place 43 = .ok (.ireturn, 1) := by decide +kernel
theorem dX6_place_44 : decode cX6_place 44 = .ok (.aload_n 3, 1) := by decide +kernel
theorem dX6_place_45 : decode cX6_place 45 = .ok (.iload_n 2, 1) := by decide +kernel
theorem dX6_place_46 : decode cX6_place 46 = .ok (.invokevirtual 203, 3) := by decide +kernel
theorem dX6_place_49 : decode cX6_place 49 = .ok (.ireturn, 1) := by decide +kernel
theorem dX6_put_0 : decode cX6_put 0 = .ok (.iload_n 1, 1) := by decide +kernel
theorem dX6_put_1 : decode cX6_put 1 = .ok (.ifCond .lt 13, 3) := by decide +kernel
theorem dX6_put_4 : decode cX6_put 4 = .ok (.iload_n 1, 1) := by decide +kernel
theorem dX6_put_5 : decode cX6_put 5 = .ok (.aload_n 0, 1) := by decide +kernel
theorem dX6_put_6 : decode cX6_put 6 = .ok (.arraylength, 1) := by decide +kernel
theorem dX6_put_7 : decode cX6_put 7 = .ok (.if_icmp .ge 7, 3) := by decide +kernel
theorem dX6_put_10 : decode cX6_put 10 = .ok (.aload_n 0, 1) := by decide +kernel
theorem dX6_put_11 : decode cX6_put 11 = .ok (.iload_n 1, 1) := by decide +kernel
theorem dX6_put_12 : decode cX6_put 12 = .ok (.iload_n 2, 1) := by decide +kernel
theorem dX6_put_13 : decode cX6_put 13 = .ok (.iastore, 1) := by decide +kernel
theorem dX6_put_14 : decode cX6_put 14 = .ok (.return_, 1) := by decide +kernel
theorem dX6_read_0 : decode cX6_read 0 = .ok (.aload_n 0, 1) := by decide +kernel
theorem dX6_read_1 : decode cX6_read 1 = .ok (.getfield 32, 3) := by decide +kernel
theorem dX6_read_4 : decode cX6_read 4 = .ok (.invokevirtual 222, 3) := by decide +kernel
theorem dX6_read_7 : decode cX6_read 7 = .ok (.istore_n 1, 1) := by decide +kernel
theorem dX6_read_8 : decode cX6_read 8 = .ok (.iload_n 1, 1) := by decide +kernel
theorem dX6_read_9 : decode cX6_read 9 = .ok (.sipush (-1004), 3) := by decide +kernel
theorem dX6_read_12 : decode cX6_read 12 = .ok (.if_icmp .eq 16, 3) := by decide +kernel
theorem dX6_read_15 : decode cX6_read 15 = .ok (.aload_n 0, 1) := by decide +kernel
theorem dX6_read_16 : decode cX6_read 16 = .ok (.getfield 32, 3) := by decide +kernel
theorem dX6_read_19 : decode cX6_read 19 = .ok (.invokevirtual 225, 3) := by decide +kernel
theorem dX6_read_22 : decode cX6_read 22 = .ok (.sipush (-2000), 3) := by decide +kernel
theorem dX6_read_25 : decode cX6_read 25 = .ok (.iload_n 1, 1) := by decide +kernel
theorem dX6_read_26 : decode cX6_read 26 = .ok (.isub, 1) := by decide +kernel
theorem dX6_read_27 : decode cX6_read 27 = .ok (.ireturn, 1) := by decide +kernel
theorem dX6_read_28 : decode cX6_read 28 = .ok (.aload_n 0, 1) := by decide +kernel
theorem dX6_read_29 : decode cX6_read 29 = .ok (.getfield 16, 3) := by decide +kernel
theorem dX6_read_32 : decode cX6_read 32 = .ok (.aload_n 0, 1) := by decide +kernel
theorem dX6_read_33 : decode cX6_read 33 = .ok (.getfield 10, 3) := by decide +kernel
theorem dX6_read_36 : decode cX6_read 36 = .ok (.invokevirtual 228, 3) := by decide +kernel
theorem dX6_read_39 : decode cX6_read 39 = .ok (.aload_n 0, 1) := by decide +kernel
theorem dX6_read_40 : decode cX6_read 40 = .ok (.getfield 25, 3) := by decide +kernel
theorem dX6_read_43 : decode cX6_read 43 = .ok (.iconst 1, 1) := by decide +kernel
theorem dX6_read_44 : decode cX6_read 44 = .ok (.putfield 230, 3) := by decide +kernel
theorem dX6_read_47 : decode cX6_read 47 = .ok (.aload_n 0, 1) := by decide +kernel
theorem dX6_read_48 : decode cX6_read 48 = .ok (.getfield 32, 3) := by decide +kernel
theorem dX6_read_51 : decode cX6_read 51 = .ok (.invokevirtual 233, 3) := by decide +kernel
theorem dX6_read_54 : decode cX6_read 54 = .ok (.iconst 0, 1) := by decide +kernel
theorem dX6_read_55 : decode cX6_read 55 = .ok (.istore_n 2, 1) := by decide +kernel
theorem dX6_read_56 : decode cX6_read 56 = .ok (.iconst 0, 1) := by decide +kernel
theorem dX6_read_57 : decode cX6_read 57 = .ok (.istore_n 3, 1) := by decide +kernel
theorem dX6_read_58 : decode cX6_read 58 = .ok (.iload_n 2, 1) := by decide +kernel
theorem dX6_read_59 : decode cX6_read 59 = .ok (.bipush 80, 2) := by decide +kernel
theorem dX6_read_61 : decode cX6_read 61 = .ok (.if_icmp .ge 43, 3) := by decide +kernel
theorem dX6_read_64 : decode cX6_read 64 = .ok (.iload_n 3, 1) := by decide +kernel
theorem dX6_read_65 : decode cX6_read 65 = .ok (.ifCond .lt 39, 3) := by decide +kernel
theorem dX6_read_68 : decode cX6_read 68 = .ok (.aload_n 0, 1) := by decide +kernel
theorem dX6_read_69 : decode cX6_read 69 = .ok (.getfield 32, 3) := by decide +kernel
theorem dX6_read_72 : decode cX6_read 72 = .ok (.invokevirtual 236, 3) := by decide +kernel
theorem dX6_read_75 : decode cX6_read 75 = .ok (.ifCond .eq 29, 3) := by decide +kernel
theorem dX6_read_78 : decode cX6_read 78 = .ok (.aload_n 0, 1) := by decide +kernel
theorem dX6_read_79 : decode cX6_read 79 = .ok (.iload_n 2, 1) := by decide +kernel
theorem dX6_read_80 : decode cX6_read 80 = .ok (.putfield 57, 3) := by decide +kernel
theorem dX6_read_83 : decode cX6_read 83 = .ok (.aload_n 0, 1) := by decide +kernel
theorem dX6_read_84 : decode cX6_read 84 = .ok (.invokevirtual 239, 3) := by decide +kernel
theorem dX6_read_87 : decode cX6_read 87 = .ok (.istore_n 3, 1) := by decide +kernel
theorem dX6_read_88 : decode cX6_read 88 = .ok (.iinc 2 1, 3) := by decide +kernel
theorem dX6_read_91 : decode cX6_read 91 = .ok (.aload_n 0, 1) := by decide +kernel
theorem dX6_read_92 : decode cX6_read 92 = .ok (.getfield 32, 3) := by decide +kernel
theorem dX6_read_95 : decode cX6_read 95 = .ok (.bipush 59, 2) := by decide +kernel
theorem dX6_read_97 : decode cX6_read 97 = .ok (.invokevirtual 242, 3) := by decide +kernel
theorem dX6_read_100 : decode cX6_read 100 = .ok (.pop, 1) := by decide +kernel
theorem dX6_read_101 : decode cX6_read 101 = .ok (.goto (-43), 3) := by decide +kernel
theorem dX6_read_104 : decode cX6_read 104 = .ok (.aload_n 0, 1) := by decide +kernel
theorem dX6_read_105 : decode cX6_read 105 = .ok (.sipush (-1004), 3) := by decide +kernel
theorem dX6_read_108 : decode cX6_read 108 = .ok (.putfield 57, 3) := by decide +kernel
theorem dX6_read_111 : decode cX6_read 111 = .ok (.aload_n 0, 1) := by decide +kernel
theorem dX6_read_112 : decode cX6_read 112 = .ok (.getfield 25, 3) := by decide +kernel
theorem dX6_read_115 : decode cX6_read 115 = .ok (.iconst 0, 1) := by decide +kernel
theorem dX6_read_116 : decode cX6_read 116 = .ok (.putfield 230, 3) := by decide +kernel
theorem dX6_read_119 : decode cX6_read 119 = .ok (.aload_n 0, 1) := by decide +kernel
theorem dX6_read_120 : decode cX6_read 120 = .ok (.getfield 32, 3) := by decide +kernel
theorem dX6_read_123 : decode cX6_read 123 = .ok (.invokevirtual 225, 3) := by decide +kernel
theorem dX6_read_126 : decode cX6_read 126 = .ok (.iload_n 3, 1) := by decide +kernel
theorem dX6_read_127 : decode cX6_read 127 = .ok (.ifCond .ge 31, 3) := by decide +kernel
theorem dX6_read_130 : decode cX6_read 130 = .ok (.aload_n 0, 1) := by decide +kernel
theorem dX6_read_131 : decode cX6_read 131 = .ok (.getfield 10, 3) := by decide +kernel
theorem dX6_read_134 : decode cX6_read 134 = .ok (.aload_n 0, 1) := by decide +kernel
theorem dX6_read_135 : decode cX6_read 135 = .ok (.getfield 16, 3) := by decide +kernel
theorem dX6_read_138 : decode cX6_read 138 = .ok (.invokevirtual 228, 3) := by decide +kernel
theorem dX6_read_141 : decode cX6_read 141 = .ok (.iload_n 3, 1) := by decide +kernel
theorem dX6_read_142 : decode cX6_read 142 = .ok (.sipush (-1003), 3) := by decide +kernel
theorem dX6_read_145 : decode cX6_read 145 = .ok (.if_icmp .ne 9, 3) := by decide +kernel
theorem dX6_read_148 : decode cX6_read 148 = .ok (.sipush (-1003), 3) := by decide +kernel
theorem dX6_read_151 : decode cX6_read 151 = .ok (.goto 6, 3) := by decide +kernel
theorem dX6_read_154 : decode cX6_read 154 = .ok (.sipush (-1002), 3) := by decide +kernel
theorem dX6_read_157 : decode cX6_read 157 = .ok (.ireturn, 1) := by decide +kernel
theorem dX6_read_158 : decode cX6_read 158 = .ok (.aload_n 0, 1) := by decide +kernel
theorem dX6_read_159 : decode cX6_read 159 = .ok (.getfield 25, 3) := by decide +kernel
theorem dX6_read_162 : decode cX6_read 162 = .ok (.aload_n 0, 1) := by decide +kernel
theorem dX6_read_163 : decode cX6_read 163 = .ok (.getfield 16, 3) := by decide +kernel
theorem dX6_read_166 : decode cX6_read 166 = .ok (.invokevirtual 72, 3) := by decide +kernel
theorem dX6_read_169 : decode cX6_read 169 = .ok (.iload_n 2, 1) := by decide +kernel
theorem dX6_read_170 : decode cX6_read 170 = .ok (.ireturn, 1) := by decide +kernel
theorem dX6_reflected_0 : decode cX6_reflected 0 = .ok (.aload_n 0, 1) := by decide +kernel
theorem dX6_reflected_1 : decode cX6_reflected 1 = .ok (.getfield 10, 3) := by decide +kernel
theorem dX6_reflected_4 : decode cX6_reflected 4 = .ok (.iload_n 1, 1) := by decide +kernel
theorem dX6_reflected_5 : decode cX6_reflected 5 = .ok (.invokevirtual 94, 3) := by decide +kernel
theorem dX6_reflected_8 : decode cX6_reflected 8 = .ok (.astore_n 2, 1) := by decide +kernel
theorem dX6_reflected_9 : decode cX6_reflected 9 = .ok (.aload_n 2, 1) := by decide +kernel
theorem dX6_reflected_10 : decode cX6_reflected 10 = .ok (.ifnonnull 7, 3) := by decide +kernel
theorem dX6_reflected_13 : decode cX6_reflected 13 = .ok (.sipush (-1001), 3) := by decide +kernel
theorem dX6_reflected_16 : decode cX6_reflected 16 = .ok (.ireturn, 1) := by decide +kernel
theorem dX6_reflected_17 : decode cX6_reflected 17 = .ok (.aload_n 2, 1) := by decide +kernel
theorem dX6_reflected_18 : decode cX6_reflected 18 = .ok (.getfield 130, 3) := by decide +kernel
theorem dX6_reflected_21 : decode cX6_reflected 21 = .ok (.iconst 1, 1) := by decide +kernel
theorem dX6_reflected_22 : decode cX6_reflected 22 = .ok (.if_icmp .eq 9, 3) := by decide +kernel
theorem dX6_reflected_31 : decode cX6_reflected 31 = .ok (.aload_n 2, 1) := by decide +kernel
theorem dX6_reflected_32 : decode cX6_reflected 32 = .ok (.invokevirtual 213, 3) := by decide +kernel
theorem dX6_refusal_0 : decode cX6_refusal 0 = .ok (.iload_n 1, 1) := by decide +kernel
theorem dX6_refusal_1 : decode cX6_refusal 1 = .ok (.ifCond .lt 8, 3) := by decide +kernel
theorem dX6_refusal_4 : decode cX6_refusal 4 = .ok (.iload_n 1, 1) := by decide +kernel
theorem dX6_refusal_5 : decode cX6_refusal 5 = .ok (.iconst 2, 1) := by decide +kernel
theorem dX6_refusal_6 : decode cX6_refusal 6 = .ok (.if_icmp .le 7, 3) := by decide +kernel
theorem dX6_refusal_9 : decode cX6_refusal 9 = .ok (.sipush (-1002), 3) := by decide +kernel
theorem dX6_refusal_12 : decode cX6_refusal 12 = .ok (.ireturn, 1) := by decide +kernel
theorem dX6_refusal_13 : decode cX6_refusal 13 = .ok (.aload_n 0, 1) := by decide +kernel
theorem dX6_refusal_14 : decode cX6_refusal 14 = .ok (.getfield 246, 3) := by decide +kernel
theorem dX6_refusal_17 : decode cX6_refusal 17 = .ok (.ifCond .ne 7, 3) := by decide +kernel
theorem dX6_refusal_20 : decode cX6_refusal 20 = .ok (.sipush (-1004), 3) := by decide +kernel
theorem dX6_refusal_23 : decode cX6_refusal 23 = .ok (.ireturn, 1) := by decide +kernel
theorem dX6_refusal_24 : decode cX6_refusal 24 = .ok (.iload_n 1, 1) := by decide +kernel
theorem dX6_refusal_25 : decode cX6_refusal 25 = .ok (.ifCond .ne 8, 3) := by decide +kernel
theorem dX6_refusal_28 : decode cX6_refusal 28 = .ok (.aload_n 0, 1) := by decide +kernel
theorem dX6_refusal_29 : decode cX6_refusal 29 = .ok (.getfield 246, 3) := by decide +kernel
theorem dX6_refusal_32 : decode cX6_refusal 32 = .ok (.ireturn, 1) := by decide +kernel
theorem dX6_refusal_33 : decode cX6_refusal 33 = .ok (.iload_n 1, 1) := by decide +kernel
theorem dX6_refusal_34 : decode cX6_refusal 34 = .ok (.iconst 1, 1) := by decide +kernel
theorem dX6_refusal_35 : decode cX6_refusal 35 = .ok (.if_icmp .ne 10, 3) := by decide +kernel
theorem dX6_refusal_38 : decode cX6_refusal 38 = .ok (.aload_n 0, 1) := by decide +kernel
theorem dX6_refusal_39 : decode cX6_refusal 39 = .ok (.getfield 249, 3) := by decide +kernel
theorem dX6_refusal_42 : decode cX6_refusal 42 = .ok (.goto 7, 3) := by decide +kernel
theorem dX6_refusal_45 : decode cX6_refusal 45 = .ok (.aload_n 0, 1) := by decide +kernel
theorem dX6_refusal_46 : decode cX6_refusal 46 = .ok (.getfield 61, 3) := by decide +kernel
theorem dX6_refusal_49 : decode cX6_refusal 49 = .ok (.ireturn, 1) := by decide +kernel
theorem dX6_refuse_0 : decode cX6_refuse 0 = .ok (.aload_n 0, 1) := by decide +kernel
theorem dX6_refuse_1 : decode cX6_refuse 1 = .ok (.iload_n 1, 1) := by decide +kernel
theorem dX6_refuse_2 : decode cX6_refuse 2 = .ok (.putfield 246, 3) := by decide +kernel
theorem dX6_refuse_5 : decode cX6_refuse 5 = .ok (.aload_n 0, 1) := by decide +kernel
theorem dX6_refuse_6 : decode cX6_refuse 6 = .ok (.iload_n 2, 1) := by decide +kernel
theorem dX6_refuse_7 : decode cX6_refuse 7 = .ok (.putfield 249, 3) := by decide +kernel
theorem dX6_refuse_10 : decode cX6_refuse 10 = .ok (.aload_n 0, 1) := by decide +kernel
theorem dX6_refuse_11 : decode cX6_refuse 11 = .ok (.aload_n 0, 1) := by decide +kernel
theorem dX6_refuse_12 : decode cX6_refuse 12 = .ok (.getfield 57, 3) := by decide +kernel
theorem dX6_refuse_15 : decode cX6_refuse 15 = .ok (.putfield 61, 3) := by decide +kernel
theorem dX6_refuse_18 : decode cX6_refuse 18 = .ok (.sipush (-1003), 3) := by decide +kernel
theorem dX6_refuse_21 : decode cX6_refuse 21 = .ok (.ireturn, 1) := by decide +kernel
theorem dX6_restore_0 : decode cX6_restore 0 = .ok (.aload_n 0, 1) := by decide +kernel
theorem dX6_restore_1 : decode cX6_restore 1 = .ok (.getfield 272, 3) := by decide +kernel
theorem dX6_restore_4 : decode cX6_restore 4 = .ok (.ifCond .ne 7, 3) := by decide +kernel
theorem dX6_restore_7 : decode cX6_restore 7 = .ok (.sipush (-1004), 3) := by decide +kernel
theorem dX6_restore_10 : decode cX6_restore 10 = .ok (.ireturn, 1) := by decide +kernel
theorem dX6_restore_11 : decode cX6_restore 11 = .ok (.aload_n 0, 1) := by decide +kernel
theorem dX6_restore_12 : decode cX6_restore 12 = .ok (.getfield 10, 3) := by decide +kernel
theorem dX6_restore_15 : decode cX6_restore 15 = .ok (.aload_n 0, 1) := by decide +kernel
theorem dX6_restore_16 : decode cX6_restore 16 = .ok (.getfield 19, 3) := by decide +kernel
theorem dX6_restore_19 : decode cX6_restore 19 = .ok (.invokevirtual 228, 3) := by decide +kernel
theorem dX6_restore_22 : decode cX6_restore 22 = .ok (.aload_n 0, 1) := by decide +kernel
theorem dX6_restore_23 : decode cX6_restore 23 = .ok (.getfield 25, 3) := by decide +kernel
theorem dX6_restore_26 : decode cX6_restore 26 = .ok (.invokevirtual 275, 3) := by decide +kernel
theorem dX6_restore_29 : decode cX6_restore 29 = .ok (.aload_n 0, 1) := by decide +kernel
theorem dX6_restore_30 : decode cX6_restore 30 = .ok (.getfield 10, 3) := by decide +kernel
theorem dX6_restore_33 : decode cX6_restore 33 = .ok (.getfield 87, 3) := by decide +kernel
theorem dX6_restore_36 : decode cX6_restore 36 = .ok (.ireturn, 1) := by decide +kernel
theorem dX6_rotate_0 : decode cX6_rotate 0 = .ok (.aload_n 0, 1) := by decide +kernel
theorem dX6_rotate_1 : decode cX6_rotate 1 = .ok (.getfield 10, 3) := by decide +kernel
theorem dX6_rotate_4 : decode cX6_rotate 4 = .ok (.iload_n 1, 1) := by decide +kernel
theorem dX6_rotate_5 : decode cX6_rotate 5 = .ok (.invokevirtual 94, 3) := by decide +kernel
theorem dX6_rotate_8 : decode cX6_rotate 8 = .ok (.astore_n 3, 1) := by decide +kernel
theorem dX6_rotate_9 : decode cX6_rotate 9 = .ok (.aload_n 3, 1) := by decide +kernel
theorem dX6_rotate_10 : decode cX6_rotate 10 = .ok (.ifnull 11, 3) := by decide +kernel
theorem dX6_rotate_13 : decode cX6_rotate 13 = .ok (.aload_n 3, 1) := by decide +kernel
theorem dX6_rotate_14 : decode cX6_rotate 14 = .ok (.iload_n 2, 1) := by decide +kernel
theorem dX6_rotate_15 : decode cX6_rotate 15 = .ok (.invokevirtual 98, 3) := by decide +kernel
theorem dX6_rotate_18 : decode cX6_rotate 18 = .ok (.ifCond .ne 7, 3) := by decide +kernel
theorem dX6_rotate_21 : decode cX6_rotate 21 = .ok (.sipush (-1001), 3) := by decide +kernel
theorem dX6_rotate_24 : decode cX6_rotate 24 = .ok (.ireturn, 1) := by decide +kernel
theorem dX6_rotate_25 : decode cX6_rotate 25 = .ok (.aload_n 3, 1) := by decide +kernel
theorem dX6_rotate_26 : decode cX6_rotate 26 = .ok (.getfield 104, 3) := by decide +kernel
theorem dX6_rotate_29 : decode cX6_rotate 29 = .ok (.ifCond .eq 10, 3) := by decide +kernel
theorem dX6_rotate_32 : decode cX6_rotate 32 = .ok (.aload_n 0, 1) := by decide +kernel
theorem dX6_rotate_33 : decode cX6_rotate 33 = .ok (.iconst 2, 1) := by decide +kernel
theorem dX6_rotate_34 : decode cX6_rotate 34 = .ok (.iload_n 1, 1) := by decide +kernel
theorem dX6_rotate_35 : decode cX6_rotate 35 = .ok (.invokevirtual 68, 3) := by decide +kernel
theorem dX6_rotate_38 : decode cX6_rotate 38 = .ok (.ireturn, 1) := by decide +kernel
theorem dX6_rotate_39 : decode cX6_rotate 39 = .ok (.aload_n 3, 1) := by decide +kernel
theorem dX6_rotate_40 : decode cX6_rotate 40 = .ok (.getfield 130, 3) := by decide +kernel
theorem dX6_rotate_43 : decode cX6_rotate 43 = .ok (.iconst 1, 1) := by decide +kernel
theorem dX6_rotate_44 : decode cX6_rotate 44 = .ok (.if_icmp .eq 10, 3) := by decide +kernel
theorem dX6_rotate_47 : decode cX6_rotate 47 = .ok (.aload_n 0, 1) := by decide +kernel
theorem dX6_rotate_48 : decode cX6_rotate 48 = .ok (.iconst 3, 1) := by decide +kernel
theorem dX6_rotate_49 : decode cX6_rotate 49 = .ok (.iload_n 1, 1) := by decide +kernel
theorem dX6_rotate_50 : decode cX6_rotate 50 = .ok (.invokevirtual 68, 3) := by decide +kernel
theorem dX6_rotate_53 : decode cX6_rotate 53 = .ok (.ireturn, 1) := by decide +kernel
theorem dX6_rotate_54 : decode cX6_rotate 54 = .ok (.aload_n 0, 1) := by decide +kernel
theorem dX6_rotate_55 : decode cX6_rotate 55 = .ok (.getfield 25, 3) := by decide +kernel
theorem dX6_rotate_58 : decode cX6_rotate 58 = .ok (.aload_n 0, 1) := by decide +kernel
theorem dX6_rotate_59 : decode cX6_rotate 59 = .ok (.getfield 10, 3) := by decide +kernel
theorem dX6_rotate_62 : decode cX6_rotate 62 = .ok (.invokevirtual 72, 3) := by decide +kernel
theorem dX6_rotate_65 : decode cX6_rotate 65 = .ok (.aload_n 0, 1) := by decide +kernel
theorem dX6_rotate_66 : decode cX6_rotate 66 = .ok (.getfield 53, 3) := by decide +kernel
theorem dX6_rotate_69 : decode cX6_rotate 69 = .ok (.aload_n 3, 1) := by decide +kernel
theorem dX6_rotate_70 : decode cX6_rotate 70 = .ok (.invokevirtual 133, 3) := by decide +kernel
theorem dX6_rotate_73 : decode cX6_rotate 73 = .ok (.aload_n 3, 1) := by decide +kernel
theorem dX6_rotate_74 : decode cX6_rotate 74 = .ok (.aload_n 0, 1) := by decide +kernel
theorem dX6_rotate_75 : decode cX6_rotate 75 = .ok (.getfield 53, 3) := by decide +kernel
theorem dX6_rotate_78 : decode cX6_rotate 78 = .ok (.iload_n 2, 1) := by decide +kernel
theorem dX6_rotate_79 : decode cX6_rotate 79 = .ok (.invokevirtual 136, 3) := by decide +kernel
theorem dX6_rotate_82 : decode cX6_rotate 82 = .ok (.aload_n 3, 1) := by decide +kernel
theorem dX6_rotate_83 : decode cX6_rotate 83 = .ok (.invokevirtual 140, 3) := by decide +kernel
theorem dX6_rotate_86 : decode cX6_rotate 86 = .ok (.ireturn, 1) := by decide +kernel
theorem dX6_save_0 : decode cX6_save 0 = .ok (.aload_n 0, 1) := by decide +kernel
theorem dX6_save_1 : decode cX6_save 1 = .ok (.getfield 19, 3) := by decide +kernel
theorem dX6_save_4 : decode cX6_save 4 = .ok (.aload_n 0, 1) := by decide +kernel
theorem dX6_save_5 : decode cX6_save 5 = .ok (.getfield 10, 3) := by decide +kernel
theorem dX6_save_8 : decode cX6_save 8 = .ok (.invokevirtual 228, 3) := by decide +kernel
theorem dX6_save_11 : decode cX6_save 11 = .ok (.aload_n 0, 1) := by decide +kernel
theorem dX6_save_12 : decode cX6_save 12 = .ok (.iconst 1, 1) := by decide +kernel
theorem dX6_save_13 : decode cX6_save 13 = .ok (.putfield 272, 3) := by decide +kernel
theorem dX6_save_16 : decode cX6_save 16 = .ok (.aload_n 0, 1) := by decide +kernel
theorem dX6_save_17 : decode cX6_save 17 = .ok (.getfield 10, 3) := by decide +kernel
theorem dX6_save_20 : decode cX6_save 20 = .ok (.getfield 87, 3) := by decide +kernel
theorem dX6_save_23 : decode cX6_save 23 = .ok (.ireturn, 1) := by decide +kernel
theorem dX6_share_0 : decode cX6_share 0 = .ok (.aload_n 0, 1) := by decide +kernel
theorem dX6_share_1 : decode cX6_share 1 = .ok (.getfield 10, 3) := by decide +kernel
theorem dX6_share_4 : decode cX6_share 4 = .ok (.iconst 1, 1) := by decide +kernel
theorem dX6_share_5 : decode cX6_share 5 = .ok (.invokevirtual 261, 3) := by decide +kernel
theorem dX6_share_8 : decode cX6_share 8 = .ok (.aload_n 0, 1) := by decide +kernel
theorem dX6_share_9 : decode cX6_share 9 = .ok (.getfield 10, 3) := by decide +kernel
theorem dX6_share_12 : decode cX6_share 12 = .ok (.iconst 2, 1) := by decide +kernel
theorem dX6_share_13 : decode cX6_share 13 = .ok (.invokevirtual 261, 3) := by decide +kernel
theorem dX6_share_16 : decode cX6_share 16 = .ok (.iadd, 1) := by decide +kernel
theorem dX6_share_17 : decode cX6_share 17 = .ok (.istore_n 1, 1) := by decide +kernel
theorem dX6_share_18 : decode cX6_share 18 = .ok (.iload_n 1, 1) := by decide +kernel
theorem dX6_share_19 : decode cX6_share 19 = .ok (.aload_n 0, 1) := by decide +kernel
theorem dX6_share_20 : decode cX6_share 20 = .ok (.getfield 10, 3) := by decide +kernel
theorem dX6_share_23 : decode cX6_share 23 = .ok (.iconst 0, 1) := by decide +kernel
theorem dX6_share_24 : decode cX6_share 24 = .ok (.invokevirtual 261, 3) := by decide +kernel
theorem dX6_share_27 : decode cX6_share 27 = .ok (.iadd, 1) := by decide +kernel
theorem dX6_share_28 : decode cX6_share 28 = .ok (.istore_n 2, 1) := by decide +kernel
theorem dX6_share_29 : decode cX6_share 29 = .ok (.iload_n 2, 1) := by decide +kernel
theorem dX6_share_30 : decode cX6_share 30 = .ok (.ifCond .gt 7, 3) := by decide +kernel
theorem dX6_share_37 : decode cX6_share 37 = .ok (.iload_n 1, 1) := by decide +kernel
theorem dX6_share_38 : decode cX6_share 38 = .ok (.i2f, 1) := by decide +kernel
theorem dX6_size_0 : decode cX6_size 0 = .ok (.aload_n 0, 1) := by decide +kernel
theorem dX6_size_1 : decode cX6_size 1 = .ok (.getfield 10, 3) := by decide +kernel
theorem dX6_size_4 : decode cX6_size 4 = .ok (.iload_n 1, 1) := by decide +kernel
theorem dX6_size_5 : decode cX6_size 5 = .ok (.invokevirtual 94, 3) := by decide +kernel
theorem dX6_size_8 : decode cX6_size 8 = .ok (.astore_n 3, 1) := by decide +kernel
theorem dX6_size_9 : decode cX6_size 9 = .ok (.aload_n 3, 1) := by decide +kernel
theorem dX6_size_10 : decode cX6_size 10 = .ok (.ifnull 15, 3) := by decide +kernel
theorem dX6_size_13 : decode cX6_size 13 = .ok (.iload_n 2, 1) := by decide +kernel
theorem dX6_size_14 : decode cX6_size 14 = .ok (.ifCond .lt 11, 3) := by decide +kernel
theorem dX6_size_17 : decode cX6_size 17 = .ok (.iload_n 2, 1) := by decide +kernel
theorem dX6_size_18 : decode cX6_size 18 = .ok (.aload_n 3, 1) := by decide +kernel
theorem dX6_size_19 : decode cX6_size 19 = .ok (.getfield 143, 3) := by decide +kernel
theorem dX6_size_22 : decode cX6_size 22 = .ok (.if_icmp .lt 7, 3) := by decide +kernel
theorem dX6_size_25 : decode cX6_size 25 = .ok (.sipush (-1001), 3) := by decide +kernel
theorem dX6_size_28 : decode cX6_size 28 = .ok (.ireturn, 1) := by decide +kernel
theorem dX6_size_29 : decode cX6_size 29 = .ok (.aload_n 3, 1) := by decide +kernel
theorem dX6_size_30 : decode cX6_size 30 = .ok (.getfield 178, 3) := by decide +kernel
theorem dX6_size_33 : decode cX6_size 33 = .ok (.iload_n 2, 1) := by decide +kernel
theorem dX6_size_34 : decode cX6_size 34 = .ok (.invokestatic 112, 3) := by decide +kernel
theorem dX6_size_37 : decode cX6_size 37 = .ok (.ireturn, 1) := by decide +kernel
theorem dX6_stage_0 : decode cX6_stage 0 = .ok (.iload_n 1, 1) := by decide +kernel
theorem dX6_stage_1 : decode cX6_stage 1 = .ok (.iconst 1, 1) := by decide +kernel
theorem dX6_stage_2 : decode cX6_stage 2 = .ok (.if_icmp .lt 9, 3) := by decide +kernel
theorem dX6_stage_5 : decode cX6_stage 5 = .ok (.iload_n 1, 1) := by decide +kernel
theorem dX6_stage_6 : decode cX6_stage 6 = .ok (.bipush 99, 2) := by decide +kernel
theorem dX6_stage_8 : decode cX6_stage 8 = .ok (.if_icmp .le 7, 3) := by decide +kernel
theorem dX6_stage_11 : decode cX6_stage 11 = .ok (.sipush (-1002), 3) := by decide +kernel
theorem dX6_stage_14 : decode cX6_stage 14 = .ok (.ireturn, 1) := by decide +kernel
theorem dX6_stage_15 : decode cX6_stage 15 = .ok (.aload_n 0, 1) := by decide +kernel
theorem dX6_stage_16 : decode cX6_stage 16 = .ok (.getfield 10, 3) := by decide +kernel
theorem dX6_stage_19 : decode cX6_stage 19 = .ok (.invokevirtual 64, 3) := by decide +kernel
theorem dX6_stage_22 : decode cX6_stage 22 = .ok (.iload_n 1, 1) := by decide +kernel
theorem dX6_stage_23 : decode cX6_stage 23 = .ok (.isub, 1) := by decide +kernel
theorem dX6_stage_24 : decode cX6_stage 24 = .ok (.istore_n 2, 1) := by decide +kernel
theorem dX6_stage_25 : decode cX6_stage 25 = .ok (.iload_n 2, 1) := by decide +kernel
theorem dX6_stage_26 : decode cX6_stage 26 = .ok (.ifCond .le 11, 3) := by decide +kernel
theorem dX6_stage_29 : decode cX6_stage 29 = .ok (.aload_n 0, 1) := by decide +kernel
theorem dX6_stage_30 : decode cX6_stage 30 = .ok (.bipush 7, 2) := by decide +kernel
theorem dX6_stage_32 : decode cX6_stage 32 = .ok (.iload_n 2, 1) := by decide +kernel
theorem dX6_stage_33 : decode cX6_stage 33 = .ok (.invokevirtual 68, 3) := by decide +kernel
theorem dX6_stage_36 : decode cX6_stage 36 = .ok (.ireturn, 1) := by decide +kernel
theorem dX6_stage_37 : decode cX6_stage 37 = .ok (.aload_n 0, 1) := by decide +kernel
theorem dX6_stage_38 : decode cX6_stage 38 = .ok (.getfield 25, 3) := by decide +kernel
theorem dX6_stage_41 : decode cX6_stage 41 = .ok (.aload_n 0, 1) := by decide +kernel
theorem dX6_stage_42 : decode cX6_stage 42 = .ok (.getfield 10, 3) := by decide +kernel
theorem dX6_stage_45 : decode cX6_stage 45 = .ok (.invokevirtual 72, 3) := by decide +kernel
theorem dX6_stage_48 : decode cX6_stage 48 = .ok (.aload_n 0, 1) := by decide +kernel
theorem dX6_stage_49 : decode cX6_stage 49 = .ok (.getfield 10, 3) := by decide +kernel
theorem dX6_stage_52 : decode cX6_stage 52 = .ok (.getfield 76, 3) := by decide +kernel
theorem dX6_stage_55 : decode cX6_stage 55 = .ok (.istore_n 3, 1) := by decide +kernel
theorem dX6_stage_56 : decode cX6_stage 56 = .ok (.aload_n 0, 1) := by decide +kernel
theorem dX6_stage_57 : decode cX6_stage 57 = .ok (.getfield 10, 3) := by decide +kernel
theorem dX6_stage_60 : decode cX6_stage 60 = .ok (.iload_n 1, 1) := by decide +kernel
theorem dX6_stage_61 : decode cX6_stage 61 = .ok (.putfield 76, 3) := by decide +kernel
theorem dX6_stage_64 : decode cX6_stage 64 = .ok (.iload_n 3, 1) := by decide +kernel
theorem dX6_stage_65 : decode cX6_stage 65 = .ok (.ireturn, 1) := by decide +kernel
theorem dX6_step_0 : decode cX6_step 0 = .ok (.aload_n 0, 1) := by decide +kernel
theorem dX6_step_1 : decode cX6_step 1 = .ok (.getfield 10, 3) := by decide +kernel
theorem dX6_step_4 : decode cX6_step 4 = .ok (.iload_n 1, 1) := by decide +kernel
theorem dX6_step_5 : decode cX6_step 5 = .ok (.invokevirtual 94, 3) := by decide +kernel
theorem dX6_step_8 : decode cX6_step 8 = .ok (.astore_n 2, 1) := by decide +kernel
theorem dX6_step_9 : decode cX6_step 9 = .ok (.aload_n 2, 1) := by decide +kernel
theorem dX6_step_10 : decode cX6_step 10 = .ok (.ifnonnull 7, 3) := by decide +kernel
theorem dX6_step_13 : decode cX6_step 13 = .ok (.sipush (-1001), 3) := by decide +kernel
theorem dX6_step_16 : decode cX6_step 16 = .ok (.ireturn, 1) := by decide +kernel
theorem dX6_step_17 : decode cX6_step 17 = .ok (.aload_n 2, 1) := by decide +kernel
theorem dX6_step_18 : decode cX6_step 18 = .ok (.invokevirtual 159, 3) := by decide +kernel
theorem dX6_step_21 : decode cX6_step 21 = .ok (.ifCond .eq 7, 3) := by decide +kernel
theorem dX6_step_24 : decode cX6_step 24 = .ok (.sipush (-1004), 3) := by decide +kernel
theorem dX6_step_27 : decode cX6_step 27 = .ok (.ireturn, 1) := by decide +kernel
theorem dX6_step_28 : decode cX6_step 28 = .ok (.aload_n 0, 1) := by decide +kernel
theorem dX6_step_29 : decode cX6_step 29 = .ok (.getfield 39, 3) := by decide +kernel
theorem dX6_step_32 : decode cX6_step 32 = .ok (.aload_n 2, 1) := by decide +kernel
theorem dX6_step_33 : decode cX6_step 33 = .ok (.invokevirtual 188, 3) := by decide +kernel
theorem dX6_step_36 : decode cX6_step 36 = .ok (.aload_n 0, 1) := by decide +kernel
theorem dX6_step_37 : decode cX6_step 37 = .ok (.getfield 39, 3) := by decide +kernel
theorem dX6_step_40 : decode cX6_step 40 = .ok (.invokevirtual 191, 3) := by decide +kernel
theorem dX6_step_43 : decode cX6_step 43 = .ok (.istore_n 3, 1) := by decide +kernel
theorem dX6_step_44 : decode cX6_step 44 = .ok (.iload_n 3, 1) := by decide +kernel
theorem dX6_step_45 : decode cX6_step 45 = .ok (.ifCond .ne 9, 3) := by decide +kernel
theorem dX6_step_48 : decode cX6_step 48 = .ok (.sipush (-1004), 3) := by decide +kernel
theorem dX6_step_51 : decode cX6_step 51 = .ok (.goto 4, 3) := by decide +kernel
theorem dX6_step_54 : decode cX6_step 54 = .ok (.iload_n 3, 1) := by decide +kernel
theorem dX6_step_55 : decode cX6_step 55 = .ok (.ireturn, 1) := by decide +kernel
theorem dX6_steps_0 : decode cX6_steps 0 = .ok (.aload_n 0, 1) := by decide +kernel
theorem dX6_steps_1 : decode cX6_steps 1 = .ok (.getfield 10, 3) := by decide +kernel
theorem dX6_steps_4 : decode cX6_steps 4 = .ok (.iload_n 1, 1) := by decide +kernel
theorem dX6_steps_5 : decode cX6_steps 5 = .ok (.invokevirtual 94, 3) := by decide +kernel
theorem dX6_steps_8 : decode cX6_steps 8 = .ok (.astore_n 2, 1) := by decide +kernel
theorem dX6_steps_9 : decode cX6_steps 9 = .ok (.aload_n 2, 1) := by decide +kernel
theorem dX6_steps_10 : decode cX6_steps 10 = .ok (.ifnonnull 7, 3) := by decide +kernel
theorem dX6_steps_13 : decode cX6_steps 13 = .ok (.sipush (-1001), 3) := by decide +kernel
theorem dX6_steps_16 : decode cX6_steps 16 = .ok (.ireturn, 1) := by decide +kernel
theorem dX6_steps_17 : decode cX6_steps 17 = .ok (.aload_n 2, 1) := by decide +kernel
theorem dX6_steps_18 : decode cX6_steps 18 = .ok (.invokevirtual 159, 3) := by decide +kernel
theorem dX6_steps_21 : decode cX6_steps 21 = .ok (.ifCond .eq 7, 3) := by decide +kernel
theorem dX6_steps_24 : decode cX6_steps 24 = .ok (.sipush (-1004), 3) := by decide +kernel
theorem dX6_steps_27 : decode cX6_steps 27 = .ok (.ireturn, 1) := by decide +kernel
theorem dX6_steps_28 : decode cX6_steps 28 = .ok (.aload_n 0, 1) := by decide +kernel
theorem dX6_steps_29 : decode cX6_steps 29 = .ok (.getfield 39, 3) := by decide +kernel
theorem dX6_steps_32 : decode cX6_steps 32 = .ok (.aload_n 2, 1) := by decide +kernel
theorem dX6_steps_33 : decode cX6_steps 33 = .ok (.invokevirtual 188, 3) := by decide +kernel
theorem dX6_steps_36 : decode cX6_steps 36 = .ok (.aload_n 0, 1) := by decide +kernel
theorem dX6_steps_37 : decode cX6_steps 37 = .ok (.getfield 39, 3) := by decide +kernel
theorem dX6_steps_40 : decode cX6_steps 40 = .ok (.invokevirtual 194, 3) := by decide +kernel
theorem dX6_steps_43 : decode cX6_steps 43 = .ok (.ireturn, 1) := by decide +kernel
theorem dX6_takeOut_0 : decode cX6_takeOut 0 = .ok (.iload_n 1, 1) := by decide +kernel
theorem dX6_takeOut_1 : decode cX6_takeOut 1 = .ok (.istore_n 2, 1) := by decide +kernel
theorem dX6_takeOut_2 : decode cX6_takeOut 2 = .ok (.iload_n 2, 1) := by decide +kernel
theorem dX6_takeOut_3 : decode cX6_takeOut 3 = .ok (.ifCond .lt 25, 3) := by decide +kernel
theorem dX6_takeOut_6 : decode cX6_takeOut 6 = .ok (.iload_n 2, 1) := by decide +kernel
theorem dX6_takeOut_7 : decode cX6_takeOut 7 = .ok (.aload_n 0, 1) := by decide +kernel
theorem dX6_takeOut_8 : decode cX6_takeOut 8 = .ok (.arraylength, 1) := by decide +kernel
theorem dX6_takeOut_9 : decode cX6_takeOut 9 = .ok (.iconst 1, 1) := by decide +kernel
theorem dX6_takeOut_10 : decode cX6_takeOut 10 = .ok (.isub, 1) := by decide +kernel
theorem dX6_takeOut_11 : decode cX6_takeOut 11 = .ok (.if_icmp .ge 17, 3) := by decide +kernel
theorem dX6_takeOut_14 : decode cX6_takeOut 14 = .ok (.aload_n 0, 1) := by decide +kernel
theorem dX6_takeOut_15 : decode cX6_takeOut 15 = .ok (.iload_n 2, 1) := by decide +kernel
theorem dX6_takeOut_16 : decode cX6_takeOut 16 = .ok (.aload_n 0, 1) := by decide +kernel
theorem dX6_takeOut_17 : decode cX6_takeOut 17 = .ok (.iload_n 2, 1) := by decide +kernel
theorem dX6_takeOut_18 : decode cX6_takeOut 18 = .ok (.iconst 1, 1) := by decide +kernel
theorem dX6_takeOut_19 : decode cX6_takeOut 19 = .ok (.iadd, 1) := by decide +kernel
theorem dX6_takeOut_20 : decode cX6_takeOut 20 = .ok (.iaload, 1) := by decide +kernel
theorem dX6_takeOut_21 : decode cX6_takeOut 21 = .ok (.iastore, 1) := by decide +kernel
theorem dX6_takeOut_22 : decode cX6_takeOut 22 = .ok (.iinc 2 1, 3) := by decide +kernel
theorem dX6_takeOut_25 : decode cX6_takeOut 25 = .ok (.goto (-23), 3) := by decide +kernel
theorem dX6_takeOut_28 : decode cX6_takeOut 28 = .ok (.return_, 1) := by decide +kernel
theorem dX6_thickest_0 : decode cX6_thickest 0 = .ok (.aload_n 0, 1) := by decide +kernel
theorem dX6_thickest_1 : decode cX6_thickest 1 = .ok (.getfield 10, 3) := by decide +kernel
theorem dX6_thickest_4 : decode cX6_thickest 4 = .ok (.iload_n 1, 1) := by decide +kernel
theorem dX6_thickest_5 : decode cX6_thickest 5 = .ok (.invokevirtual 94, 3) := by decide +kernel
theorem dX6_thickest_8 : decode cX6_thickest 8 = .ok (.astore_n 2, 1) := by decide +kernel
theorem dX6_thickest_9 : decode cX6_thickest 9 = .ok (.aload_n 2, 1) := by decide +kernel
theorem dX6_thickest_10 : decode cX6_thickest 10 = .ok (.ifnonnull 7, 3) := by decide +kernel
theorem dX6_thickest_13 : decode cX6_thickest 13 = .ok (.sipush (-1001), 3) := by decide +kernel
theorem dX6_thickest_16 : decode cX6_thickest 16 = .ok (.ireturn, 1) := by decide +kernel
theorem dX6_thickest_17 : decode cX6_thickest 17 = .ok (.aload_n 2, 1) := by decide +kernel
theorem dX6_thickest_18 : decode cX6_thickest 18 = .ok (.getfield 130, 3) := by decide +kernel
theorem dX6_thickest_21 : decode cX6_thickest 21 = .ok (.ifCond .eq 9, 3) := by decide +kernel
theorem dX6_thickest_24 : decode cX6_thickest 24 = .ok (.sipush (-1002), 3) := by decide +kernel
theorem dX6_thickest_27 : decode cX6_thickest 27 = .ok (.goto 7, 3) := by decide +kernel
theorem dX6_thickest_30 : decode cX6_thickest 30 = .ok (.aload_n 2, 1) := by decide +kernel
theorem dX6_thickest_31 : decode cX6_thickest 31 = .ok (.invokevirtual 210, 3) := by decide +kernel
theorem dX6_thickest_34 : decode cX6_thickest 34 = .ok (.ireturn, 1) := by decide +kernel
theorem dX6_turn_0 : decode cX6_turn 0 = .ok (.aload_n 0, 1) := by decide +kernel
theorem dX6_turn_1 : decode cX6_turn 1 = .ok (.getfield 10, 3) := by decide +kernel
theorem dX6_turn_4 : decode cX6_turn 4 = .ok (.iload_n 1, 1) := by decide +kernel
theorem dX6_turn_5 : decode cX6_turn 5 = .ok (.invokevirtual 94, 3) := by decide +kernel
theorem dX6_turn_8 : decode cX6_turn 8 = .ok (.astore_n 2, 1) := by decide +kernel
theorem dX6_turn_9 : decode cX6_turn 9 = .ok (.aload_n 2, 1) := by decide +kernel
theorem dX6_turn_10 : decode cX6_turn 10 = .ok (.ifnonnull 7, 3) := by decide +kernel
theorem dX6_turn_13 : decode cX6_turn 13 = .ok (.sipush (-1001), 3) := by decide +kernel
theorem dX6_turn_16 : decode cX6_turn 16 = .ok (.ireturn, 1) := by decide +kernel
theorem dX6_turn_17 : decode cX6_turn 17 = .ok (.aload_n 2, 1) := by decide +kernel
theorem dX6_turn_18 : decode cX6_turn 18 = .ok (.getfield 104, 3) := by decide +kernel
theorem dX6_turn_21 : decode cX6_turn 21 = .ok (.ifCond .eq 10, 3) := by decide +kernel
theorem dX6_turn_24 : decode cX6_turn 24 = .ok (.aload_n 0, 1) := by decide +kernel
theorem dX6_turn_25 : decode cX6_turn 25 = .ok (.iconst 2, 1) := by decide +kernel
theorem dX6_turn_26 : decode cX6_turn 26 = .ok (.iload_n 1, 1) := by decide +kernel
theorem dX6_turn_27 : decode cX6_turn 27 = .ok (.invokevirtual 68, 3) := by decide +kernel
theorem dX6_turn_30 : decode cX6_turn 30 = .ok (.ireturn, 1) := by decide +kernel
theorem dX6_turn_31 : decode cX6_turn 31 = .ok (.aload_n 0, 1) := by decide +kernel
theorem dX6_turn_32 : decode cX6_turn 32 = .ok (.getfield 25, 3) := by decide +kernel
theorem dX6_turn_35 : decode cX6_turn 35 = .ok (.aload_n 0, 1) := by decide +kernel
theorem dX6_turn_36 : decode cX6_turn 36 = .ok (.getfield 10, 3) := by decide +kernel
theorem dX6_turn_39 : decode cX6_turn 39 = .ok (.invokevirtual 72, 3) := by decide +kernel
theorem dX6_turn_42 : decode cX6_turn 42 = .ok (.aload_n 2, 1) := by decide +kernel
theorem dX6_turn_43 : decode cX6_turn 43 = .ok (.invokevirtual 120, 3) := by decide +kernel
theorem dX6_turn_46 : decode cX6_turn 46 = .ok (.aload_n 2, 1) := by decide +kernel
theorem dX6_turn_47 : decode cX6_turn 47 = .ok (.invokevirtual 123, 3) := by decide +kernel
theorem dX6_turn_50 : decode cX6_turn 50 = .ok (.aload_n 2, 1) := by decide +kernel
theorem dX6_turn_51 : decode cX6_turn 51 = .ok (.iconst 0, 1) := by decide +kernel
theorem dX6_turn_52 : decode cX6_turn 52 = .ok (.invokevirtual 126, 3) := by decide +kernel
theorem dX6_turn_55 : decode cX6_turn 55 = .ok (.isub, 1) := by decide +kernel
theorem dX6_turn_56 : decode cX6_turn 56 = .ok (.ireturn, 1) := by decide +kernel
theorem dX6_undo_0 : decode cX6_undo 0 = .ok (.aload_n 0, 1) := by decide +kernel
theorem dX6_undo_1 : decode cX6_undo 1 = .ok (.getfield 25, 3) := by decide +kernel
theorem dX6_undo_4 : decode cX6_undo 4 = .ok (.getfield 264, 3) := by decide +kernel
theorem dX6_undo_7 : decode cX6_undo 7 = .ok (.ifCond .gt 7, 3) := by decide +kernel
theorem dX6_undo_10 : decode cX6_undo 10 = .ok (.sipush (-1004), 3) := by decide +kernel
theorem dX6_undo_13 : decode cX6_undo 13 = .ok (.ireturn, 1) := by decide +kernel
theorem dX6_undo_14 : decode cX6_undo 14 = .ok (.aload_n 0, 1) := by decide +kernel
theorem dX6_undo_15 : decode cX6_undo 15 = .ok (.getfield 25, 3) := by decide +kernel
theorem dX6_undo_18 : decode cX6_undo 18 = .ok (.aload_n 0, 1) := by decide +kernel
theorem dX6_undo_19 : decode cX6_undo 19 = .ok (.getfield 10, 3) := by decide +kernel
theorem dX6_undo_22 : decode cX6_undo 22 = .ok (.invokevirtual 269, 3) := by decide +kernel
theorem dX6_undo_25 : decode cX6_undo 25 = .ok (.aload_n 0, 1) := by decide +kernel
theorem dX6_undo_26 : decode cX6_undo 26 = .ok (.getfield 25, 3) := by decide +kernel
theorem dX6_undo_29 : decode cX6_undo 29 = .ok (.getfield 264, 3) := by decide +kernel
theorem dX6_undo_32 : decode cX6_undo 32 = .ok (.ireturn, 1) := by decide +kernel
theorem dX6_unfold_0 : decode cX6_unfold 0 = .ok (.aload_n 0, 1) := by decide +kernel
theorem dX6_unfold_1 : decode cX6_unfold 1 = .ok (.getfield 10, 3) := by decide +kernel
theorem dX6_unfold_4 : decode cX6_unfold 4 = .ok (.iload_n 1, 1) := by decide +kernel
theorem dX6_unfold_5 : decode cX6_unfold 5 = .ok (.invokevirtual 94, 3) := by decide +kernel
theorem dX6_unfold_8 : decode cX6_unfold 8 = .ok (.astore_n 2, 1) := by decide +kernel
theorem dX6_unfold_9 : decode cX6_unfold 9 = .ok (.aload_n 2, 1) := by decide +kernel
theorem dX6_unfold_10 : decode cX6_unfold 10 = .ok (.ifnonnull 7, 3) := by decide +kernel
theorem dX6_unfold_13 : decode cX6_unfold 13 = .ok (.sipush (-1001), 3) := by decide +kernel
theorem dX6_unfold_16 : decode cX6_unfold 16 = .ok (.ireturn, 1) := by decide +kernel
theorem dX6_unfold_17 : decode cX6_unfold 17 = .ok (.aload_n 2, 1) := by decide +kernel
theorem dX6_unfold_18 : decode cX6_unfold 18 = .ok (.getfield 104, 3) := by decide +kernel
theorem dX6_unfold_21 : decode cX6_unfold 21 = .ok (.ifCond .ne 10, 3) := by decide +kernel
theorem dX6_unfold_24 : decode cX6_unfold 24 = .ok (.aload_n 0, 1) := by decide +kernel
theorem dX6_unfold_25 : decode cX6_unfold 25 = .ok (.iconst 2, 1) := by decide +kernel
theorem dX6_unfold_26 : decode cX6_unfold 26 = .ok (.iload_n 1, 1) := by decide +kernel
theorem dX6_unfold_27 : decode cX6_unfold 27 = .ok (.invokevirtual 68, 3) := by decide +kernel
theorem dX6_unfold_30 : decode cX6_unfold 30 = .ok (.ireturn, 1) := by decide +kernel
theorem dX6_unfold_31 : decode cX6_unfold 31 = .ok (.aload_n 0, 1) := by decide +kernel
theorem dX6_unfold_32 : decode cX6_unfold 32 = .ok (.getfield 25, 3) := by decide +kernel
theorem dX6_unfold_35 : decode cX6_unfold 35 = .ok (.aload_n 0, 1) := by decide +kernel
theorem dX6_unfold_36 : decode cX6_unfold 36 = .ok (.getfield 10, 3) := by decide +kernel
theorem dX6_unfold_39 : decode cX6_unfold 39 = .ok (.invokevirtual 72, 3) := by decide +kernel
theorem dX6_unfold_42 : decode cX6_unfold 42 = .ok (.aload_n 2, 1) := by decide +kernel
theorem dX6_unfold_43 : decode cX6_unfold 43 = .ok (.iconst 0, 1) := by decide +kernel
theorem dX6_unfold_44 : decode cX6_unfold 44 = .ok (.putfield 104, 3) := by decide +kernel
theorem dX6_unfold_47 : decode cX6_unfold 47 = .ok (.aload_n 0, 1) := by decide +kernel
theorem dX6_unfold_48 : decode cX6_unfold 48 = .ok (.getfield 10, 3) := by decide +kernel
theorem dX6_unfold_51 : decode cX6_unfold 51 = .ok (.getfield 76, 3) := by decide +kernel
theorem dX6_unfold_54 : decode cX6_unfold 54 = .ok (.aload_n 0, 1) := by decide +kernel
theorem dX6_unfold_55 : decode cX6_unfold 55 = .ok (.getfield 10, 3) := by decide +kernel
theorem dX6_unfold_58 : decode cX6_unfold 58 = .ok (.invokevirtual 64, 3) := by decide +kernel
theorem dX6_unfold_61 : decode cX6_unfold 61 = .ok (.isub, 1) := by decide +kernel
theorem dX6_unfold_62 : decode cX6_unfold 62 = .ok (.ireturn, 1) := by decide +kernel
theorem dX6_ways_0 : decode cX6_ways 0 = .ok (.aload_n 0, 1) := by decide +kernel
theorem dX6_ways_1 : decode cX6_ways 1 = .ok (.getfield 10, 3) := by decide +kernel
theorem dX6_ways_4 : decode cX6_ways 4 = .ok (.iload_n 1, 1) := by decide +kernel
theorem dX6_ways_5 : decode cX6_ways 5 = .ok (.invokevirtual 94, 3) := by decide +kernel
theorem dX6_ways_8 : decode cX6_ways 8 = .ok (.astore_n 2, 1) := by decide +kernel
theorem dX6_ways_9 : decode cX6_ways 9 = .ok (.aload_n 2, 1) := by decide +kernel
theorem dX6_ways_10 : decode cX6_ways 10 = .ok (.ifnonnull 9, 3) := by decide +kernel
theorem dX6_ways_13 : decode cX6_ways 13 = .ok (.sipush (-1001), 3) := by decide +kernel
theorem dX6_ways_16 : decode cX6_ways 16 = .ok (.goto 11, 3) := by decide +kernel
theorem dX6_ways_19 : decode cX6_ways 19 = .ok (.aload_n 0, 1) := by decide +kernel
theorem dX6_ways_20 : decode cX6_ways 20 = .ok (.getfield 39, 3) := by decide +kernel
theorem dX6_ways_23 : decode cX6_ways 23 = .ok (.aload_n 2, 1) := by decide +kernel
theorem dX6_ways_24 : decode cX6_ways 24 = .ok (.invokevirtual 197, 3) := by decide +kernel
theorem dX6_ways_27 : decode cX6_ways 27 = .ok (.ireturn, 1) := by decide +kernel
theorem dX6_why_0 : decode cX6_why 0 = .ok (.aload_n 0, 1) := by decide +kernel
theorem dX6_why_1 : decode cX6_why 1 = .ok (.getfield 10, 3) := by decide +kernel
theorem dX6_why_4 : decode cX6_why 4 = .ok (.iload_n 1, 1) := by decide +kernel
theorem dX6_why_5 : decode cX6_why 5 = .ok (.invokevirtual 94, 3) := by decide +kernel
theorem dX6_why_8 : decode cX6_why 8 = .ok (.astore_n 2, 1) := by decide +kernel
theorem dX6_why_9 : decode cX6_why 9 = .ok (.aload_n 2, 1) := by decide +kernel
theorem dX6_why_10 : decode cX6_why 10 = .ok (.ifnonnull 9, 3) := by decide +kernel
theorem dX6_why_13 : decode cX6_why 13 = .ok (.sipush (-1001), 3) := by decide +kernel
theorem dX6_why_16 : decode cX6_why 16 = .ok (.goto 11, 3) := by decide +kernel
theorem dX6_why_19 : decode cX6_why 19 = .ok (.aload_n 0, 1) := by decide +kernel
theorem dX6_why_20 : decode cX6_why 20 = .ok (.getfield 39, 3) := by decide +kernel
theorem dX6_why_23 : decode cX6_why 23 = .ok (.aload_n 2, 1) := by decide +kernel
theorem dX6_why_24 : decode cX6_why 24 = .ok (.invokevirtual 166, 3) := by decide +kernel
theorem dX6_why_27 : decode cX6_why 27 = .ok (.ireturn, 1) := by decide +kernel
theorem dX6_withCreasesAsTold_0 : decode cX6_withCreasesAsTold 0 = .ok (.aload_n 0, 1) := by decide +kernel
theorem dX6_withCreasesAsTold_1 : decode cX6_withCreasesAsTold 1 = .ok (.getfield 10, 3) := by decide +kernel
theorem dX6_withCreasesAsTold_4 : decode cX6_withCreasesAsTold 4 = .ok (.iload_n 1, 1) := by decide +kernel
theorem dX6_withCreasesAsTold_5 : decode cX6_withCreasesAsTold 5 = .ok (.invokevirtual 94, 3) := by decide +kernel
theorem dX6_withCreasesAsTold_8 : decode cX6_withCreasesAsTold 8 = .ok (.astore_n 2, 1) := by decide +kernel
theorem dX6_withCreasesAsTold_9 : decode cX6_withCreasesAsTold 9 = .ok (.aload_n 2, 1) := by decide +kernel
theorem dX6_withCreasesAsTold_10 : decode cX6_withCreasesAsTold 10 = .ok (.ifnonnull 5, 3) := by decide +kernel
theorem dX6_withCreasesAsTold_13 : decode cX6_withCreasesAsTold 13 = .ok (.iload_n 1, 1) := by decide +kernel
theorem dX6_withCreasesAsTold_14 : decode cX6_withCreasesAsTold 14 = .ok (.ireturn, 1) := by decide +kernel
theorem dX6_withCreasesAsTold_15 : decode cX6_withCreasesAsTold 15 = .ok (.aload_n 2, 1) := by decide +kernel
theorem dX6_withCreasesAsTold_16 : decode cX6_withCreasesAsTold 16 = .ok (.invokevirtual 123, 3) := by decide +kernel
theorem dX6_withCreasesAsTold_19 : decode cX6_withCreasesAsTold 19 = .ok (.aload_n 0, 1) := by decide +kernel
theorem dX6_withCreasesAsTold_20 : decode cX6_withCreasesAsTold 20 = .ok (.getfield 32, 3) := by decide +kernel
theorem dX6_withCreasesAsTold_23 : decode cX6_withCreasesAsTold 23 = .ok (.getfield 309, 3) := by decide +kernel
theorem dX6_withCreasesAsTold_26 : decode cX6_withCreasesAsTold 26 = .ok (.if_icmp .ne 7, 3) := by decide +kernel
theorem dX6_withCreasesAsTold_29 : decode cX6_withCreasesAsTold 29 = .ok (.iload_n 1, 1) := by decide +kernel
theorem dX6_withCreasesAsTold_30 : decode cX6_withCreasesAsTold 30 = .ok (.goto 6, 3) := by decide +kernel
theorem dX6_withCreasesAsTold_33 : decode cX6_withCreasesAsTold 33 = .ok (.sipush (-1002), 3) := by decide +kernel
theorem dX6_withCreasesAsTold_36 : decode cX6_withCreasesAsTold 36 = .ok (.ireturn, 1) := by decide +kernel
def q_7 : mQ := (yX6_stage, cX6_stage, 4, (some FieldType.int), 1, 6, 0, 0)
theorem qm_7 : mtL[7]? = some q_7 := rfl
def q_8 : mQ := (yX5_occupied, cX5_occupied, 4, (some FieldType.int), 0, 5, 0, 0)
theorem qm_8 : mtL[8]? = some q_8 := rfl
def q_9 : mQ := (yX5_pieceAt, cX5_pieceAt, 2, (some (FieldType.object "FoldedTheatre$Piece")), 1, 5, 0, 0)
theorem qm_9 : mtL[9]? = some q_9 := rfl
def q_10 : mQ := (yX2_width, cX2_width, 4, (some FieldType.int), 0, 2, 0, 0)
theorem qm_10 : mtL[10]? = some q_10 := rfl
def q_11 : mQ := (yX2_greatestSize, cX2_greatestSize, 3, (some FieldType.int), 0, 2, 0, 0)
theorem qm_11 : mtL[11]? = some q_11 := rfl
def q_12 : mQ := (yX6_at, cX6_at, 2, (some FieldType.int), 2, 6, 0, 0)
theorem qm_12 : mtL[12]? = some q_12 := rfl
def q_13 : mQ := (yX2_placeOf, cX2_placeOf, 4, (some FieldType.int), 1, 2, 0, 0)
theorem qm_13 : mtL[13]? = some q_13 := rfl
def q_14 : mQ := (yX6_refuse, cX6_refuse, 3, (some FieldType.int), 2, 6, 0, 0)
theorem qm_14 : mtL[14]? = some q_14 := rfl
def q_15 : mQ := (yX0_push, cX0_push, 3, none, 1, 0, 0, 0)
theorem qm_15 : mtL[15]? = some q_15 := rfl
def q_16 : mQ := (yX0_stateAt, cX0_stateAt, 2, (some (FieldType.object "FoldedTheatre$State")), 1, 0, 0, 0)
theorem qm_16 : mtL[16]? = some q_16 := rfl
def q_17 : mQ := (yX5_copyFrom, cX5_copyFrom, 5, none, 1, 5, 0, 0)
theorem qm_17 : mtL[17]? = some q_17 := rfl
def q_18 : mQ := (yX2_copyFrom, cX2_copyFrom, 2, none, 1, 2, 0, 0)
theorem qm_18 : mtL[18]? = some q_18 := rfl
def q_19 : mQ := (yX6_copyRow, cX6_copyRow, 3, none, 2, 6, 0, 0)
theorem qm_19 : mtL[19]? = some q_19 := rfl
def q_20 : mQ := (yX6_add, cX6_add, 4, (some FieldType.int), 3, 6, 0, 0)
theorem qm_20 : mtL[20]? = some q_20 := rfl
def q_21 : mQ := (yX2_takeSizes, cX2_takeSizes, 5, (some FieldType.boolean), 2, 2, 0, 0)
theorem qm_21 : mtL[21]? = some q_21 := rfl
def q_22 : mQ := (yX6_put, cX6_put, 3, none, 3, 6, 0, 0)
theorem qm_22 : mtL[22]? = some q_22 := rfl
def q_23 : mQ := (yX2_sum, cX2_sum, 3, (some FieldType.int), 0, 2, 0, 0)
theorem qm_23 : mtL[23]? = some q_23 := rfl
def q_24 : mQ := (yX2_takeCreases, cX2_takeCreases, 5, (some FieldType.boolean), 1, 2, 0, 0)
theorem qm_24 : mtL[24]? = some q_24 := rfl
def q_25 : mQ := (yX2_creaseCount, cX2_creaseCount, 1, (some FieldType.int), 0, 2, 0, 0)
theorem qm_25 : mtL[25]? = some q_25 := rfl
def q_26 : mQ := (yX6_isCreaseKind, cX6_isCreaseKind, 1, (some FieldType.boolean), 1, 6, 0, 0)
theorem qm_26 : mtL[26]? = some q_26 := rfl
def q_27 : mQ := (yX5_addCopyOf, cX5_addCopyOf, 3, none, 1, 5, 0, 0)
theorem qm_27 : mtL[27]? = some q_27 := rfl
def q_28 : mQ := (yX6_mark, cX6_mark, 6, (some FieldType.int), 3, 6, 0, 0)
theorem qm_28 : mtL[28]? = some q_28 := rfl
def q_29 : mQ := (yX2_hasCrease, cX2_hasCrease, 2, (some FieldType.boolean), 1, 2, 0, 0)
theorem qm_29 : mtL[29]? = some q_29 := rfl
def q_30 : mQ := (yX6_turn, cX6_turn, 3, (some FieldType.int), 1, 6, 0, 0)
theorem qm_30 : mtL[30]? = some q_30 := rfl
def q_31 : mQ := (yX2_turnOver, cX2_turnOver, 3, none, 0, 2, 0, 0)
theorem qm_31 : mtL[31]? = some q_31 := rfl
def q_32 : mQ := (yX2_countOf, cX2_countOf, 4, (some FieldType.int), 1, 2, 0, 0)
theorem qm_32 : mtL[32]? = some q_32 := rfl
def q_33 : mQ := (yX6_rotate, cX6_rotate, 4, (some FieldType.int), 2, 6, 0, 0)
theorem qm_33 : mtL[33]? = some q_33 := rfl
def q_34 : mQ := (yX2_becomeRotated, cX2_becomeRotated, 5, none, 2, 2, 0, 0)
theorem qm_34 : mtL[34]? = some q_34 := rfl
def q_35 : mQ := (yX2_sizesAsNumber, cX2_sizesAsNumber, 3, (some FieldType.int), 0, 2, 0, 0)
theorem qm_35 : mtL[35]? = some q_35 := rfl
def q_36 : mQ := (yX6_join, cX6_join, 7, (some FieldType.int), 3, 6, 0, 0)
theorem qm_36 : mtL[36]? = some q_36 := rfl
def q_37 : mQ := (yX2_lengthenBy, cX2_lengthenBy, 4, none, 2, 2, 0, 0)
theorem qm_37 : mtL[37]? = some q_37 := rfl
def q_38 : mQ := (yX5_removeAt, cX5_removeAt, 5, none, 1, 5, 0, 0)
theorem qm_38 : mtL[38]? = some q_38 := rfl
def q_39 : mQ := (yX6_cut, cX6_cut, 6, (some FieldType.int), 2, 6, 0, 0)
theorem qm_39 : mtL[39]? = some q_39 := rfl
def q_40 : mQ := (yX2_becomeEndOf, cX2_becomeEndOf, 4, none, 2, 2, 0, 0)
theorem qm_40 : mtL[40]? = some q_40 := rfl
def q_41 : mQ := (yX6_fold, cX6_fold, 6, (some FieldType.int), 1, 6, 0, 0)
theorem qm_41 : mtL[41]? = some q_41 := rfl
def q_42 : mQ := (yX2_isUndecided, cX2_isUndecided, 1, (some FieldType.boolean), 0, 2, 0, 0)
theorem qm_42 : mtL[42]? = some q_42 := rfl
def q_43 : mQ := (yX2_lowestUndecided, cX2_lowestUndecided, 3, (some FieldType.int), 0, 2, 0, 0)
theorem qm_43 : mtL[43]? = some q_43 := rfl
def q_44 : mQ := (yX3_whatStandsInTheWay, cX3_whatStandsInTheWay, 2, (some FieldType.int), 1, 3, 0, 0)
theorem qm_44 : mtL[44]? = some q_44 := rfl
def q_45 : mQ := (yX3_load, cX3_load, 3, none, 1, 3, 0, 0)
theorem qm_45 : mtL[45]? = some q_45 := rfl
def q_46 : mQ := (yX3_putCrease, cX3_putCrease, 3, none, 2, 3, 0, 0)
theorem qm_46 : mtL[46]? = some q_46 := rfl
def q_47 : mQ := (yX3_evenAngles, cX3_evenAngles, 3, (some FieldType.int), 0, 3, 0, 0)
theorem qm_47 : mtL[47]? = some q_47 := rfl
def q_48 : mQ := (yX3_hasSmallAngleOfOneKind, cX3_hasSmallAngleOfOneKind, 4, (some FieldType.boolean), 0, 3, 0, 0)
theorem qm_48 : mtL[48]? = some q_48 := rfl
def q_49 : mQ := (yX3_before, cX3_before, 2, (some FieldType.int), 1, 3, 0, 0)
theorem qm_49 : mtL[49]? = some q_49 := rfl
def q_50 : mQ := (yX3_after, cX3_after, 2, (some FieldType.int), 1, 3, 0, 0)
theorem qm_50 : mtL[50]? = some q_50 := rfl
def q_51 : mQ := (yX3_reduce, cX3_reduce, 3, (some FieldType.int), 0, 3, 0, 0)
theorem qm_51 : mtL[51]? = some q_51 := rfl
def q_52 : mQ := (yX3_firstStep, cX3_firstStep, 5, (some FieldType.int), 0, 3, 0, 0)
theorem qm_52 : mtL[52]? = some q_52 := rfl
def q_53 : mQ := (yX3_make, cX3_make, 5, none, 1, 3, 0, 0)
theorem qm_53 : mtL[53]? = some q_53 := rfl
def q_54 : mQ := (yX6_takeOut, cX6_takeOut, 3, none, 2, 6, 0, 0)
theorem qm_54 : mtL[54]? = some q_54 := rfl
def q_55 : mQ := (yX3_isReduced, cX3_isReduced, 1, (some FieldType.boolean), 0, 3, 0, 0)
theorem qm_55 : mtL[55]? = some q_55 := rfl
def q_56 : mQ := (yX6_unfold, cX6_unfold, 3, (some FieldType.int), 1, 6, 0, 0)
theorem qm_56 : mtL[56]? = some q_56 := rfl
def q_57 : mQ := (yX6_drop, cX6_drop, 2, (some FieldType.int), 1, 6, 0, 0)
theorem qm_57 : mtL[57]? = some q_57 := rfl
def q_58 : mQ := (yX6_piece, cX6_piece, 4, (some FieldType.int), 2, 6, 0, 0)
theorem qm_58 : mtL[58]? = some q_58 := rfl
def q_59 : mQ := (yX6_size, cX6_size, 4, (some FieldType.int), 2, 6, 0, 0)
theorem qm_59 : mtL[59]? = some q_59 := rfl
def q_60 : mQ := (yX6_crease, cX6_crease, 4, (some FieldType.int), 2, 6, 0, 0)
theorem qm_60 : mtL[60]? = some q_60 := rfl
def q_61 : mQ := (yX6_why, cX6_why, 3, (some FieldType.int), 1, 6, 0, 0)
theorem qm_61 : mtL[61]? = some q_61 := rfl
def q_63 : mQ := (yX6_errorOfDecidedStrip, cX6_errorOfDecidedStrip, 1, (some FieldType.int), 1, 6, 0, 0)
theorem qm_63 : mtL[63]? = some q_63 := rfl
def q_64 : mQ := (yX1_search, cX1_search, 7, (some FieldType.int), 2, 1, 0, 0)
theorem qm_64 : mtL[64]? = some q_64 := rfl
def q_65 : mQ := (yX1_load, cX1_load, 3, none, 1, 1, 0, 0)
theorem qm_65 : mtL[65]? = some q_65 := rfl
def q_73 : mQ := (yX6_step, cX6_step, 4, (some FieldType.int), 1, 6, 0, 0)
theorem qm_73 : mtL[73]? = some q_73 := rfl
def q_74 : mQ := (yX6_steps, cX6_steps, 3, (some FieldType.int), 1, 6, 0, 0)
theorem qm_74 : mtL[74]? = some q_74 := rfl
def q_75 : mQ := (yX6_ways, cX6_ways, 3, (some FieldType.int), 1, 6, 0, 0)
theorem qm_75 : mtL[75]? = some q_75 := rfl
def q_76 : mQ := (yX3_countWays, cX3_countWays, 4, (some FieldType.int), 1, 3, 0, 0)
theorem qm_76 : mtL[76]? = some q_76 := rfl
def q_77 : mQ := (yX3_changesTo, cX3_changesTo, 5, (some FieldType.int), 2, 3, 0, 0)
theorem qm_77 : mtL[77]? = some q_77 := rfl
def q_78 : mQ := (yX3_kindIn, cX3_kindIn, 2, (some FieldType.int), 2, 3, 0, 0)
theorem qm_78 : mtL[78]? = some q_78 := rfl
def q_79 : mQ := (yX3_foldsWith, cX3_foldsWith, 4, (some FieldType.boolean), 2, 3, 0, 0)
theorem qm_79 : mtL[79]? = some q_79 := rfl
def q_80 : mQ := (yX6_fewest, cX6_fewest, 3, (some FieldType.int), 1, 6, 0, 0)
theorem qm_80 : mtL[80]? = some q_80 := rfl
def q_81 : mQ := (yX3_fewestChanges, cX3_fewestChanges, 5, (some FieldType.int), 1, 3, 0, 0)
theorem qm_81 : mtL[81]? = some q_81 := rfl
def q_82 : mQ := (yX6_place, cX6_place, 4, (some FieldType.int), 2, 6, 0, 0)
theorem qm_82 : mtL[82]? = some q_82 := rfl
def q_85 : mQ := (yX6_thickest, cX6_thickest, 3, (some FieldType.int), 1, 6, 0, 0)
theorem qm_85 : mtL[85]? = some q_85 := rfl
def q_86 : mQ := (yX2_thickness, cX2_thickness, 3, (some FieldType.int), 0, 2, 0, 0)
theorem qm_86 : mtL[86]? = some q_86 := rfl
def q_87 : mQ := (yX2_leftEndOf, cX2_leftEndOf, 2, (some FieldType.int), 1, 2, 0, 0)
theorem qm_87 : mtL[87]? = some q_87 := rfl
def q_88 : mQ := (yX2_panelsBehind, cX2_panelsBehind, 4, (some FieldType.int), 1, 2, 0, 0)
theorem qm_88 : mtL[88]? = some q_88 := rfl
def q_89 : mQ := (yX2_rightEndOf, cX2_rightEndOf, 2, (some FieldType.int), 1, 2, 0, 0)
theorem qm_89 : mtL[89]? = some q_89 := rfl
def q_91 : mQ := (yX2_reflection, cX2_reflection, 4, (some FieldType.int), 0, 2, 0, 0)
theorem qm_91 : mtL[91]? = some q_91 := rfl
def q_92 : mQ := (yX6_append, cX6_append, 2, (some FieldType.int), 1, 6, 0, 0)
theorem qm_92 : mtL[92]? = some q_92 := rfl
def q_93 : mQ := (yX4_write, cX4_write, 2, none, 1, 4, 0, 0)
theorem qm_93 : mtL[93]? = some q_93 := rfl
def q_94 : mQ := (yX6_read, cX6_read, 4, (some FieldType.int), 0, 6, 0, 0)
theorem qm_94 : mtL[94]? = some q_94 := rfl
def q_95 : mQ := (yX4_faultPosition, cX4_faultPosition, 2, (some FieldType.int), 0, 4, 0, 0)
theorem qm_95 : mtL[95]? = some q_95 := rfl
def q_96 : mQ := (yX4_rewind, cX4_rewind, 1, none, 0, 4, 0, 0)
theorem qm_96 : mtL[96]? = some q_96 := rfl
def q_97 : mQ := (yX4_takeCommand, cX4_takeCommand, 1, (some FieldType.boolean), 0, 4, 0, 0)
theorem qm_97 : mtL[97]? = some q_97 := rfl
def q_98 : mQ := (yX4_codeHere, cX4_codeHere, 1, (some FieldType.int), 0, 4, 0, 0)
theorem qm_98 : mtL[98]? = some q_98 := rfl
def q_99 : mQ := (yX4_takeSizes, cX4_takeSizes, 2, (some FieldType.boolean), 0, 4, 0, 0)
theorem qm_99 : mtL[99]? = some q_99 := rfl
def q_100 : mQ := (yX4_takeSign, cX4_takeSign, 2, (some FieldType.boolean), 1, 4, 0, 0)
theorem qm_100 : mtL[100]? = some q_100 := rfl
def q_101 : mQ := (yX4_takeCreases, cX4_takeCreases, 2, (some FieldType.boolean), 0, 4, 0, 0)
theorem qm_101 : mtL[101]? = some q_101 := rfl
def q_102 : mQ := (yX4_takeKind, cX4_takeKind, 2, (some FieldType.boolean), 0, 4, 0, 0)
theorem qm_102 : mtL[102]? = some q_102 := rfl
def q_103 : mQ := (yX4_takePiece, cX4_takePiece, 1, (some FieldType.boolean), 0, 4, 0, 0)
theorem qm_103 : mtL[103]? = some q_103 := rfl
def q_104 : mQ := (yX4_takeDigit, cX4_takeDigit, 1, (some FieldType.boolean), 0, 4, 0, 0)
theorem qm_104 : mtL[104]? = some q_104 := rfl
def q_105 : mQ := (yX4_takeCrease, cX4_takeCrease, 1, (some FieldType.boolean), 0, 4, 0, 0)
theorem qm_105 : mtL[105]? = some q_105 := rfl
def q_106 : mQ := (yX4_clear, cX4_clear, 1, none, 0, 4, 0, 0)
theorem qm_106 : mtL[106]? = some q_106 := rfl
def q_107 : mQ := (yX6_perform, cX6_perform, 1, (some FieldType.int), 0, 6, 0, 0)
theorem qm_107 : mtL[107]? = some q_107 := rfl
def q_108 : mQ := (yX6_withCreasesAsTold, cX6_withCreasesAsTold, 3, (some FieldType.int), 1, 6, 0, 0)
theorem qm_108 : mtL[108]? = some q_108 := rfl
def q_109 : mQ := (yX6_refusal, cX6_refusal, 2, (some FieldType.int), 1, 6, 0, 0)
theorem qm_109 : mtL[109]? = some q_109 := rfl
def q_110 : mQ := (yX6_account, cX6_account, 2, (some FieldType.int), 1, 6, 0, 0)
theorem qm_110 : mtL[110]? = some q_110 := rfl
def q_111 : mQ := (yX5_countOfKind, cX5_countOfKind, 5, (some FieldType.int), 1, 5, 0, 0)
theorem qm_111 : mtL[111]? = some q_111 := rfl
def q_112 : mQ := (yX5_foldedCount, cX5_foldedCount, 4, (some FieldType.int), 0, 5, 0, 0)
theorem qm_112 : mtL[112]? = some q_112 := rfl
def q_113 : mQ := (yX5_panelCount, cX5_panelCount, 4, (some FieldType.int), 0, 5, 0, 0)
theorem qm_113 : mtL[113]? = some q_113 := rfl
def q_114 : mQ := (yX5_creasesOf, cX5_creasesOf, 5, (some FieldType.int), 1, 5, 0, 0)
theorem qm_114 : mtL[114]? = some q_114 := rfl
def q_117 : mQ := (yX6_undo, cX6_undo, 1, (some FieldType.int), 0, 6, 0, 0)
theorem qm_117 : mtL[117]? = some q_117 := rfl
def q_118 : mQ := (yX0_pop, cX0_pop, 3, none, 1, 0, 0, 0)
theorem qm_118 : mtL[118]? = some q_118 := rfl
def q_119 : mQ := (yX6_save, cX6_save, 1, (some FieldType.int), 0, 6, 0, 0)
theorem qm_119 : mtL[119]? = some q_119 := rfl
def q_120 : mQ := (yX6_restore, cX6_restore, 1, (some FieldType.int), 0, 6, 0, 0)
theorem qm_120 : mtL[120]? = some q_120 := rfl
def q_121 : mQ := (yX0_clear, cX0_clear, 1, none, 0, 0, 0, 0)
theorem qm_121 : mtL[121]? = some q_121 := rfl
