/-! decoders and methods (written by a program) -/
theorem dJ9_floorMod_7cf53_0 : decode cJ9_floorMod_7cf53 0 = .ok (.iload_n 0, 1) := by decide +kernel
theorem dJ9_floorMod_7cf53_1 : decode cJ9_floorMod_7cf53 1 = .ok (.iload_n 1, 1) := by decide +kernel
theorem dJ9_floorMod_7cf53_2 : decode cJ9_floorMod_7cf53 2 = .ok (.irem, 1) := by decide +kernel
theorem dJ9_floorMod_7cf53_3 : decode cJ9_floorMod_7cf53 3 = .ok (.istore_n 2, 1) := by decide +kernel
theorem dJ9_floorMod_7cf53_4 : decode cJ9_floorMod_7cf53 4 = .ok (.iload_n 0, 1) := by decide +kernel
theorem dJ9_floorMod_7cf53_5 : decode cJ9_floorMod_7cf53 5 = .ok (.iload_n 1, 1) := by decide +kernel
theorem dJ9_floorMod_7cf53_6 : decode cJ9_floorMod_7cf53 6 = .ok (.ixor, 1) := by decide +kernel
theorem dJ9_floorMod_7cf53_7 : decode cJ9_floorMod_7cf53 7 = .ok (.ifCond .ge 11, 3) := by decide +kernel
theorem dJ9_floorMod_7cf53_10 : decode cJ9_floorMod_7cf53 10 = .ok (.iload_n 2, 1) := by decide +kernel
theorem dJ9_floorMod_7cf53_11 : decode cJ9_floorMod_7cf53 11 = .ok (.ifCond .eq 7, 3) := by decide +kernel
theorem dJ9_floorMod_7cf53_14 : decode cJ9_floorMod_7cf53 14 = .ok (.iload_n 2, 1) := by decide +kernel
theorem dJ9_floorMod_7cf53_15 : decode cJ9_floorMod_7cf53 15 = .ok (.iload_n 1, 1) := by decide +kernel
theorem dJ9_floorMod_7cf53_16 : decode cJ9_floorMod_7cf53 16 = .ok (.iadd, 1) := by decide +kernel
theorem dJ9_floorMod_7cf53_17 : decode cJ9_floorMod_7cf53 17 = .ok (.ireturn, 1) := by decide +kernel
theorem dJ9_floorMod_7cf53_18 : decode cJ9_floorMod_7cf53 18 = .ok (.iload_n 2, 1) := by decide +kernel
theorem dJ9_floorMod_7cf53_19 : decode cJ9_floorMod_7cf53 19 = .ok (.ireturn, 1) := by decide +kernel
theorem dJxf58ca_floatToIntBits_5c35a_0 : decode cJxf58ca_floatToIntBits_5c35a 0 = .ok (.fload_n 0, 1) := by decide +kernel
theorem dJxf58ca_floatToIntBits_5c35a_1 : decode cJxf58ca_floatToIntBits_5c35a 1 = .ok (.invokestatic 59, 3) := by decide +kernel
theorem dJxf58ca_floatToIntBits_5c35a_4 : decode cJxf58ca_floatToIntBits_5c35a 4 = .ok (.ifCond .ne 8, 3) := by decide +kernel
theorem dJxf58ca_floatToIntBits_5c35a_7 : decode cJxf58ca_floatToIntBits_5c35a 7 = .ok (.fload_n 0, 1) := by decide +kernel
theorem dJxf58ca_floatToIntBits_5c35a_8 : decode cJxf58ca_floatToIntBits_5c35a 8 = .ok (.invokestatic 74, 3) := by decide +kernel
theorem dJxf58ca_floatToIntBits_5c35a_11 : decode cJxf58ca_floatToIntBits_5c35a 11 = .ok (.ireturn, 1) := by decide +kernel
theorem dJxf58ca_floatToIntBits_5c35a_12 : decode cJxf58ca_floatToIntBits_5c35a 12 = .ok (.ldc 77, 2) := by decide +kernel
theorem dJxf58ca_floatToIntBits_5c35a_14 : decode cJxf58ca_floatToIntBits_5c35a 14 = .ok (.ireturn, 1) := by decide +kernel
theorem dJxf58ca_isNaN_12338_0 : decode cJxf58ca_isNaN_12338 0 = .ok (.fload_n 0, 1) := by decide +kernel
theorem dJxf58ca_isNaN_12338_1 : decode cJxf58ca_isNaN_12338 1 = .ok (.fload_n 0, 1) := by decide +kernel
theorem dJxf58ca_isNaN_12338_2 : decode cJxf58ca_isNaN_12338 2 = .ok (.fcmp .l, 1) := by decide +kernel
theorem dJxf58ca_isNaN_12338_3 : decode cJxf58ca_isNaN_12338 3 = .ok (.ifCond .eq 7, 3) := by decide +kernel
theorem dJxf58ca_isNaN_12338_6 : decode cJxf58ca_isNaN_12338 6 = .ok (.iconst 1, 1) := by decide +kernel
theorem dJxf58ca_isNaN_12338_7 : decode cJxf58ca_isNaN_12338 7 = .ok (.goto 4, 3) := by decide +kernel
theorem dJxf58ca_isNaN_12338_10 : decode cJxf58ca_isNaN_12338 10 = .ok (.iconst 0, 1) := by decide +kernel
theorem dJxf58ca_isNaN_12338_11 : decode cJxf58ca_isNaN_12338 11 = .ok (.ireturn, 1) := by decide +kernel
theorem dX0_clear_0 : decode cX0_clear 0 = .ok (.aload_n 0, 1) := by decide +kernel
theorem dX0_clear_1 : decode cX0_clear 1 = .ok (.iconst 0, 1) := by decide +kernel
theorem dX0_clear_2 : decode cX0_clear 2 = .ok (.putfield 34, 3) := by decide +kernel
theorem dX0_clear_5 : decode cX0_clear 5 = .ok (.return_, 1) := by decide +kernel
theorem dX0_pop_0 : decode cX0_pop 0 = .ok (.aload_n 0, 1) := by decide +kernel
theorem dX0_pop_1 : decode cX0_pop 1 = .ok (.aload_n 0, 1) := by decide +kernel
theorem dX0_pop_2 : decode cX0_pop 2 = .ok (.getfield 18, 3) := by decide +kernel
theorem dX0_pop_5 : decode cX0_pop 5 = .ok (.ifCond .le 12, 3) := by decide +kernel
theorem dX0_pop_8 : decode cX0_pop 8 = .ok (.aload_n 0, 1) := by decide +kernel
theorem dX0_pop_9 : decode cX0_pop 9 = .ok (.getfield 18, 3) := by decide +kernel
theorem dX0_pop_12 : decode cX0_pop 12 = .ok (.iconst 1, 1) := by decide +kernel
theorem dX0_pop_13 : decode cX0_pop 13 = .ok (.isub, 1) := by decide +kernel
theorem dX0_pop_14 : decode cX0_pop 14 = .ok (.goto 5, 3) := by decide +kernel
theorem dX0_pop_17 : decode cX0_pop 17 = .ok (.bipush 7, 2) := by decide +kernel
theorem dX0_pop_19 : decode cX0_pop 19 = .ok (.putfield 18, 3) := by decide +kernel
theorem dX0_pop_22 : decode cX0_pop 22 = .ok (.aload_n 0, 1) := by decide +kernel
theorem dX0_pop_23 : decode cX0_pop 23 = .ok (.dup, 1) := by decide +kernel
theorem dX0_pop_24 : decode cX0_pop 24 = .ok (.getfield 34, 3) := by decide +kernel
theorem dX0_pop_27 : decode cX0_pop 27 = .ok (.iconst 1, 1) := by decide +kernel
theorem dX0_pop_28 : decode cX0_pop 28 = .ok (.isub, 1) := by decide +kernel
theorem dX0_pop_29 : decode cX0_pop 29 = .ok (.putfield 34, 3) := by decide +kernel
theorem dX0_pop_32 : decode cX0_pop 32 = .ok (.aload_n 0, 1) := by decide +kernel
theorem dX0_pop_33 : decode cX0_pop 33 = .ok (.aload_n 0, 1) := by decide +kernel
theorem dX0_pop_34 : decode cX0_pop 34 = .ok (.getfield 18, 3) := by decide +kernel
theorem dX0_pop_37 : decode cX0_pop 37 = .ok (.invokevirtual 22, 3) := by decide +kernel
theorem dX0_pop_40 : decode cX0_pop 40 = .ok (.astore_n 2, 1) := by decide +kernel
theorem dX0_pop_41 : decode cX0_pop 41 = .ok (.aload_n 2, 1) := by decide +kernel
theorem dX0_pop_42 : decode cX0_pop 42 = .ok (.ifnull 8, 3) := by decide +kernel
theorem dX0_pop_45 : decode cX0_pop 45 = .ok (.aload_n 1, 1) := by decide +kernel
theorem dX0_pop_46 : decode cX0_pop 46 = .ok (.aload_n 2, 1) := by decide +kernel
theorem dX0_pop_47 : decode cX0_pop 47 = .ok (.invokevirtual 30, 3) := by decide +kernel
theorem dX0_pop_50 : decode cX0_pop 50 = .ok (.return_, 1) := by decide +kernel
theorem dX0_push_0 : decode cX0_push 0 = .ok (.aload_n 0, 1) := by decide +kernel
theorem dX0_push_1 : decode cX0_push 1 = .ok (.aload_n 0, 1) := by decide +kernel
theorem dX0_push_2 : decode cX0_push 2 = .ok (.getfield 18, 3) := by decide +kernel
theorem dX0_push_5 : decode cX0_push 5 = .ok (.invokevirtual 22, 3) := by decide +kernel
theorem dX0_push_8 : decode cX0_push 8 = .ok (.astore_n 2, 1) := by decide +kernel
theorem dX0_push_9 : decode cX0_push 9 = .ok (.aload_n 2, 1) := by decide +kernel
theorem dX0_push_10 : decode cX0_push 10 = .ok (.ifnull 53, 3) := by decide +kernel
theorem dX0_push_13 : decode cX0_push 13 = .ok (.aload_n 0, 1) := by decide +kernel
theorem dX0_push_14 : decode cX0_push 14 = .ok (.getfield 26, 3) := by decide +kernel
theorem dX0_push_17 : decode cX0_push 17 = .ok (.ifCond .ne 46, 3) := by decide +kernel
theorem dX0_push_20 : decode cX0_push 20 = .ok (.aload_n 2, 1) := by decide +kernel
theorem dX0_push_21 : decode cX0_push 21 = .ok (.aload_n 1, 1) := by decide +kernel
theorem dX0_push_22 : decode cX0_push 22 = .ok (.invokevirtual 30, 3) := by decide +kernel
theorem dX0_push_25 : decode cX0_push 25 = .ok (.aload_n 0, 1) := by decide +kernel
theorem dX0_push_26 : decode cX0_push 26 = .ok (.aload_n 0, 1) := by decide +kernel
theorem dX0_push_27 : decode cX0_push 27 = .ok (.getfield 18, 3) := by decide +kernel
theorem dX0_push_30 : decode cX0_push 30 = .ok (.bipush 7, 2) := by decide +kernel
theorem dX0_push_32 : decode cX0_push 32 = .ok (.if_icmp .ge 12, 3) := by decide +kernel
theorem dX0_push_35 : decode cX0_push 35 = .ok (.aload_n 0, 1) := by decide +kernel
theorem dX0_push_36 : decode cX0_push 36 = .ok (.getfield 18, 3) := by decide +kernel
theorem dX0_push_39 : decode cX0_push 39 = .ok (.iconst 1, 1) := by decide +kernel
theorem dX0_push_40 : decode cX0_push 40 = .ok (.iadd, 1) := by decide +kernel
theorem dX0_push_41 : decode cX0_push 41 = .ok (.goto 4, 3) := by decide +kernel
theorem dX0_push_44 : decode cX0_push 44 = .ok (.iconst 0, 1) := by decide +kernel
theorem dX0_push_45 : decode cX0_push 45 = .ok (.putfield 18, 3) := by decide +kernel
theorem dX0_push_48 : decode cX0_push 48 = .ok (.aload_n 0, 1) := by decide +kernel
theorem dX0_push_49 : decode cX0_push 49 = .ok (.aload_n 0, 1) := by decide +kernel
theorem dX0_push_50 : decode cX0_push 50 = .ok (.getfield 34, 3) := by decide +kernel
theorem dX0_push_53 : decode cX0_push 53 = .ok (.iconst 1, 1) := by decide +kernel
theorem dX0_push_54 : decode cX0_push 54 = .ok (.iadd, 1) := by decide +kernel
theorem dX0_push_55 : decode cX0_push 55 = .ok (.bipush 8, 2) := by decide +kernel
theorem dX0_push_57 : decode cX0_push 57 = .ok (.invokestatic 37, 3) := by decide +kernel
theorem dX0_push_60 : decode cX0_push 60 = .ok (.putfield 34, 3) := by decide +kernel
theorem dX0_push_63 : decode cX0_push 63 = .ok (.return_, 1) := by decide +kernel
theorem dX0_stateAt_0 : decode cX0_stateAt 0 = .ok (.iload_n 1, 1) := by decide +kernel
theorem dX0_stateAt_1 : decode cX0_stateAt 1 = .ok (.ifCond .lt 21, 3) := by decide +kernel
theorem dX0_stateAt_4 : decode cX0_stateAt 4 = .ok (.iload_n 1, 1) := by decide +kernel
theorem dX0_stateAt_5 : decode cX0_stateAt 5 = .ok (.aload_n 0, 1) := by decide +kernel
theorem dX0_stateAt_6 : decode cX0_stateAt 6 = .ok (.getfield 11, 3) := by decide +kernel
theorem dX0_stateAt_9 : decode cX0_stateAt 9 = .ok (.arraylength, 1) := by decide +kernel
theorem dX0_stateAt_10 : decode cX0_stateAt 10 = .ok (.if_icmp .ge 12, 3) := by decide +kernel
theorem dX0_stateAt_13 : decode cX0_stateAt 13 = .ok (.aload_n 0, 1) := by decide +kernel
theorem dX0_stateAt_14 : decode cX0_stateAt 14 = .ok (.getfield 11, 3) := by decide +kernel
theorem dX0_stateAt_17 : decode cX0_stateAt 17 = .ok (.iload_n 1, 1) := by decide +kernel
theorem dX0_stateAt_18 : decode cX0_stateAt 18 = .ok (.aaload, 1) := by decide +kernel
theorem dX0_stateAt_19 : decode cX0_stateAt 19 = .ok (.goto 4, 3) := by decide +kernel
theorem dX0_stateAt_22 : decode cX0_stateAt 22 = .ok (.aconst_null, 1) := by decide +kernel
theorem dX0_stateAt_23 : decode cX0_stateAt 23 = .ok (.areturn, 1) := by decide +kernel
theorem dX1_isAsCreased_0 : decode cX1_isAsCreased 0 = .ok (.iload_n 2, 1) := by decide +kernel
theorem dX1_isAsCreased_1 : decode cX1_isAsCreased 1 = .ok (.ifCond .ne 5, 3) := by decide +kernel
theorem dX1_isAsCreased_4 : decode cX1_isAsCreased 4 = .ok (.iconst 1, 1) := by decide +kernel
theorem dX1_isAsCreased_5 : decode cX1_isAsCreased 5 = .ok (.ireturn, 1) := by decide +kernel
theorem dX1_isAsCreased_6 : decode cX1_isAsCreased 6 = .ok (.iload_n 2, 1) := by decide +kernel
theorem dX1_isAsCreased_7 : decode cX1_isAsCreased 7 = .ok (.iconst 1, 1) := by decide +kernel
theorem dX1_isAsCreased_8 : decode cX1_isAsCreased 8 = .ok (.isub, 1) := by decide +kernel
theorem dX1_isAsCreased_9 : decode cX1_isAsCreased 9 = .ok (.iconst 2, 1) := by decide +kernel
theorem dX1_isAsCreased_10 : decode cX1_isAsCreased 10 = .ok (.irem, 1) := by decide +kernel
theorem dX1_isAsCreased_11 : decode cX1_isAsCreased 11 = .ok (.ifCond .ne 7, 3) := by decide +kernel
theorem dX1_isAsCreased_14 : decode cX1_isAsCreased 14 = .ok (.iconst 1, 1) := by decide +kernel
theorem dX1_isAsCreased_15 : decode cX1_isAsCreased 15 = .ok (.goto 4, 3) := by decide +kernel
theorem dX1_isAsCreased_18 : decode cX1_isAsCreased 18 = .ok (.iconst 0, 1) := by decide +kernel
theorem dX1_isAsCreased_19 : decode cX1_isAsCreased 19 = .ok (.istore_n 3, 1) := by decide +kernel
theorem dX1_isAsCreased_20 : decode cX1_isAsCreased 20 = .ok (.aload_n 0, 1) := by decide +kernel
theorem dX1_isAsCreased_21 : decode cX1_isAsCreased 21 = .ok (.getfield 18, 3) := by decide +kernel
theorem dX1_isAsCreased_24 : decode cX1_isAsCreased 24 = .ok (.iload_n 2, 1) := by decide +kernel
theorem dX1_isAsCreased_25 : decode cX1_isAsCreased 25 = .ok (.iconst 1, 1) := by decide +kernel
theorem dX1_isAsCreased_26 : decode cX1_isAsCreased 26 = .ok (.isub, 1) := by decide +kernel
theorem dX1_isAsCreased_27 : decode cX1_isAsCreased 27 = .ok (.invokestatic 59, 3) := by decide +kernel
theorem dX1_isAsCreased_30 : decode cX1_isAsCreased 30 = .ok (.iconst 2, 1) := by decide +kernel
theorem dX1_isAsCreased_31 : decode cX1_isAsCreased 31 = .ok (.if_icmp .ne 7, 3) := by decide +kernel
theorem dX1_isAsCreased_34 : decode cX1_isAsCreased 34 = .ok (.iconst 1, 1) := by decide +kernel
theorem dX1_isAsCreased_35 : decode cX1_isAsCreased 35 = .ok (.goto 4, 3) := by decide +kernel
theorem dX1_isAsCreased_38 : decode cX1_isAsCreased 38 = .ok (.iconst 0, 1) := by decide +kernel
theorem dX1_isAsCreased_39 : decode cX1_isAsCreased 39 = .ok (.istore 4, 2) := by decide +kernel
theorem dX1_isAsCreased_41 : decode cX1_isAsCreased 41 = .ok (.iload_n 1, 1) := by decide +kernel
theorem dX1_isAsCreased_42 : decode cX1_isAsCreased 42 = .ok (.aload_n 0, 1) := by decide +kernel
theorem dX1_isAsCreased_43 : decode cX1_isAsCreased 43 = .ok (.getfield 9, 3) := by decide +kernel
theorem dX1_isAsCreased_46 : decode cX1_isAsCreased 46 = .ok (.iload_n 2, 1) := by decide +kernel
theorem dX1_isAsCreased_47 : decode cX1_isAsCreased 47 = .ok (.iconst 1, 1) := by decide +kernel
theorem dX1_isAsCreased_48 : decode cX1_isAsCreased 48 = .ok (.isub, 1) := by decide +kernel
theorem dX1_isAsCreased_49 : decode cX1_isAsCreased 49 = .ok (.invokestatic 59, 3) := by decide +kernel
theorem dX1_isAsCreased_52 : decode cX1_isAsCreased 52 = .ok (.if_icmp .le 7, 3) := by decide +kernel
theorem dX1_isAsCreased_55 : decode cX1_isAsCreased 55 = .ok (.iconst 1, 1) := by decide +kernel
theorem dX1_isAsCreased_56 : decode cX1_isAsCreased 56 = .ok (.goto 4, 3) := by decide +kernel
theorem dX1_isAsCreased_59 : decode cX1_isAsCreased 59 = .ok (.iconst 0, 1) := by decide +kernel
theorem dX1_isAsCreased_60 : decode cX1_isAsCreased 60 = .ok (.istore 5, 2) := by decide +kernel
theorem dX1_isAsCreased_62 : decode cX1_isAsCreased 62 = .ok (.iload 5, 2) := by decide +kernel
theorem dX1_isAsCreased_64 : decode cX1_isAsCreased 64 = .ok (.iload_n 3, 1) := by decide +kernel
theorem dX1_isAsCreased_65 : decode cX1_isAsCreased 65 = .ok (.iload 4, 2) := by decide +kernel
theorem dX1_isAsCreased_67 : decode cX1_isAsCreased 67 = .ok (.if_icmp .ne 7, 3) := by decide +kernel
theorem dX1_isAsCreased_70 : decode cX1_isAsCreased 70 = .ok (.iconst 1, 1) := by decide +kernel
theorem dX1_isAsCreased_71 : decode cX1_isAsCreased 71 = .ok (.goto 4, 3) := by decide +kernel
theorem dX1_isAsCreased_74 : decode cX1_isAsCreased 74 = .ok (.iconst 0, 1) := by decide +kernel
theorem dX1_isAsCreased_75 : decode cX1_isAsCreased 75 = .ok (.if_icmp .ne 7, 3) := by decide +kernel
theorem dX1_isAsCreased_78 : decode cX1_isAsCreased 78 = .ok (.iconst 1, 1) := by decide +kernel
theorem dX1_isAsCreased_79 : decode cX1_isAsCreased 79 = .ok (.goto 4, 3) := by decide +kernel
theorem dX1_isAsCreased_82 : decode cX1_isAsCreased 82 = .ok (.iconst 0, 1) := by decide +kernel
theorem dX1_isAsCreased_83 : decode cX1_isAsCreased 83 = .ok (.ireturn, 1) := by decide +kernel
theorem dX1_isBetween_0 : decode cX1_isBetween 0 = .ok (.aload_n 0, 1) := by decide +kernel
theorem dX1_isBetween_1 : decode cX1_isBetween 1 = .ok (.getfield 9, 3) := by decide +kernel
theorem dX1_isBetween_4 : decode cX1_isBetween 4 = .ok (.iload_n 1, 1) := by decide +kernel
theorem dX1_isBetween_5 : decode cX1_isBetween 5 = .ok (.invokestatic 59, 3) := by decide +kernel
theorem dX1_isBetween_8 : decode cX1_isBetween 8 = .ok (.istore_n 3, 1) := by decide +kernel
theorem dX1_isBetween_9 : decode cX1_isBetween 9 = .ok (.aload_n 0, 1) := by decide +kernel
theorem dX1_isBetween_10 : decode cX1_isBetween 10 = .ok (.getfield 9, 3) := by decide +kernel
theorem dX1_isBetween_13 : decode cX1_isBetween 13 = .ok (.iload_n 2, 1) := by decide +kernel
theorem dX1_isBetween_14 : decode cX1_isBetween 14 = .ok (.invokestatic 59, 3) := by decide +kernel
theorem dX1_isBetween_17 : decode cX1_isBetween 17 = .ok (.istore 4, 2) := by decide +kernel
theorem dX1_isBetween_19 : decode cX1_isBetween 19 = .ok (.aload_n 0, 1) := by decide +kernel
theorem dX1_isBetween_20 : decode cX1_isBetween 20 = .ok (.getfield 9, 3) := by decide +kernel
theorem dX1_isBetween_23 : decode cX1_isBetween 23 = .ok (.iload_n 2, 1) := by decide +kernel
theorem dX1_isBetween_24 : decode cX1_isBetween 24 = .ok (.iconst 1, 1) := by decide +kernel
theorem dX1_isBetween_25 : decode cX1_isBetween 25 = .ok (.iadd, 1) := by decide +kernel
theorem dX1_isBetween_26 : decode cX1_isBetween 26 = .ok (.invokestatic 59, 3) := by decide +kernel
theorem dX1_isBetween_29 : decode cX1_isBetween 29 = .ok (.istore 5, 2) := by decide +kernel
theorem dX1_isBetween_31 : decode cX1_isBetween 31 = .ok (.iload 4, 2) := by decide +kernel
theorem dX1_isBetween_33 : decode cX1_isBetween 33 = .ok (.iload 5, 2) := by decide +kernel
theorem dX1_isBetween_35 : decode cX1_isBetween 35 = .ok (.invokestatic 45, 3) := by decide +kernel
theorem dX1_isBetween_38 : decode cX1_isBetween 38 = .ok (.iload_n 3, 1) := by decide +kernel
theorem dX1_isBetween_39 : decode cX1_isBetween 39 = .ok (.if_icmp .ge 18, 3) := by decide +kernel
theorem dX1_isBetween_42 : decode cX1_isBetween 42 = .ok (.iload_n 3, 1) := by decide +kernel
theorem dX1_isBetween_43 : decode cX1_isBetween 43 = .ok (.iload 4, 2) := by decide +kernel
theorem dX1_isBetween_45 : decode cX1_isBetween 45 = .ok (.iload 5, 2) := by decide +kernel
theorem dX1_isBetween_47 : decode cX1_isBetween 47 = .ok (.invokestatic 77, 3) := by decide +kernel
theorem dX1_isBetween_50 : decode cX1_isBetween 50 = .ok (.if_icmp .ge 7, 3) := by decide +kernel
theorem dX1_isBetween_53 : decode cX1_isBetween 53 = .ok (.iconst 1, 1) := by decide +kernel
theorem dX1_isBetween_54 : decode cX1_isBetween 54 = .ok (.goto 4, 3) := by decide +kernel
theorem dX1_isBetween_57 : decode cX1_isBetween 57 = .ok (.iconst 0, 1) := by decide +kernel
theorem dX1_isBetween_58 : decode cX1_isBetween 58 = .ok (.ireturn, 1) := by decide +kernel
theorem dX1_isCrossed_0 : decode cX1_isCrossed 0 = .ok (.iload_n 1, 1) := by decide +kernel
theorem dX1_isCrossed_1 : decode cX1_isCrossed 1 = .ok (.iconst 2, 1) := by decide +kernel
theorem dX1_isCrossed_2 : decode cX1_isCrossed 2 = .ok (.iadd, 1) := by decide +kernel
theorem dX1_isCrossed_3 : decode cX1_isCrossed 3 = .ok (.istore_n 2, 1) := by decide +kernel
theorem dX1_isCrossed_4 : decode cX1_isCrossed 4 = .ok (.iload_n 2, 1) := by decide +kernel
theorem dX1_isCrossed_5 : decode cX1_isCrossed 5 = .ok (.aload_n 0, 1) := by decide +kernel
theorem dX1_isCrossed_6 : decode cX1_isCrossed 6 = .ok (.getfield 30, 3) := by decide +kernel
theorem dX1_isCrossed_9 : decode cX1_isCrossed 9 = .ok (.iconst 1, 1) := by decide +kernel
theorem dX1_isCrossed_10 : decode cX1_isCrossed 10 = .ok (.isub, 1) := by decide +kernel
theorem dX1_isCrossed_11 : decode cX1_isCrossed 11 = .ok (.if_icmp .ge 61, 3) := by decide +kernel
theorem dX1_isCrossed_14 : decode cX1_isCrossed 14 = .ok (.aload_n 0, 1) := by decide +kernel
theorem dX1_isCrossed_15 : decode cX1_isCrossed 15 = .ok (.getfield 15, 3) := by decide +kernel
theorem dX1_isCrossed_18 : decode cX1_isCrossed 18 = .ok (.iload_n 2, 1) := by decide +kernel
theorem dX1_isCrossed_19 : decode cX1_isCrossed 19 = .ok (.iconst 1, 1) := by decide +kernel
theorem dX1_isCrossed_20 : decode cX1_isCrossed 20 = .ok (.iadd, 1) := by decide +kernel
theorem dX1_isCrossed_21 : decode cX1_isCrossed 21 = .ok (.invokestatic 59, 3) := by decide +kernel
theorem dX1_isCrossed_24 : decode cX1_isCrossed 24 = .ok (.aload_n 0, 1) := by decide +kernel
theorem dX1_isCrossed_25 : decode cX1_isCrossed 25 = .ok (.getfield 15, 3) := by decide +kernel
theorem dX1_isCrossed_28 : decode cX1_isCrossed 28 = .ok (.iload_n 1, 1) := by decide +kernel
theorem dX1_isCrossed_29 : decode cX1_isCrossed 29 = .ok (.iconst 1, 1) := by decide +kernel
theorem dX1_isCrossed_30 : decode cX1_isCrossed 30 = .ok (.iadd, 1) := by decide +kernel
theorem dX1_isCrossed_31 : decode cX1_isCrossed 31 = .ok (.invokestatic 59, 3) := by decide +kernel
theorem dX1_isCrossed_34 : decode cX1_isCrossed 34 = .ok (.if_icmp .ne 7, 3) := by decide +kernel
theorem dX1_isCrossed_37 : decode cX1_isCrossed 37 = .ok (.iconst 1, 1) := by decide +kernel
theorem dX1_isCrossed_38 : decode cX1_isCrossed 38 = .ok (.goto 4, 3) := by decide +kernel
theorem dX1_isCrossed_41 : decode cX1_isCrossed 41 = .ok (.iconst 0, 1) := by decide +kernel
theorem dX1_isCrossed_42 : decode cX1_isCrossed 42 = .ok (.istore_n 3, 1) := by decide +kernel
theorem dX1_isCrossed_43 : decode cX1_isCrossed 43 = .ok (.iload_n 3, 1) := by decide +kernel
theorem dX1_isCrossed_44 : decode cX1_isCrossed 44 = .ok (.ifCond .eq 22, 3) := by decide +kernel
theorem dX1_isCrossed_47 : decode cX1_isCrossed 47 = .ok (.aload_n 0, 1) := by decide +kernel
theorem dX1_isCrossed_48 : decode cX1_isCrossed 48 = .ok (.iload_n 2, 1) := by decide +kernel
theorem dX1_isCrossed_49 : decode cX1_isCrossed 49 = .ok (.iload_n 1, 1) := by decide +kernel
theorem dX1_isCrossed_50 : decode cX1_isCrossed 50 = .ok (.invokevirtual 80, 3) := by decide +kernel
theorem dX1_isCrossed_53 : decode cX1_isCrossed 53 = .ok (.aload_n 0, 1) := by decide +kernel
theorem dX1_isCrossed_54 : decode cX1_isCrossed 54 = .ok (.iload_n 2, 1) := by decide +kernel
theorem dX1_isCrossed_55 : decode cX1_isCrossed 55 = .ok (.iconst 1, 1) := by decide +kernel
theorem dX1_isCrossed_56 : decode cX1_isCrossed 56 = .ok (.iadd, 1) := by decide +kernel
theorem dX1_isCrossed_57 : decode cX1_isCrossed 57 = .ok (.iload_n 1, 1) := by decide +kernel
theorem dX1_isCrossed_58 : decode cX1_isCrossed 58 = .ok (.invokevirtual 80, 3) := by decide +kernel
theorem dX1_isCrossed_61 : decode cX1_isCrossed 61 = .ok (.if_icmp .eq 5, 3) := by decide +kernel
theorem dX1_isCrossed_64 : decode cX1_isCrossed 64 = .ok (.iconst 1, 1) := by decide +kernel
theorem dX1_isCrossed_65 : decode cX1_isCrossed 65 = .ok (.ireturn, 1) := by decide +kernel
theorem dX1_isCrossed_66 : decode cX1_isCrossed 66 = .ok (.iinc 2 2, 3) := by decide +kernel
theorem dX1_isCrossed_69 : decode cX1_isCrossed 69 = .ok (.goto (-65), 3) := by decide +kernel
theorem dX1_isCrossed_72 : decode cX1_isCrossed 72 = .ok (.iconst 0, 1) := by decide +kernel
theorem dX1_isCrossed_73 : decode cX1_isCrossed 73 = .ok (.ireturn, 1) := by decide +kernel
theorem dX1_isFree_0 : decode cX1_isFree 0 = .ok (.iconst 0, 1) := by decide +kernel
theorem dX1_isFree_1 : decode cX1_isFree 1 = .ok (.istore_n 3, 1) := by decide +kernel
theorem dX1_isFree_2 : decode cX1_isFree 2 = .ok (.iload_n 3, 1) := by decide +kernel
theorem dX1_isFree_3 : decode cX1_isFree 3 = .ok (.iload_n 2, 1) := by decide +kernel
theorem dX1_isFree_4 : decode cX1_isFree 4 = .ok (.if_icmp .ge 23, 3) := by decide +kernel
theorem dX1_isFree_7 : decode cX1_isFree 7 = .ok (.aload_n 0, 1) := by decide +kernel
theorem dX1_isFree_8 : decode cX1_isFree 8 = .ok (.getfield 9, 3) := by decide +kernel
theorem dX1_isFree_11 : decode cX1_isFree 11 = .ok (.iload_n 3, 1) := by decide +kernel
theorem dX1_isFree_12 : decode cX1_isFree 12 = .ok (.invokestatic 59, 3) := by decide +kernel
theorem dX1_isFree_15 : decode cX1_isFree 15 = .ok (.iload_n 1, 1) := by decide +kernel
theorem dX1_isFree_16 : decode cX1_isFree 16 = .ok (.if_icmp .ne 5, 3) := by decide +kernel
theorem dX1_isFree_19 : decode cX1_isFree 19 = .ok (.iconst 0, 1) := by decide +kernel
theorem dX1_isFree_20 : decode cX1_isFree 20 = .ok (.ireturn, 1) := by decide +kernel
theorem dX1_isFree_21 : decode cX1_isFree 21 = .ok (.iinc 3 1, 3) := by decide +kernel
theorem dX1_isFree_24 : decode cX1_isFree 24 = .ok (.goto (-22), 3) := by decide +kernel
theorem dX1_isFree_27 : decode cX1_isFree 27 = .ok (.iconst 1, 1) := by decide +kernel
theorem dX1_isFree_28 : decode cX1_isFree 28 = .ok (.ireturn, 1) := by decide +kernel
theorem dX1_isPierced_0 : decode cX1_isPierced 0 = .ok (.aload_n 0, 1) := by decide +kernel
theorem dX1_isPierced_1 : decode cX1_isPierced 1 = .ok (.getfield 15, 3) := by decide +kernel
theorem dX1_isPierced_4 : decode cX1_isPierced 4 = .ok (.iload_n 1, 1) := by decide +kernel
theorem dX1_isPierced_5 : decode cX1_isPierced 5 = .ok (.iconst 1, 1) := by decide +kernel
theorem dX1_isPierced_6 : decode cX1_isPierced 6 = .ok (.iadd, 1) := by decide +kernel
theorem dX1_isPierced_7 : decode cX1_isPierced 7 = .ok (.invokestatic 59, 3) := by decide +kernel
theorem dX1_isPierced_10 : decode cX1_isPierced 10 = .ok (.istore_n 2, 1) := by decide +kernel
theorem dX1_isPierced_11 : decode cX1_isPierced 11 = .ok (.iconst 0, 1) := by decide +kernel
theorem dX1_isPierced_12 : decode cX1_isPierced 12 = .ok (.istore_n 3, 1) := by decide +kernel
theorem dX1_isPierced_13 : decode cX1_isPierced 13 = .ok (.iload_n 3, 1) := by decide +kernel
theorem dX1_isPierced_14 : decode cX1_isPierced 14 = .ok (.aload_n 0, 1) := by decide +kernel
theorem dX1_isPierced_15 : decode cX1_isPierced 15 = .ok (.getfield 30, 3) := by decide +kernel
theorem dX1_isPierced_18 : decode cX1_isPierced 18 = .ok (.if_icmp .ge 78, 3) := by decide +kernel
theorem dX1_isPierced_21 : decode cX1_isPierced 21 = .ok (.aload_n 0, 1) := by decide +kernel
theorem dX1_isPierced_22 : decode cX1_isPierced 22 = .ok (.getfield 15, 3) := by decide +kernel
theorem dX1_isPierced_25 : decode cX1_isPierced 25 = .ok (.iload_n 3, 1) := by decide +kernel
theorem dX1_isPierced_26 : decode cX1_isPierced 26 = .ok (.invokestatic 59, 3) := by decide +kernel
theorem dX1_isPierced_29 : decode cX1_isPierced 29 = .ok (.aload_n 0, 1) := by decide +kernel
theorem dX1_isPierced_30 : decode cX1_isPierced 30 = .ok (.getfield 15, 3) := by decide +kernel
theorem dX1_isPierced_33 : decode cX1_isPierced 33 = .ok (.iload_n 3, 1) := by decide +kernel
theorem dX1_isPierced_34 : decode cX1_isPierced 34 = .ok (.iconst 1, 1) := by decide +kernel
theorem dX1_isPierced_35 : decode cX1_isPierced 35 = .ok (.iadd, 1) := by decide +kernel
theorem dX1_isPierced_36 : decode cX1_isPierced 36 = .ok (.invokestatic 59, 3) := by decide +kernel
theorem dX1_isPierced_39 : decode cX1_isPierced 39 = .ok (.invokestatic 45, 3) := by decide +kernel
theorem dX1_isPierced_42 : decode cX1_isPierced 42 = .ok (.istore 4, 2) := by decide +kernel
theorem dX1_isPierced_44 : decode cX1_isPierced 44 = .ok (.aload_n 0, 1) := by decide +kernel
theorem dX1_isPierced_45 : decode cX1_isPierced 45 = .ok (.getfield 15, 3) := by decide +kernel
theorem dX1_isPierced_48 : decode cX1_isPierced 48 = .ok (.iload_n 3, 1) := by decide +kernel
theorem dX1_isPierced_49 : decode cX1_isPierced 49 = .ok (.invokestatic 59, 3) := by decide +kernel
theorem dX1_isPierced_52 : decode cX1_isPierced 52 = .ok (.aload_n 0, 1) := by decide +kernel
theorem dX1_isPierced_53 : decode cX1_isPierced 53 = .ok (.getfield 15, 3) := by decide +kernel
theorem dX1_isPierced_56 : decode cX1_isPierced 56 = .ok (.iload_n 3, 1) := by decide +kernel
theorem dX1_isPierced_57 : decode cX1_isPierced 57 = .ok (.iconst 1, 1) := by decide +kernel
theorem dX1_isPierced_58 : decode cX1_isPierced 58 = .ok (.iadd, 1) := by decide +kernel
theorem dX1_isPierced_59 : decode cX1_isPierced 59 = .ok (.invokestatic 59, 3) := by decide +kernel
theorem dX1_isPierced_62 : decode cX1_isPierced 62 = .ok (.invokestatic 77, 3) := by decide +kernel
theorem dX1_isPierced_65 : decode cX1_isPierced 65 = .ok (.istore 5, 2) := by decide +kernel
theorem dX1_isPierced_67 : decode cX1_isPierced 67 = .ok (.iload 4, 2) := by decide +kernel
theorem dX1_isPierced_69 : decode cX1_isPierced 69 = .ok (.iload_n 2, 1) := by decide +kernel
theorem dX1_isPierced_70 : decode cX1_isPierced 70 = .ok (.if_icmp .ge 20, 3) := by decide +kernel
theorem dX1_isPierced_73 : decode cX1_isPierced 73 = .ok (.iload_n 2, 1) := by decide +kernel
theorem dX1_isPierced_74 : decode cX1_isPierced 74 = .ok (.iload 5, 2) := by decide +kernel
theorem dX1_isPierced_76 : decode cX1_isPierced 76 = .ok (.if_icmp .ge 14, 3) := by decide +kernel
theorem dX1_isPierced_79 : decode cX1_isPierced 79 = .ok (.aload_n 0, 1) := by decide +kernel
theorem dX1_isPierced_80 : decode cX1_isPierced 80 = .ok (.iload_n 3, 1) := by decide +kernel
theorem dX1_isPierced_81 : decode cX1_isPierced 81 = .ok (.iload_n 1, 1) := by decide +kernel
theorem dX1_isPierced_82 : decode cX1_isPierced 82 = .ok (.invokevirtual 80, 3) := by decide +kernel
theorem dX1_isPierced_85 : decode cX1_isPierced 85 = .ok (.ifCond .eq 5, 3) := by decide +kernel
theorem dX1_isPierced_88 : decode cX1_isPierced 88 = .ok (.iconst 1, 1) := by decide +kernel
theorem dX1_isPierced_89 : decode cX1_isPierced 89 = .ok (.ireturn, 1) := by decide +kernel
theorem dX1_isPierced_90 : decode cX1_isPierced 90 = .ok (.iinc 3 1, 3) := by decide +kernel
theorem dX1_isPierced_93 : decode cX1_isPierced 93 = .ok (.goto (-80), 3) := by decide +kernel
theorem dX1_isPierced_96 : decode cX1_isPierced 96 = .ok (.iconst 0, 1) := by decide +kernel
theorem dX1_isPierced_97 : decode cX1_isPierced 97 = .ok (.ireturn, 1) := by decide +kernel
theorem dX1_layersCollide_0 : decode cX1_layersCollide 0 = .ok (.iconst 0, 1) := by decide +kernel
theorem dX1_layersCollide_1 : decode cX1_layersCollide 1 = .ok (.istore_n 1, 1) := by decide +kernel
theorem dX1_layersCollide_2 : decode cX1_layersCollide 2 = .ok (.iload_n 1, 1) := by decide +kernel
theorem dX1_layersCollide_3 : decode cX1_layersCollide 3 = .ok (.aload_n 0, 1) := by decide +kernel
theorem dX1_layersCollide_4 : decode cX1_layersCollide 4 = .ok (.getfield 30, 3) := by decide +kernel
theorem dX1_layersCollide_7 : decode cX1_layersCollide 7 = .ok (.iconst 1, 1) := by decide +kernel
theorem dX1_layersCollide_8 : decode cX1_layersCollide 8 = .ok (.isub, 1) := by decide +kernel
theorem dX1_layersCollide_9 : decode cX1_layersCollide 9 = .ok (.if_icmp .ge 27, 3) := by decide +kernel
theorem dX1_layersCollide_12 : decode cX1_layersCollide 12 = .ok (.aload_n 0, 1) := by decide +kernel
theorem dX1_layersCollide_13 : decode cX1_layersCollide 13 = .ok (.iload_n 1, 1) := by decide +kernel
theorem dX1_layersCollide_14 : decode cX1_layersCollide 14 = .ok (.invokevirtual 70, 3) := by decide +kernel
theorem dX1_layersCollide_17 : decode cX1_layersCollide 17 = .ok (.ifCond .ne 11, 3) := by decide +kernel
theorem dX1_layersCollide_20 : decode cX1_layersCollide 20 = .ok (.aload_n 0, 1) := by decide +kernel
theorem dX1_layersCollide_21 : decode cX1_layersCollide 21 = .ok (.iload_n 1, 1) := by decide +kernel
theorem dX1_layersCollide_22 : decode cX1_layersCollide 22 = .ok (.invokevirtual 74, 3) := by decide +kernel
theorem dX1_layersCollide_25 : decode cX1_layersCollide 25 = .ok (.ifCond .eq 5, 3) := by decide +kernel
theorem dX1_layersCollide_28 : decode cX1_layersCollide 28 = .ok (.iconst 1, 1) := by decide +kernel
theorem dX1_layersCollide_29 : decode cX1_layersCollide 29 = .ok (.ireturn, 1) := by decide +kernel
theorem dX1_layersCollide_30 : decode cX1_layersCollide 30 = .ok (.iinc 1 1, 3) := by decide +kernel
theorem dX1_layersCollide_33 : decode cX1_layersCollide 33 = .ok (.goto (-31), 3) := by decide +kernel
theorem dX1_layersCollide_36 : decode cX1_layersCollide 36 = .ok (.iconst 0, 1) := by decide +kernel
theorem dX1_layersCollide_37 : decode cX1_layersCollide 37 = .ok (.ireturn, 1) := by decide +kernel
theorem dX1_load_0 : decode cX1_load 0 = .ok (.aload_n 0, 1) := by decide +kernel
theorem dX1_load_1 : decode cX1_load 1 = .ok (.aload_n 1, 1) := by decide +kernel
theorem dX1_load_2 : decode cX1_load 2 = .ok (.getfield 42, 3) := by decide +kernel
theorem dX1_load_5 : decode cX1_load 5 = .ok (.bipush 7, 2) := by decide +kernel
theorem dX1_load_7 : decode cX1_load 7 = .ok (.invokestatic 45, 3) := by decide +kernel
theorem dX1_load_10 : decode cX1_load 10 = .ok (.putfield 30, 3) := by decide +kernel
theorem dX1_load_13 : decode cX1_load 13 = .ok (.aload_n 1, 1) := by decide +kernel
theorem dX1_load_14 : decode cX1_load 14 = .ok (.getfield 51, 3) := by decide +kernel
theorem dX1_load_17 : decode cX1_load 17 = .ok (.aload_n 0, 1) := by decide +kernel
theorem dX1_load_18 : decode cX1_load 18 = .ok (.getfield 18, 3) := by decide +kernel
theorem dX1_load_21 : decode cX1_load 21 = .ok (.invokestatic 52, 3) := by decide +kernel
theorem dX1_load_24 : decode cX1_load 24 = .ok (.iconst 0, 1) := by decide +kernel
theorem dX1_load_25 : decode cX1_load 25 = .ok (.istore_n 2, 1) := by decide +kernel
theorem dX1_load_26 : decode cX1_load 26 = .ok (.iload_n 2, 1) := by decide +kernel
theorem dX1_load_27 : decode cX1_load 27 = .ok (.aload_n 0, 1) := by decide +kernel
theorem dX1_load_28 : decode cX1_load 28 = .ok (.getfield 30, 3) := by decide +kernel
theorem dX1_load_31 : decode cX1_load 31 = .ok (.if_icmp .gt 22, 3) := by decide +kernel
theorem dX1_load_34 : decode cX1_load 34 = .ok (.aload_n 0, 1) := by decide +kernel
theorem dX1_load_35 : decode cX1_load 35 = .ok (.getfield 15, 3) := by decide +kernel
theorem dX1_load_38 : decode cX1_load 38 = .ok (.iload_n 2, 1) := by decide +kernel
theorem dX1_load_39 : decode cX1_load 39 = .ok (.aload_n 1, 1) := by decide +kernel
theorem dX1_load_40 : decode cX1_load 40 = .ok (.iload_n 2, 1) := by decide +kernel
theorem dX1_load_41 : decode cX1_load 41 = .ok (.invokevirtual 56, 3) := by decide +kernel
theorem dX1_load_44 : decode cX1_load 44 = .ok (.invokestatic 25, 3) := by decide +kernel
theorem dX1_load_47 : decode cX1_load 47 = .ok (.iinc 2 1, 3) := by decide +kernel
theorem dX1_load_50 : decode cX1_load 50 = .ok (.goto (-24), 3) := by decide +kernel
theorem dX1_load_53 : decode cX1_load 53 = .ok (.return_, 1) := by decide +kernel
theorem dX1_nextLayer_0 : decode cX1_nextLayer 0 = .ok (.aload_n 0, 1) := by decide +kernel
theorem dX1_nextLayer_1 : decode cX1_nextLayer 1 = .ok (.getfield 9, 3) := by decide +kernel
theorem dX1_nextLayer_4 : decode cX1_nextLayer 4 = .ok (.iload_n 1, 1) := by decide +kernel
theorem dX1_nextLayer_5 : decode cX1_nextLayer 5 = .ok (.invokestatic 59, 3) := by decide +kernel
theorem dX1_nextLayer_8 : decode cX1_nextLayer 8 = .ok (.iconst 1, 1) := by decide +kernel
theorem dX1_nextLayer_9 : decode cX1_nextLayer 9 = .ok (.iadd, 1) := by decide +kernel
theorem dX1_nextLayer_10 : decode cX1_nextLayer 10 = .ok (.istore_n 2, 1) := by decide +kernel
theorem dX1_nextLayer_11 : decode cX1_nextLayer 11 = .ok (.iload_n 2, 1) := by decide +kernel
theorem dX1_nextLayer_12 : decode cX1_nextLayer 12 = .ok (.aload_n 0, 1) := by decide +kernel
theorem dX1_nextLayer_13 : decode cX1_nextLayer 13 = .ok (.getfield 30, 3) := by decide +kernel
theorem dX1_nextLayer_16 : decode cX1_nextLayer 16 = .ok (.if_icmp .ge 29, 3) := by decide +kernel
theorem dX1_nextLayer_19 : decode cX1_nextLayer 19 = .ok (.aload_n 0, 1) := by decide +kernel
theorem dX1_nextLayer_20 : decode cX1_nextLayer 20 = .ok (.iload_n 2, 1) := by decide +kernel
theorem dX1_nextLayer_21 : decode cX1_nextLayer 21 = .ok (.iload_n 1, 1) := by decide +kernel
theorem dX1_nextLayer_22 : decode cX1_nextLayer 22 = .ok (.invokevirtual 63, 3) := by decide +kernel
theorem dX1_nextLayer_25 : decode cX1_nextLayer 25 = .ok (.ifCond .eq 14, 3) := by decide +kernel
theorem dX1_nextLayer_28 : decode cX1_nextLayer 28 = .ok (.aload_n 0, 1) := by decide +kernel
theorem dX1_nextLayer_29 : decode cX1_nextLayer 29 = .ok (.iload_n 2, 1) := by decide +kernel
theorem dX1_nextLayer_30 : decode cX1_nextLayer 30 = .ok (.iload_n 1, 1) := by decide +kernel
theorem dX1_nextLayer_31 : decode cX1_nextLayer 31 = .ok (.invokevirtual 67, 3) := by decide +kernel
theorem dX1_nextLayer_34 : decode cX1_nextLayer 34 = .ok (.ifCond .eq 5, 3) := by decide +kernel
theorem dX1_nextLayer_37 : decode cX1_nextLayer 37 = .ok (.iload_n 2, 1) := by decide +kernel
theorem dX1_nextLayer_38 : decode cX1_nextLayer 38 = .ok (.ireturn, 1) := by decide +kernel
theorem dX1_nextLayer_39 : decode cX1_nextLayer 39 = .ok (.iinc 2 1, 3) := by decide +kernel
theorem dX1_nextLayer_42 : decode cX1_nextLayer 42 = .ok (.goto (-31), 3) := by decide +kernel
theorem dX1_nextLayer_45 : decode cX1_nextLayer 45 = .ok (.iconst (-1), 1) := by decide +kernel
theorem dX1_nextLayer_46 : decode cX1_nextLayer 46 = .ok (.ireturn, 1) := by decide +kernel
theorem dX1_search_0 : decode cX1_search 0 = .ok (.aload_n 0, 1) := by decide +kernel
theorem dX1_search_1 : decode cX1_search 1 = .ok (.aload_n 1, 1) := by decide +kernel
theorem dX1_search_2 : decode cX1_search 2 = .ok (.invokevirtual 21, 3) := by decide +kernel
theorem dX1_search_5 : decode cX1_search 5 = .ok (.iconst 0, 1) := by decide +kernel
theorem dX1_search_6 : decode cX1_search 6 = .ok (.istore_n 3, 1) := by decide +kernel
theorem dX1_search_7 : decode cX1_search 7 = .ok (.iconst 0, 1) := by decide +kernel
theorem dX1_search_8 : decode cX1_search 8 = .ok (.istore 4, 2) := by decide +kernel
theorem dX1_search_10 : decode cX1_search 10 = .ok (.aload_n 0, 1) := by decide +kernel
theorem dX1_search_11 : decode cX1_search 11 = .ok (.getfield 9, 3) := by decide +kernel
theorem dX1_search_14 : decode cX1_search 14 = .ok (.iconst 0, 1) := by decide +kernel
theorem dX1_search_15 : decode cX1_search 15 = .ok (.iconst (-1), 1) := by decide +kernel
theorem dX1_search_16 : decode cX1_search 16 = .ok (.invokestatic 25, 3) := by decide +kernel
theorem dX1_search_19 : decode cX1_search 19 = .ok (.iconst 0, 1) := by decide +kernel
theorem dX1_search_20 : decode cX1_search 20 = .ok (.istore 5, 2) := by decide +kernel
theorem dX1_search_22 : decode cX1_search 22 = .ok (.iload 5, 2) := by decide +kernel
theorem dX1_search_24 : decode cX1_search 24 = .ok (.ldc 29, 2) := by decide +kernel
theorem dX1_search_26 : decode cX1_search 26 = .ok (.if_icmp .ge 96, 3) := by decide +kernel
theorem dX1_search_29 : decode cX1_search 29 = .ok (.iload 4, 2) := by decide +kernel
theorem dX1_search_31 : decode cX1_search 31 = .ok (.ifCond .lt 91, 3) := by decide +kernel
theorem dX1_search_34 : decode cX1_search 34 = .ok (.iload 4, 2) := by decide +kernel
theorem dX1_search_36 : decode cX1_search 36 = .ok (.aload_n 0, 1) := by decide +kernel
theorem dX1_search_37 : decode cX1_search 37 = .ok (.getfield 30, 3) := by decide +kernel
theorem dX1_search_40 : decode cX1_search 40 = .ok (.if_icmp .ge 12, 3) := by decide +kernel
theorem dX1_search_43 : decode cX1_search 43 = .ok (.aload_n 0, 1) := by decide +kernel
theorem dX1_search_44 : decode cX1_search 44 = .ok (.iload 4, 2) := by decide +kernel
theorem dX1_search_46 : decode cX1_search 46 = .ok (.invokevirtual 34, 3) := by decide +kernel
theorem dX1_search_49 : decode cX1_search 49 = .ok (.goto 4, 3) := by decide +kernel
theorem dX1_search_52 : decode cX1_search 52 = .ok (.iconst (-1), 1) := by decide +kernel
theorem dX1_search_53 : decode cX1_search 53 = .ok (.istore 6, 2) := by decide +kernel
theorem dX1_search_55 : decode cX1_search 55 = .ok (.iload 6, 2) := by decide +kernel
theorem dX1_search_57 : decode cX1_search 57 = .ok (.ifCond .lt 30, 3) := by decide +kernel
theorem dX1_search_60 : decode cX1_search 60 = .ok (.aload_n 0, 1) := by decide +kernel
theorem dX1_search_61 : decode cX1_search 61 = .ok (.getfield 9, 3) := by decide +kernel
theorem dX1_search_64 : decode cX1_search 64 = .ok (.iload 4, 2) := by decide +kernel
theorem dX1_search_66 : decode cX1_search 66 = .ok (.iload 6, 2) := by decide +kernel
theorem dX1_search_68 : decode cX1_search 68 = .ok (.invokestatic 25, 3) := by decide +kernel
theorem dX1_search_71 : decode cX1_search 71 = .ok (.iinc 4 1, 3) := by decide +kernel
theorem dX1_search_74 : decode cX1_search 74 = .ok (.aload_n 0, 1) := by decide +kernel
theorem dX1_search_75 : decode cX1_search 75 = .ok (.getfield 9, 3) := by decide +kernel
theorem dX1_search_78 : decode cX1_search 78 = .ok (.iload 4, 2) := by decide +kernel
theorem dX1_search_80 : decode cX1_search 80 = .ok (.iconst (-1), 1) := by decide +kernel
theorem dX1_search_81 : decode cX1_search 81 = .ok (.invokestatic 25, 3) := by decide +kernel
theorem dX1_search_84 : decode cX1_search 84 = .ok (.goto 32, 3) := by decide +kernel
theorem dX1_search_87 : decode cX1_search 87 = .ok (.iload 4, 2) := by decide +kernel
theorem dX1_search_89 : decode cX1_search 89 = .ok (.aload_n 0, 1) := by decide +kernel
theorem dX1_search_90 : decode cX1_search 90 = .ok (.getfield 30, 3) := by decide +kernel
theorem dX1_search_93 : decode cX1_search 93 = .ok (.if_icmp .ne 20, 3) := by decide +kernel
theorem dX1_search_96 : decode cX1_search 96 = .ok (.aload_n 0, 1) := by decide +kernel
theorem dX1_search_97 : decode cX1_search 97 = .ok (.invokevirtual 38, 3) := by decide +kernel
theorem dX1_search_100 : decode cX1_search 100 = .ok (.ifCond .ne 13, 3) := by decide +kernel
theorem dX1_search_103 : decode cX1_search 103 = .ok (.iinc 3 1, 3) := by decide +kernel
theorem dX1_search_106 : decode cX1_search 106 = .ok (.iload_n 3, 1) := by decide +kernel
theorem dX1_search_107 : decode cX1_search 107 = .ok (.iload_n 2, 1) := by decide +kernel
theorem dX1_search_108 : decode cX1_search 108 = .ok (.if_icmp .lt 5, 3) := by decide +kernel
theorem dX1_search_111 : decode cX1_search 111 = .ok (.iload_n 3, 1) := by decide +kernel
theorem dX1_search_112 : decode cX1_search 112 = .ok (.ireturn, 1) := by decide +kernel
theorem dX1_search_113 : decode cX1_search 113 = .ok (.iinc 4 (-1), 3) := by decide +kernel
theorem dX1_search_116 : decode cX1_search 116 = .ok (.iinc 5 1, 3) := by decide +kernel
theorem dX1_search_119 : decode cX1_search 119 = .ok (.goto (-97), 3) := by decide +kernel
theorem dX1_search_122 : decode cX1_search 122 = .ok (.iload_n 3, 1) := by decide +kernel
theorem dX1_search_123 : decode cX1_search 123 = .ok (.ireturn, 1) := by decide +kernel
theorem dX2_becomeEndOf_0 : decode cX2_becomeEndOf 0 = .ok (.aload_n 0, 1) := by decide +kernel
theorem dX2_becomeEndOf_1 : decode cX2_becomeEndOf 1 = .ok (.iconst 0, 1) := by decide +kernel
theorem dX2_becomeEndOf_2 : decode cX2_becomeEndOf 2 = .ok (.putfield 18, 3) := by decide +kernel
theorem dX2_becomeEndOf_5 : decode cX2_becomeEndOf 5 = .ok (.aload_n 0, 1) := by decide +kernel
theorem dX2_becomeEndOf_6 : decode cX2_becomeEndOf 6 = .ok (.iconst 0, 1) := by decide +kernel
theorem dX2_becomeEndOf_7 : decode cX2_becomeEndOf 7 = .ok (.putfield 22, 3) := by decide +kernel
theorem dX2_becomeEndOf_10 : decode cX2_becomeEndOf 10 = .ok (.aload_n 0, 1) := by decide +kernel
theorem dX2_becomeEndOf_11 : decode cX2_becomeEndOf 11 = .ok (.aload_n 1, 1) := by decide +kernel
theorem dX2_becomeEndOf_12 : decode cX2_becomeEndOf 12 = .ok (.getfield 26, 3) := by decide +kernel
theorem dX2_becomeEndOf_15 : decode cX2_becomeEndOf 15 = .ok (.iload_n 2, 1) := by decide +kernel
theorem dX2_becomeEndOf_16 : decode cX2_becomeEndOf 16 = .ok (.isub, 1) := by decide +kernel
theorem dX2_becomeEndOf_17 : decode cX2_becomeEndOf 17 = .ok (.putfield 26, 3) := by decide +kernel
theorem dX2_becomeEndOf_20 : decode cX2_becomeEndOf 20 = .ok (.iconst 0, 1) := by decide +kernel
theorem dX2_becomeEndOf_21 : decode cX2_becomeEndOf 21 = .ok (.istore_n 3, 1) := by decide +kernel
theorem dX2_becomeEndOf_22 : decode cX2_becomeEndOf 22 = .ok (.iload_n 3, 1) := by decide +kernel
theorem dX2_becomeEndOf_23 : decode cX2_becomeEndOf 23 = .ok (.aload_n 0, 1) := by decide +kernel
theorem dX2_becomeEndOf_24 : decode cX2_becomeEndOf 24 = .ok (.getfield 26, 3) := by decide +kernel
theorem dX2_becomeEndOf_27 : decode cX2_becomeEndOf 27 = .ok (.if_icmp .ge 45, 3) := by decide +kernel
theorem dX2_becomeEndOf_30 : decode cX2_becomeEndOf 30 = .ok (.aload_n 0, 1) := by decide +kernel
theorem dX2_becomeEndOf_31 : decode cX2_becomeEndOf 31 = .ok (.getfield 9, 3) := by decide +kernel
theorem dX2_becomeEndOf_34 : decode cX2_becomeEndOf 34 = .ok (.iload_n 3, 1) := by decide +kernel
theorem dX2_becomeEndOf_35 : decode cX2_becomeEndOf 35 = .ok (.aload_n 1, 1) := by decide +kernel
theorem dX2_becomeEndOf_36 : decode cX2_becomeEndOf 36 = .ok (.getfield 9, 3) := by decide +kernel
theorem dX2_becomeEndOf_39 : decode cX2_becomeEndOf 39 = .ok (.iload_n 2, 1) := by decide +kernel
theorem dX2_becomeEndOf_40 : decode cX2_becomeEndOf 40 = .ok (.iload_n 3, 1) := by decide +kernel
theorem dX2_becomeEndOf_41 : decode cX2_becomeEndOf 41 = .ok (.iadd, 1) := by decide +kernel
theorem dX2_becomeEndOf_42 : decode cX2_becomeEndOf 42 = .ok (.invokestatic 48, 3) := by decide +kernel
theorem dX2_becomeEndOf_45 : decode cX2_becomeEndOf 45 = .ok (.invokestatic 29, 3) := by decide +kernel
theorem dX2_becomeEndOf_48 : decode cX2_becomeEndOf 48 = .ok (.aload_n 0, 1) := by decide +kernel
theorem dX2_becomeEndOf_49 : decode cX2_becomeEndOf 49 = .ok (.getfield 15, 3) := by decide +kernel
theorem dX2_becomeEndOf_52 : decode cX2_becomeEndOf 52 = .ok (.iload_n 3, 1) := by decide +kernel
theorem dX2_becomeEndOf_53 : decode cX2_becomeEndOf 53 = .ok (.aload_n 1, 1) := by decide +kernel
theorem dX2_becomeEndOf_54 : decode cX2_becomeEndOf 54 = .ok (.getfield 15, 3) := by decide +kernel
theorem dX2_becomeEndOf_57 : decode cX2_becomeEndOf 57 = .ok (.iload_n 2, 1) := by decide +kernel
theorem dX2_becomeEndOf_58 : decode cX2_becomeEndOf 58 = .ok (.iload_n 3, 1) := by decide +kernel
theorem dX2_becomeEndOf_59 : decode cX2_becomeEndOf 59 = .ok (.iadd, 1) := by decide +kernel
theorem dX2_becomeEndOf_60 : decode cX2_becomeEndOf 60 = .ok (.invokestatic 48, 3) := by decide +kernel
theorem dX2_becomeEndOf_63 : decode cX2_becomeEndOf 63 = .ok (.invokestatic 29, 3) := by decide +kernel
theorem dX2_becomeEndOf_66 : decode cX2_becomeEndOf 66 = .ok (.iinc 3 1, 3) := by decide +kernel
theorem dX2_becomeEndOf_69 : decode cX2_becomeEndOf 69 = .ok (.goto (-47), 3) := by decide +kernel
theorem dX2_becomeEndOf_72 : decode cX2_becomeEndOf 72 = .ok (.return_, 1) := by decide +kernel
theorem dX2_becomeRotated_0 : decode cX2_becomeRotated 0 = .ok (.iconst 0, 1) := by decide +kernel
theorem dX2_becomeRotated_1 : decode cX2_becomeRotated 1 = .ok (.istore_n 3, 1) := by decide +kernel
theorem dX2_becomeRotated_2 : decode cX2_becomeRotated 2 = .ok (.iload_n 3, 1) := by decide +kernel
theorem dX2_becomeRotated_3 : decode cX2_becomeRotated 3 = .ok (.aload_n 0, 1) := by decide +kernel
theorem dX2_becomeRotated_4 : decode cX2_becomeRotated 4 = .ok (.getfield 26, 3) := by decide +kernel
theorem dX2_becomeRotated_7 : decode cX2_becomeRotated 7 = .ok (.if_icmp .ge 69, 3) := by decide +kernel
theorem dX2_becomeRotated_10 : decode cX2_becomeRotated 10 = .ok (.iload_n 2, 1) := by decide +kernel
theorem dX2_becomeRotated_11 : decode cX2_becomeRotated 11 = .ok (.iload_n 3, 1) := by decide +kernel
theorem dX2_becomeRotated_12 : decode cX2_becomeRotated 12 = .ok (.iadd, 1) := by decide +kernel
theorem dX2_becomeRotated_13 : decode cX2_becomeRotated 13 = .ok (.aload_n 0, 1) := by decide +kernel
theorem dX2_becomeRotated_14 : decode cX2_becomeRotated 14 = .ok (.getfield 26, 3) := by decide +kernel
theorem dX2_becomeRotated_17 : decode cX2_becomeRotated 17 = .ok (.if_icmp .ge 9, 3) := by decide +kernel
theorem dX2_becomeRotated_20 : decode cX2_becomeRotated 20 = .ok (.iload_n 2, 1) := by decide +kernel
theorem dX2_becomeRotated_21 : decode cX2_becomeRotated 21 = .ok (.iload_n 3, 1) := by decide +kernel
theorem dX2_becomeRotated_22 : decode cX2_becomeRotated 22 = .ok (.iadd, 1) := by decide +kernel
theorem dX2_becomeRotated_23 : decode cX2_becomeRotated 23 = .ok (.goto 11, 3) := by decide +kernel
theorem dX2_becomeRotated_26 : decode cX2_becomeRotated 26 = .ok (.iload_n 2, 1) := by decide +kernel
theorem dX2_becomeRotated_27 : decode cX2_becomeRotated 27 = .ok (.iload_n 3, 1) := by decide +kernel
theorem dX2_becomeRotated_28 : decode cX2_becomeRotated 28 = .ok (.iadd, 1) := by decide +kernel
theorem dX2_becomeRotated_29 : decode cX2_becomeRotated 29 = .ok (.aload_n 0, 1) := by decide +kernel
theorem dX2_becomeRotated_30 : decode cX2_becomeRotated 30 = .ok (.getfield 26, 3) := by decide +kernel
theorem dX2_becomeRotated_33 : decode cX2_becomeRotated 33 = .ok (.isub, 1) := by decide +kernel
theorem dX2_becomeRotated_34 : decode cX2_becomeRotated 34 = .ok (.istore 4, 2) := by decide +kernel
theorem dX2_becomeRotated_36 : decode cX2_becomeRotated 36 = .ok (.aload_n 0, 1) := by decide +kernel
theorem dX2_becomeRotated_37 : decode cX2_becomeRotated 37 = .ok (.getfield 9, 3) := by decide +kernel
theorem dX2_becomeRotated_40 : decode cX2_becomeRotated 40 = .ok (.iload_n 3, 1) := by decide +kernel
theorem dX2_becomeRotated_41 : decode cX2_becomeRotated 41 = .ok (.aload_n 1, 1) := by decide +kernel
theorem dX2_becomeRotated_42 : decode cX2_becomeRotated 42 = .ok (.getfield 9, 3) := by decide +kernel
theorem dX2_becomeRotated_45 : decode cX2_becomeRotated 45 = .ok (.iload 4, 2) := by decide +kernel
theorem dX2_becomeRotated_47 : decode cX2_becomeRotated 47 = .ok (.invokestatic 48, 3) := by decide +kernel
theorem dX2_becomeRotated_50 : decode cX2_becomeRotated 50 = .ok (.invokestatic 29, 3) := by decide +kernel
theorem dX2_becomeRotated_53 : decode cX2_becomeRotated 53 = .ok (.aload_n 0, 1) := by decide +kernel
theorem dX2_becomeRotated_54 : decode cX2_becomeRotated 54 = .ok (.getfield 15, 3) := by decide +kernel
theorem dX2_becomeRotated_57 : decode cX2_becomeRotated 57 = .ok (.iload_n 3, 1) := by decide +kernel
theorem dX2_becomeRotated_58 : decode cX2_becomeRotated 58 = .ok (.aload_n 1, 1) := by decide +kernel
theorem dX2_becomeRotated_59 : decode cX2_becomeRotated 59 = .ok (.getfield 15, 3) := by decide +kernel
theorem dX2_becomeRotated_62 : decode cX2_becomeRotated 62 = .ok (.iload 4, 2) := by decide +kernel
theorem dX2_becomeRotated_64 : decode cX2_becomeRotated 64 = .ok (.invokestatic 48, 3) := by decide +kernel
theorem dX2_becomeRotated_67 : decode cX2_becomeRotated 67 = .ok (.invokestatic 29, 3) := by decide +kernel
theorem dX2_becomeRotated_70 : decode cX2_becomeRotated 70 = .ok (.iinc 3 1, 3) := by decide +kernel
theorem dX2_becomeRotated_73 : decode cX2_becomeRotated 73 = .ok (.goto (-71), 3) := by decide +kernel
theorem dX2_becomeRotated_76 : decode cX2_becomeRotated 76 = .ok (.return_, 1) := by decide +kernel
theorem dX2_copyFrom_0 : decode cX2_copyFrom 0 = .ok (.aload_n 0, 1) := by decide +kernel
theorem dX2_copyFrom_1 : decode cX2_copyFrom 1 = .ok (.aload_n 1, 1) := by decide +kernel
theorem dX2_copyFrom_2 : decode cX2_copyFrom 2 = .ok (.getfield 18, 3) := by decide +kernel
theorem dX2_copyFrom_5 : decode cX2_copyFrom 5 = .ok (.putfield 18, 3) := by decide +kernel
theorem dX2_copyFrom_8 : decode cX2_copyFrom 8 = .ok (.aload_n 0, 1) := by decide +kernel
theorem dX2_copyFrom_9 : decode cX2_copyFrom 9 = .ok (.aload_n 1, 1) := by decide +kernel
theorem dX2_copyFrom_10 : decode cX2_copyFrom 10 = .ok (.getfield 26, 3) := by decide +kernel
theorem dX2_copyFrom_13 : decode cX2_copyFrom 13 = .ok (.putfield 26, 3) := by decide +kernel
theorem dX2_copyFrom_16 : decode cX2_copyFrom 16 = .ok (.aload_n 0, 1) := by decide +kernel
theorem dX2_copyFrom_17 : decode cX2_copyFrom 17 = .ok (.aload_n 1, 1) := by decide +kernel
theorem dX2_copyFrom_18 : decode cX2_copyFrom 18 = .ok (.getfield 22, 3) := by decide +kernel
theorem dX2_copyFrom_21 : decode cX2_copyFrom 21 = .ok (.putfield 22, 3) := by decide +kernel
theorem dX2_copyFrom_24 : decode cX2_copyFrom 24 = .ok (.aload_n 1, 1) := by decide +kernel
theorem dX2_copyFrom_25 : decode cX2_copyFrom 25 = .ok (.getfield 9, 3) := by decide +kernel
theorem dX2_copyFrom_28 : decode cX2_copyFrom 28 = .ok (.aload_n 0, 1) := by decide +kernel
theorem dX2_copyFrom_29 : decode cX2_copyFrom 29 = .ok (.getfield 9, 3) := by decide +kernel
theorem dX2_copyFrom_32 : decode cX2_copyFrom 32 = .ok (.invokestatic 44, 3) := by decide +kernel
theorem dX2_copyFrom_35 : decode cX2_copyFrom 35 = .ok (.aload_n 1, 1) := by decide +kernel
theorem dX2_copyFrom_36 : decode cX2_copyFrom 36 = .ok (.getfield 15, 3) := by decide +kernel
theorem dX2_copyFrom_39 : decode cX2_copyFrom 39 = .ok (.aload_n 0, 1) := by decide +kernel
theorem dX2_copyFrom_40 : decode cX2_copyFrom 40 = .ok (.getfield 15, 3) := by decide +kernel
theorem dX2_copyFrom_43 : decode cX2_copyFrom 43 = .ok (.invokestatic 44, 3) := by decide +kernel
theorem dX2_copyFrom_46 : decode cX2_copyFrom 46 = .ok (.return_, 1) := by decide +kernel
theorem dX2_countOf_0 : decode cX2_countOf 0 = .ok (.iconst 0, 1) := by decide +kernel
theorem dX2_countOf_1 : decode cX2_countOf 1 = .ok (.istore_n 2, 1) := by decide +kernel
theorem dX2_countOf_2 : decode cX2_countOf 2 = .ok (.iconst 0, 1) := by decide +kernel
theorem dX2_countOf_3 : decode cX2_countOf 3 = .ok (.istore_n 3, 1) := by decide +kernel
theorem dX2_countOf_4 : decode cX2_countOf 4 = .ok (.iload_n 3, 1) := by decide +kernel
theorem dX2_countOf_5 : decode cX2_countOf 5 = .ok (.aload_n 0, 1) := by decide +kernel
theorem dX2_countOf_6 : decode cX2_countOf 6 = .ok (.invokevirtual 37, 3) := by decide +kernel
theorem dX2_countOf_9 : decode cX2_countOf 9 = .ok (.if_icmp .ge 24, 3) := by decide +kernel
theorem dX2_countOf_12 : decode cX2_countOf 12 = .ok (.aload_n 0, 1) := by decide +kernel
theorem dX2_countOf_13 : decode cX2_countOf 13 = .ok (.getfield 15, 3) := by decide +kernel
theorem dX2_countOf_16 : decode cX2_countOf 16 = .ok (.iload_n 3, 1) := by decide +kernel
theorem dX2_countOf_17 : decode cX2_countOf 17 = .ok (.invokestatic 48, 3) := by decide +kernel
theorem dX2_countOf_20 : decode cX2_countOf 20 = .ok (.iload_n 1, 1) := by decide +kernel
theorem dX2_countOf_21 : decode cX2_countOf 21 = .ok (.if_icmp .ne 6, 3) := by decide +kernel
theorem dX2_countOf_24 : decode cX2_countOf 24 = .ok (.iinc 2 1, 3) := by decide +kernel
theorem dX2_countOf_27 : decode cX2_countOf 27 = .ok (.iinc 3 1, 3) := by decide +kernel
theorem dX2_countOf_30 : decode cX2_countOf 30 = .ok (.goto (-26), 3) := by decide +kernel
theorem dX2_countOf_33 : decode cX2_countOf 33 = .ok (.iload_n 2, 1) := by decide +kernel
theorem dX2_countOf_34 : decode cX2_countOf 34 = .ok (.ireturn, 1) := by decide +kernel
theorem dX2_creaseCount_0 : decode cX2_creaseCount 0 = .ok (.aload_n 0, 1) := by decide +kernel
theorem dX2_creaseCount_1 : decode cX2_creaseCount 1 = .ok (.getfield 18, 3) := by decide +kernel
theorem dX2_creaseCount_4 : decode cX2_creaseCount 4 = .ok (.ifCond .ne 12, 3) := by decide +kernel
theorem dX2_creaseCount_7 : decode cX2_creaseCount 7 = .ok (.aload_n 0, 1) := by decide +kernel
theorem dX2_creaseCount_8 : decode cX2_creaseCount 8 = .ok (.getfield 26, 3) := by decide +kernel
theorem dX2_creaseCount_11 : decode cX2_creaseCount 11 = .ok (.iconst 1, 1) := by decide +kernel
theorem dX2_creaseCount_12 : decode cX2_creaseCount 12 = .ok (.isub, 1) := by decide +kernel
theorem dX2_creaseCount_13 : decode cX2_creaseCount 13 = .ok (.goto 7, 3) := by decide +kernel
theorem dX2_creaseCount_16 : decode cX2_creaseCount 16 = .ok (.aload_n 0, 1) := by decide +kernel
theorem dX2_creaseCount_17 : decode cX2_creaseCount 17 = .ok (.getfield 26, 3) := by decide +kernel
theorem dX2_creaseCount_20 : decode cX2_creaseCount 20 = .ok (.ireturn, 1) := by decide +kernel
theorem dX2_greatestSize_0 : decode cX2_greatestSize 0 = .ok (.iconst 0, 1) := by decide +kernel
theorem dX2_greatestSize_1 : decode cX2_greatestSize 1 = .ok (.istore_n 1, 1) := by decide +kernel
theorem dX2_greatestSize_2 : decode cX2_greatestSize 2 = .ok (.iconst 0, 1) := by decide +kernel
theorem dX2_greatestSize_3 : decode cX2_greatestSize 3 = .ok (.istore_n 2, 1) := by decide +kernel
theorem dX2_greatestSize_4 : decode cX2_greatestSize 4 = .ok (.iload_n 2, 1) := by decide +kernel
theorem dX2_greatestSize_5 : decode cX2_greatestSize 5 = .ok (.aload_n 0, 1) := by decide +kernel
theorem dX2_greatestSize_6 : decode cX2_greatestSize 6 = .ok (.getfield 26, 3) := by decide +kernel
theorem dX2_greatestSize_9 : decode cX2_greatestSize 9 = .ok (.if_icmp .ge 22, 3) := by decide +kernel
theorem dX2_greatestSize_12 : decode cX2_greatestSize 12 = .ok (.iload_n 1, 1) := by decide +kernel
theorem dX2_greatestSize_13 : decode cX2_greatestSize 13 = .ok (.aload_n 0, 1) := by decide +kernel
theorem dX2_greatestSize_14 : decode cX2_greatestSize 14 = .ok (.getfield 9, 3) := by decide +kernel
theorem dX2_greatestSize_17 : decode cX2_greatestSize 17 = .ok (.iload_n 2, 1) := by decide +kernel
theorem dX2_greatestSize_18 : decode cX2_greatestSize 18 = .ok (.invokestatic 48, 3) := by decide +kernel
theorem dX2_greatestSize_21 : decode cX2_greatestSize 21 = .ok (.invokestatic 65, 3) := by decide +kernel
theorem dX2_greatestSize_24 : decode cX2_greatestSize 24 = .ok (.istore_n 1, 1) := by decide +kernel
theorem dX2_greatestSize_25 : decode cX2_greatestSize 25 = .ok (.iinc 2 1, 3) := by decide +kernel
theorem dX2_greatestSize_28 : decode cX2_greatestSize 28 = .ok (.goto (-24), 3) := by decide +kernel
theorem dX2_greatestSize_31 : decode cX2_greatestSize 31 = .ok (.iload_n 1, 1) := by decide +kernel
theorem dX2_greatestSize_32 : decode cX2_greatestSize 32 = .ok (.ireturn, 1) := by decide +kernel
theorem dX2_hasCrease_0 : decode cX2_hasCrease 0 = .ok (.iload_n 1, 1) := by decide +kernel
theorem dX2_hasCrease_1 : decode cX2_hasCrease 1 = .ok (.ifCond .lt 15, 3) := by decide +kernel
theorem dX2_hasCrease_4 : decode cX2_hasCrease 4 = .ok (.iload_n 1, 1) := by decide +kernel
theorem dX2_hasCrease_5 : decode cX2_hasCrease 5 = .ok (.aload_n 0, 1) := by decide +kernel
theorem dX2_hasCrease_6 : decode cX2_hasCrease 6 = .ok (.invokevirtual 37, 3) := by decide +kernel
theorem dX2_hasCrease_9 : decode cX2_hasCrease 9 = .ok (.if_icmp .ge 7, 3) := by decide +kernel
theorem dX2_hasCrease_12 : decode cX2_hasCrease 12 = .ok (.iconst 1, 1) := by decide +kernel
theorem dX2_hasCrease_13 : decode cX2_hasCrease 13 = .ok (.goto 4, 3) := by decide +kernel
theorem dX2_hasCrease_16 : decode cX2_hasCrease 16 = .ok (.iconst 0, 1) := by decide +kernel
theorem dX2_hasCrease_17 : decode cX2_hasCrease 17 = .ok (.ireturn, 1) := by decide +kernel
theorem dX2_isUndecided_0 : decode cX2_isUndecided 0 = .ok (.aload_n 0, 1) := by decide +kernel
theorem dX2_isUndecided_1 : decode cX2_isUndecided 1 = .ok (.iconst 0, 1) := by decide +kernel
theorem dX2_isUndecided_2 : decode cX2_isUndecided 2 = .ok (.invokevirtual 52, 3) := by decide +kernel
theorem dX2_isUndecided_5 : decode cX2_isUndecided 5 = .ok (.ifCond .le 7, 3) := by decide +kernel
theorem dX2_isUndecided_8 : decode cX2_isUndecided 8 = .ok (.iconst 1, 1) := by decide +kernel
theorem dX2_isUndecided_9 : decode cX2_isUndecided 9 = .ok (.goto 4, 3) := by decide +kernel
theorem dX2_isUndecided_12 : decode cX2_isUndecided 12 = .ok (.iconst 0, 1) := by decide +kernel
theorem dX2_isUndecided_13 : decode cX2_isUndecided 13 = .ok (.ireturn, 1) := by decide +kernel
theorem dX2_leftEndOf_0 : decode cX2_leftEndOf 0 = .ok (.aload_n 0, 1) := by decide +kernel
theorem dX2_leftEndOf_1 : decode cX2_leftEndOf 1 = .ok (.iload_n 1, 1) := by decide +kernel
theorem dX2_leftEndOf_2 : decode cX2_leftEndOf 2 = .ok (.invokevirtual 56, 3) := by decide +kernel
theorem dX2_leftEndOf_5 : decode cX2_leftEndOf 5 = .ok (.aload_n 0, 1) := by decide +kernel
theorem dX2_leftEndOf_6 : decode cX2_leftEndOf 6 = .ok (.iload_n 1, 1) := by decide +kernel
theorem dX2_leftEndOf_7 : decode cX2_leftEndOf 7 = .ok (.iconst 1, 1) := by decide +kernel
theorem dX2_leftEndOf_8 : decode cX2_leftEndOf 8 = .ok (.iadd, 1) := by decide +kernel
theorem dX2_leftEndOf_9 : decode cX2_leftEndOf 9 = .ok (.invokevirtual 56, 3) := by decide +kernel
theorem dX2_leftEndOf_12 : decode cX2_leftEndOf 12 = .ok (.invokestatic 59, 3) := by decide +kernel
theorem dX2_leftEndOf_15 : decode cX2_leftEndOf 15 = .ok (.ireturn, 1) := by decide +kernel
theorem dX2_lengthenBy_0 : decode cX2_lengthenBy 0 = .ok (.aload_n 0, 1) := by decide +kernel
theorem dX2_lengthenBy_1 : decode cX2_lengthenBy 1 = .ok (.getfield 15, 3) := by decide +kernel
theorem dX2_lengthenBy_4 : decode cX2_lengthenBy 4 = .ok (.aload_n 0, 1) := by decide +kernel
theorem dX2_lengthenBy_5 : decode cX2_lengthenBy 5 = .ok (.getfield 26, 3) := by decide +kernel
theorem dX2_lengthenBy_8 : decode cX2_lengthenBy 8 = .ok (.iconst 1, 1) := by decide +kernel
theorem dX2_lengthenBy_9 : decode cX2_lengthenBy 9 = .ok (.isub, 1) := by decide +kernel
theorem dX2_lengthenBy_10 : decode cX2_lengthenBy 10 = .ok (.iload_n 2, 1) := by decide +kernel
theorem dX2_lengthenBy_11 : decode cX2_lengthenBy 11 = .ok (.invokestatic 29, 3) := by decide +kernel
theorem dX2_lengthenBy_14 : decode cX2_lengthenBy 14 = .ok (.iconst 0, 1) := by decide +kernel
theorem dX2_lengthenBy_15 : decode cX2_lengthenBy 15 = .ok (.istore_n 3, 1) := by decide +kernel
theorem dX2_lengthenBy_16 : decode cX2_lengthenBy 16 = .ok (.iload_n 3, 1) := by decide +kernel
theorem dX2_lengthenBy_17 : decode cX2_lengthenBy 17 = .ok (.aload_n 1, 1) := by decide +kernel
theorem dX2_lengthenBy_18 : decode cX2_lengthenBy 18 = .ok (.getfield 26, 3) := by decide +kernel
theorem dX2_lengthenBy_21 : decode cX2_lengthenBy 21 = .ok (.if_icmp .ge 51, 3) := by decide +kernel
theorem dX2_lengthenBy_24 : decode cX2_lengthenBy 24 = .ok (.aload_n 0, 1) := by decide +kernel
theorem dX2_lengthenBy_25 : decode cX2_lengthenBy 25 = .ok (.getfield 9, 3) := by decide +kernel
theorem dX2_lengthenBy_28 : decode cX2_lengthenBy 28 = .ok (.aload_n 0, 1) := by decide +kernel
theorem dX2_lengthenBy_29 : decode cX2_lengthenBy 29 = .ok (.getfield 26, 3) := by decide +kernel
theorem dX2_lengthenBy_32 : decode cX2_lengthenBy 32 = .ok (.iload_n 3, 1) := by decide +kernel
theorem dX2_lengthenBy_33 : decode cX2_lengthenBy 33 = .ok (.iadd, 1) := by decide +kernel
theorem dX2_lengthenBy_34 : decode cX2_lengthenBy 34 = .ok (.aload_n 1, 1) := by decide +kernel
theorem dX2_lengthenBy_35 : decode cX2_lengthenBy 35 = .ok (.getfield 9, 3) := by decide +kernel
theorem dX2_lengthenBy_38 : decode cX2_lengthenBy 38 = .ok (.iload_n 3, 1) := by decide +kernel
theorem dX2_lengthenBy_39 : decode cX2_lengthenBy 39 = .ok (.invokestatic 48, 3) := by decide +kernel
theorem dX2_lengthenBy_42 : decode cX2_lengthenBy 42 = .ok (.invokestatic 29, 3) := by decide +kernel
theorem dX2_lengthenBy_45 : decode cX2_lengthenBy 45 = .ok (.aload_n 0, 1) := by decide +kernel
theorem dX2_lengthenBy_46 : decode cX2_lengthenBy 46 = .ok (.getfield 15, 3) := by decide +kernel
theorem dX2_lengthenBy_49 : decode cX2_lengthenBy 49 = .ok (.aload_n 0, 1) := by decide +kernel
theorem dX2_lengthenBy_50 : decode cX2_lengthenBy 50 = .ok (.getfield 26, 3) := by decide +kernel
theorem dX2_lengthenBy_53 : decode cX2_lengthenBy 53 = .ok (.iload_n 3, 1) := by decide +kernel
theorem dX2_lengthenBy_54 : decode cX2_lengthenBy 54 = .ok (.iadd, 1) := by decide +kernel
theorem dX2_lengthenBy_55 : decode cX2_lengthenBy 55 = .ok (.aload_n 1, 1) := by decide +kernel
theorem dX2_lengthenBy_56 : decode cX2_lengthenBy 56 = .ok (.getfield 15, 3) := by decide +kernel
theorem dX2_lengthenBy_59 : decode cX2_lengthenBy 59 = .ok (.iload_n 3, 1) := by decide +kernel
theorem dX2_lengthenBy_60 : decode cX2_lengthenBy 60 = .ok (.invokestatic 48, 3) := by decide +kernel
theorem dX2_lengthenBy_63 : decode cX2_lengthenBy 63 = .ok (.invokestatic 29, 3) := by decide +kernel
theorem dX2_lengthenBy_66 : decode cX2_lengthenBy 66 = .ok (.iinc 3 1, 3) := by decide +kernel
theorem dX2_lengthenBy_69 : decode cX2_lengthenBy 69 = .ok (.goto (-53), 3) := by decide +kernel
theorem dX2_lengthenBy_72 : decode cX2_lengthenBy 72 = .ok (.aload_n 0, 1) := by decide +kernel
theorem dX2_lengthenBy_73 : decode cX2_lengthenBy 73 = .ok (.dup, 1) := by decide +kernel
theorem dX2_lengthenBy_74 : decode cX2_lengthenBy 74 = .ok (.getfield 26, 3) := by decide +kernel
theorem dX2_lengthenBy_77 : decode cX2_lengthenBy 77 = .ok (.aload_n 1, 1) := by decide +kernel
theorem dX2_lengthenBy_78 : decode cX2_lengthenBy 78 = .ok (.getfield 26, 3) := by decide +kernel
theorem dX2_lengthenBy_81 : decode cX2_lengthenBy 81 = .ok (.iadd, 1) := by decide +kernel
theorem dX2_lengthenBy_82 : decode cX2_lengthenBy 82 = .ok (.putfield 26, 3) := by decide +kernel
theorem dX2_lengthenBy_85 : decode cX2_lengthenBy 85 = .ok (.return_, 1) := by decide +kernel
theorem dX2_lowestUndecided_0 : decode cX2_lowestUndecided 0 = .ok (.iconst 0, 1) := by decide +kernel
theorem dX2_lowestUndecided_1 : decode cX2_lowestUndecided 1 = .ok (.istore_n 1, 1) := by decide +kernel
theorem dX2_lowestUndecided_2 : decode cX2_lowestUndecided 2 = .ok (.iconst 0, 1) := by decide +kernel
theorem dX2_lowestUndecided_3 : decode cX2_lowestUndecided 3 = .ok (.istore_n 2, 1) := by decide +kernel
theorem dX2_lowestUndecided_4 : decode cX2_lowestUndecided 4 = .ok (.iload_n 2, 1) := by decide +kernel
theorem dX2_lowestUndecided_5 : decode cX2_lowestUndecided 5 = .ok (.aload_n 0, 1) := by decide +kernel
theorem dX2_lowestUndecided_6 : decode cX2_lowestUndecided 6 = .ok (.invokevirtual 37, 3) := by decide +kernel
theorem dX2_lowestUndecided_9 : decode cX2_lowestUndecided 9 = .ok (.if_icmp .ge 24, 3) := by decide +kernel
theorem dX2_lowestUndecided_12 : decode cX2_lowestUndecided 12 = .ok (.aload_n 0, 1) := by decide +kernel
theorem dX2_lowestUndecided_13 : decode cX2_lowestUndecided 13 = .ok (.getfield 15, 3) := by decide +kernel
theorem dX2_lowestUndecided_16 : decode cX2_lowestUndecided 16 = .ok (.iload_n 2, 1) := by decide +kernel
theorem dX2_lowestUndecided_17 : decode cX2_lowestUndecided 17 = .ok (.invokestatic 48, 3) := by decide +kernel
theorem dX2_lowestUndecided_20 : decode cX2_lowestUndecided 20 = .ok (.ifCond .eq 13, 3) := by decide +kernel
theorem dX2_lowestUndecided_23 : decode cX2_lowestUndecided 23 = .ok (.iload_n 2, 1) := by decide +kernel
theorem dX2_lowestUndecided_24 : decode cX2_lowestUndecided 24 = .ok (.iconst 1, 1) := by decide +kernel
theorem dX2_lowestUndecided_25 : decode cX2_lowestUndecided 25 = .ok (.iadd, 1) := by decide +kernel
theorem dX2_lowestUndecided_26 : decode cX2_lowestUndecided 26 = .ok (.istore_n 1, 1) := by decide +kernel
theorem dX2_lowestUndecided_27 : decode cX2_lowestUndecided 27 = .ok (.iinc 2 1, 3) := by decide +kernel
theorem dX2_lowestUndecided_30 : decode cX2_lowestUndecided 30 = .ok (.goto (-26), 3) := by decide +kernel
theorem dX2_lowestUndecided_33 : decode cX2_lowestUndecided 33 = .ok (.iload_n 1, 1) := by decide +kernel
theorem dX2_lowestUndecided_34 : decode cX2_lowestUndecided 34 = .ok (.ireturn, 1) := by decide +kernel
theorem dX2_panelsBehind_0 : decode cX2_panelsBehind 0 = .ok (.iconst 0, 1) := by decide +kernel
theorem dX2_panelsBehind_1 : decode cX2_panelsBehind 1 = .ok (.istore_n 2, 1) := by decide +kernel
theorem dX2_panelsBehind_2 : decode cX2_panelsBehind 2 = .ok (.iconst 0, 1) := by decide +kernel
theorem dX2_panelsBehind_3 : decode cX2_panelsBehind 3 = .ok (.istore_n 3, 1) := by decide +kernel
theorem dX2_panelsBehind_4 : decode cX2_panelsBehind 4 = .ok (.iload_n 3, 1) := by decide +kernel
theorem dX2_panelsBehind_5 : decode cX2_panelsBehind 5 = .ok (.aload_n 0, 1) := by decide +kernel
theorem dX2_panelsBehind_6 : decode cX2_panelsBehind 6 = .ok (.getfield 26, 3) := by decide +kernel
theorem dX2_panelsBehind_9 : decode cX2_panelsBehind 9 = .ok (.if_icmp .ge 30, 3) := by decide +kernel
theorem dX2_panelsBehind_12 : decode cX2_panelsBehind 12 = .ok (.aload_n 0, 1) := by decide +kernel
theorem dX2_panelsBehind_13 : decode cX2_panelsBehind 13 = .ok (.iload_n 3, 1) := by decide +kernel
theorem dX2_panelsBehind_14 : decode cX2_panelsBehind 14 = .ok (.invokevirtual 71, 3) := by decide +kernel
theorem dX2_panelsBehind_17 : decode cX2_panelsBehind 17 = .ok (.iload_n 1, 1) := by decide +kernel
theorem dX2_panelsBehind_18 : decode cX2_panelsBehind 18 = .ok (.if_icmp .gt 15, 3) := by decide +kernel
theorem dX2_panelsBehind_21 : decode cX2_panelsBehind 21 = .ok (.iload_n 1, 1) := by decide +kernel
theorem dX2_panelsBehind_22 : decode cX2_panelsBehind 22 = .ok (.aload_n 0, 1) := by decide +kernel
theorem dX2_panelsBehind_23 : decode cX2_panelsBehind 23 = .ok (.iload_n 3, 1) := by decide +kernel
theorem dX2_panelsBehind_24 : decode cX2_panelsBehind 24 = .ok (.invokevirtual 77, 3) := by decide +kernel
theorem dX2_panelsBehind_27 : decode cX2_panelsBehind 27 = .ok (.if_icmp .ge 6, 3) := by decide +kernel
theorem dX2_panelsBehind_30 : decode cX2_panelsBehind 30 = .ok (.iinc 2 1, 3) := by decide +kernel
theorem dX2_panelsBehind_33 : decode cX2_panelsBehind 33 = .ok (.iinc 3 1, 3) := by decide +kernel
theorem dX2_panelsBehind_36 : decode cX2_panelsBehind 36 = .ok (.goto (-32), 3) := by decide +kernel
theorem dX2_panelsBehind_39 : decode cX2_panelsBehind 39 = .ok (.iload_n 2, 1) := by decide +kernel
theorem dX2_panelsBehind_40 : decode cX2_panelsBehind 40 = .ok (.ireturn, 1) := by decide +kernel
theorem dX2_placeOf_0 : decode cX2_placeOf 0 = .ok (.iconst 0, 1) := by decide +kernel
theorem dX2_placeOf_1 : decode cX2_placeOf 1 = .ok (.istore_n 2, 1) := by decide +kernel
theorem dX2_placeOf_2 : decode cX2_placeOf 2 = .ok (.iconst 0, 1) := by decide +kernel
theorem dX2_placeOf_3 : decode cX2_placeOf 3 = .ok (.istore_n 3, 1) := by decide +kernel
theorem dX2_placeOf_4 : decode cX2_placeOf 4 = .ok (.iload_n 3, 1) := by decide +kernel
theorem dX2_placeOf_5 : decode cX2_placeOf 5 = .ok (.iload_n 1, 1) := by decide +kernel
theorem dX2_placeOf_6 : decode cX2_placeOf 6 = .ok (.if_icmp .ge 46, 3) := by decide +kernel
theorem dX2_placeOf_9 : decode cX2_placeOf 9 = .ok (.iload_n 3, 1) := by decide +kernel
theorem dX2_placeOf_10 : decode cX2_placeOf 10 = .ok (.aload_n 0, 1) := by decide +kernel
theorem dX2_placeOf_11 : decode cX2_placeOf 11 = .ok (.getfield 26, 3) := by decide +kernel
theorem dX2_placeOf_14 : decode cX2_placeOf 14 = .ok (.if_icmp .ge 38, 3) := by decide +kernel
theorem dX2_placeOf_17 : decode cX2_placeOf 17 = .ok (.iload_n 2, 1) := by decide +kernel
theorem dX2_placeOf_18 : decode cX2_placeOf 18 = .ok (.iload_n 3, 1) := by decide +kernel
theorem dX2_placeOf_19 : decode cX2_placeOf 19 = .ok (.iconst 2, 1) := by decide +kernel
theorem dX2_placeOf_20 : decode cX2_placeOf 20 = .ok (.irem, 1) := by decide +kernel
theorem dX2_placeOf_21 : decode cX2_placeOf 21 = .ok (.ifCond .ne 14, 3) := by decide +kernel
theorem dX2_placeOf_24 : decode cX2_placeOf 24 = .ok (.aload_n 0, 1) := by decide +kernel
theorem dX2_placeOf_25 : decode cX2_placeOf 25 = .ok (.getfield 9, 3) := by decide +kernel
theorem dX2_placeOf_28 : decode cX2_placeOf 28 = .ok (.iload_n 3, 1) := by decide +kernel
theorem dX2_placeOf_29 : decode cX2_placeOf 29 = .ok (.invokestatic 48, 3) := by decide +kernel
theorem dX2_placeOf_32 : decode cX2_placeOf 32 = .ok (.goto 12, 3) := by decide +kernel
theorem dX2_placeOf_35 : decode cX2_placeOf 35 = .ok (.aload_n 0, 1) := by decide +kernel
theorem dX2_placeOf_36 : decode cX2_placeOf 36 = .ok (.getfield 9, 3) := by decide +kernel
theorem dX2_placeOf_39 : decode cX2_placeOf 39 = .ok (.iload_n 3, 1) := by decide +kernel
theorem dX2_placeOf_40 : decode cX2_placeOf 40 = .ok (.invokestatic 48, 3) := by decide +kernel
theorem dX2_placeOf_43 : decode cX2_placeOf 43 = .ok (.ineg, 1) := by decide +kernel
theorem dX2_placeOf_44 : decode cX2_placeOf 44 = .ok (.iadd, 1) := by decide +kernel
theorem dX2_placeOf_45 : decode cX2_placeOf 45 = .ok (.istore_n 2, 1) := by decide +kernel
theorem dX2_placeOf_46 : decode cX2_placeOf 46 = .ok (.iinc 3 1, 3) := by decide +kernel
theorem dX2_placeOf_49 : decode cX2_placeOf 49 = .ok (.goto (-45), 3) := by decide +kernel
theorem dX2_placeOf_52 : decode cX2_placeOf 52 = .ok (.iload_n 2, 1) := by decide +kernel
theorem dX2_placeOf_53 : decode cX2_placeOf 53 = .ok (.ireturn, 1) := by decide +kernel
theorem dX2_reflection_0 : decode cX2_reflection 0 = .ok (.iconst 0, 1) := by decide +kernel
theorem dX2_reflection_1 : decode cX2_reflection 1 = .ok (.istore_n 1, 1) := by decide +kernel
theorem dX2_reflection_2 : decode cX2_reflection 2 = .ok (.iconst 0, 1) := by decide +kernel
theorem dX2_reflection_3 : decode cX2_reflection 3 = .ok (.istore_n 2, 1) := by decide +kernel
theorem dX2_reflection_4 : decode cX2_reflection 4 = .ok (.iconst 0, 1) := by decide +kernel
theorem dX2_reflection_5 : decode cX2_reflection 5 = .ok (.istore_n 3, 1) := by decide +kernel
theorem dX2_reflection_6 : decode cX2_reflection 6 = .ok (.iload_n 3, 1) := by decide +kernel
theorem dX2_reflection_7 : decode cX2_reflection 7 = .ok (.aload_n 0, 1) := by decide +kernel
theorem dX2_reflection_8 : decode cX2_reflection 8 = .ok (.getfield 26, 3) := by decide +kernel
theorem dX2_reflection_11 : decode cX2_reflection 11 = .ok (.if_icmp .ge 31, 3) := by decide +kernel
theorem dX2_reflection_14 : decode cX2_reflection 14 = .ok (.iconst 2, 1) := by decide +kernel
theorem dX2_reflection_15 : decode cX2_reflection 15 = .ok (.iload_n 2, 1) := by decide +kernel
theorem dX2_reflection_16 : decode cX2_reflection 16 = .ok (.imul, 1) := by decide +kernel
theorem dX2_reflection_17 : decode cX2_reflection 17 = .ok (.iload_n 1, 1) := by decide +kernel
theorem dX2_reflection_18 : decode cX2_reflection 18 = .ok (.isub, 1) := by decide +kernel
theorem dX2_reflection_19 : decode cX2_reflection 19 = .ok (.bipush 24, 2) := by decide +kernel
theorem dX2_reflection_21 : decode cX2_reflection 21 = .ok (.invokestatic 80, 3) := by decide +kernel
theorem dX2_reflection_24 : decode cX2_reflection 24 = .ok (.istore_n 1, 1) := by decide +kernel
theorem dX2_reflection_25 : decode cX2_reflection 25 = .ok (.iload_n 2, 1) := by decide +kernel
theorem dX2_reflection_26 : decode cX2_reflection 26 = .ok (.aload_n 0, 1) := by decide +kernel
theorem dX2_reflection_27 : decode cX2_reflection 27 = .ok (.getfield 9, 3) := by decide +kernel
theorem dX2_reflection_30 : decode cX2_reflection 30 = .ok (.iload_n 3, 1) := by decide +kernel
theorem dX2_reflection_31 : decode cX2_reflection 31 = .ok (.invokestatic 48, 3) := by decide +kernel
theorem dX2_reflection_34 : decode cX2_reflection 34 = .ok (.iadd, 1) := by decide +kernel
theorem dX2_reflection_35 : decode cX2_reflection 35 = .ok (.istore_n 2, 1) := by decide +kernel
theorem dX2_reflection_36 : decode cX2_reflection 36 = .ok (.iinc 3 1, 3) := by decide +kernel
theorem dX2_reflection_39 : decode cX2_reflection 39 = .ok (.goto (-33), 3) := by decide +kernel
theorem dX2_reflection_42 : decode cX2_reflection 42 = .ok (.iload_n 1, 1) := by decide +kernel
theorem dX2_reflection_43 : decode cX2_reflection 43 = .ok (.ireturn, 1) := by decide +kernel
theorem dX2_rightEndOf_0 : decode cX2_rightEndOf 0 = .ok (.aload_n 0, 1) := by decide +kernel
theorem dX2_rightEndOf_1 : decode cX2_rightEndOf 1 = .ok (.iload_n 1, 1) := by decide +kernel
theorem dX2_rightEndOf_2 : decode cX2_rightEndOf 2 = .ok (.invokevirtual 56, 3) := by decide +kernel
theorem dX2_rightEndOf_5 : decode cX2_rightEndOf 5 = .ok (.aload_n 0, 1) := by decide +kernel
theorem dX2_rightEndOf_6 : decode cX2_rightEndOf 6 = .ok (.iload_n 1, 1) := by decide +kernel
theorem dX2_rightEndOf_7 : decode cX2_rightEndOf 7 = .ok (.iconst 1, 1) := by decide +kernel
theorem dX2_rightEndOf_8 : decode cX2_rightEndOf 8 = .ok (.iadd, 1) := by decide +kernel
theorem dX2_rightEndOf_9 : decode cX2_rightEndOf 9 = .ok (.invokevirtual 56, 3) := by decide +kernel
theorem dX2_rightEndOf_12 : decode cX2_rightEndOf 12 = .ok (.invokestatic 65, 3) := by decide +kernel
theorem dX2_rightEndOf_15 : decode cX2_rightEndOf 15 = .ok (.ireturn, 1) := by decide +kernel
theorem dX2_sizesAsNumber_0 : decode cX2_sizesAsNumber 0 = .ok (.iconst 0, 1) := by decide +kernel
theorem dX2_sizesAsNumber_1 : decode cX2_sizesAsNumber 1 = .ok (.istore_n 1, 1) := by decide +kernel
theorem dX2_sizesAsNumber_2 : decode cX2_sizesAsNumber 2 = .ok (.iconst 0, 1) := by decide +kernel
theorem dX2_sizesAsNumber_3 : decode cX2_sizesAsNumber 3 = .ok (.istore_n 2, 1) := by decide +kernel
theorem dX2_sizesAsNumber_4 : decode cX2_sizesAsNumber 4 = .ok (.iload_n 2, 1) := by decide +kernel
theorem dX2_sizesAsNumber_5 : decode cX2_sizesAsNumber 5 = .ok (.aload_n 0, 1) := by decide +kernel
theorem dX2_sizesAsNumber_6 : decode cX2_sizesAsNumber 6 = .ok (.getfield 26, 3) := by decide +kernel
theorem dX2_sizesAsNumber_9 : decode cX2_sizesAsNumber 9 = .ok (.if_icmp .ge 23, 3) := by decide +kernel
theorem dX2_sizesAsNumber_12 : decode cX2_sizesAsNumber 12 = .ok (.iload_n 1, 1) := by decide +kernel
theorem dX2_sizesAsNumber_13 : decode cX2_sizesAsNumber 13 = .ok (.bipush 10, 2) := by decide +kernel
theorem dX2_sizesAsNumber_15 : decode cX2_sizesAsNumber 15 = .ok (.imul, 1) := by decide +kernel
theorem dX2_sizesAsNumber_16 : decode cX2_sizesAsNumber 16 = .ok (.aload_n 0, 1) := by decide +kernel
theorem dX2_sizesAsNumber_17 : decode cX2_sizesAsNumber 17 = .ok (.getfield 9, 3) := by decide +kernel
theorem dX2_sizesAsNumber_20 : decode cX2_sizesAsNumber 20 = .ok (.iload_n 2, 1) := by decide +kernel
theorem dX2_sizesAsNumber_21 : decode cX2_sizesAsNumber 21 = .ok (.invokestatic 48, 3) := by decide +kernel
theorem dX2_sizesAsNumber_24 : decode cX2_sizesAsNumber 24 = .ok (.iadd, 1) := by decide +kernel
theorem dX2_sizesAsNumber_25 : decode cX2_sizesAsNumber 25 = .ok (.istore_n 1, 1) := by decide +kernel
theorem dX2_sizesAsNumber_26 : decode cX2_sizesAsNumber 26 = .ok (.iinc 2 1, 3) := by decide +kernel
theorem dX2_sizesAsNumber_29 : decode cX2_sizesAsNumber 29 = .ok (.goto (-25), 3) := by decide +kernel
theorem dX2_sizesAsNumber_32 : decode cX2_sizesAsNumber 32 = .ok (.iload_n 1, 1) := by decide +kernel
theorem dX2_sizesAsNumber_33 : decode cX2_sizesAsNumber 33 = .ok (.ireturn, 1) := by decide +kernel
theorem dX2_sum_0 : decode cX2_sum 0 = .ok (.iconst 0, 1) := by decide +kernel
theorem dX2_sum_1 : decode cX2_sum 1 = .ok (.istore_n 1, 1) := by decide +kernel
theorem dX2_sum_2 : decode cX2_sum 2 = .ok (.iconst 0, 1) := by decide +kernel
theorem dX2_sum_3 : decode cX2_sum 3 = .ok (.istore_n 2, 1) := by decide +kernel
theorem dX2_sum_4 : decode cX2_sum 4 = .ok (.iload_n 2, 1) := by decide +kernel
theorem dX2_sum_5 : decode cX2_sum 5 = .ok (.aload_n 0, 1) := by decide +kernel
theorem dX2_sum_6 : decode cX2_sum 6 = .ok (.getfield 26, 3) := by decide +kernel
theorem dX2_sum_9 : decode cX2_sum 9 = .ok (.if_icmp .ge 20, 3) := by decide +kernel
theorem dX2_sum_12 : decode cX2_sum 12 = .ok (.iload_n 1, 1) := by decide +kernel
theorem dX2_sum_13 : decode cX2_sum 13 = .ok (.aload_n 0, 1) := by decide +kernel
theorem dX2_sum_14 : decode cX2_sum 14 = .ok (.getfield 9, 3) := by decide +kernel
theorem dX2_sum_17 : decode cX2_sum 17 = .ok (.iload_n 2, 1) := by decide +kernel
theorem dX2_sum_18 : decode cX2_sum 18 = .ok (.invokestatic 48, 3) := by decide +kernel
theorem dX2_sum_21 : decode cX2_sum 21 = .ok (.iadd, 1) := by decide +kernel
theorem dX2_sum_22 : decode cX2_sum 22 = .ok (.istore_n 1, 1) := by decide +kernel
theorem dX2_sum_23 : decode cX2_sum 23 = .ok (.iinc 2 1, 3) := by decide +kernel
theorem dX2_sum_26 : decode cX2_sum 26 = .ok (.goto (-22), 3) := by decide +kernel
theorem dX2_sum_29 : decode cX2_sum 29 = .ok (.iload_n 1, 1) := by decide +kernel
theorem dX2_sum_30 : decode cX2_sum 30 = .ok (.ireturn, 1) := by decide +kernel
theorem dX2_takeCreases_0 : decode cX2_takeCreases 0 = .ok (.iload_n 1, 1) := by decide +kernel
theorem dX2_takeCreases_1 : decode cX2_takeCreases 1 = .ok (.ifCond .lt 7, 3) := by decide +kernel
theorem dX2_takeCreases_4 : decode cX2_takeCreases 4 = .ok (.iconst 1, 1) := by decide +kernel
theorem dX2_takeCreases_5 : decode cX2_takeCreases 5 = .ok (.goto 4, 3) := by decide +kernel
theorem dX2_takeCreases_8 : decode cX2_takeCreases 8 = .ok (.iconst 0, 1) := by decide +kernel
theorem dX2_takeCreases_9 : decode cX2_takeCreases 9 = .ok (.istore_n 2, 1) := by decide +kernel
theorem dX2_takeCreases_10 : decode cX2_takeCreases 10 = .ok (.iload_n 1, 1) := by decide +kernel
theorem dX2_takeCreases_11 : decode cX2_takeCreases 11 = .ok (.istore_n 3, 1) := by decide +kernel
theorem dX2_takeCreases_12 : decode cX2_takeCreases 12 = .ok (.aload_n 0, 1) := by decide +kernel
theorem dX2_takeCreases_13 : decode cX2_takeCreases 13 = .ok (.invokevirtual 37, 3) := by decide +kernel
theorem dX2_takeCreases_16 : decode cX2_takeCreases 16 = .ok (.iconst 1, 1) := by decide +kernel
theorem dX2_takeCreases_17 : decode cX2_takeCreases 17 = .ok (.isub, 1) := by decide +kernel
theorem dX2_takeCreases_18 : decode cX2_takeCreases 18 = .ok (.istore 4, 2) := by decide +kernel
theorem dX2_takeCreases_20 : decode cX2_takeCreases 20 = .ok (.iload 4, 2) := by decide +kernel
theorem dX2_takeCreases_22 : decode cX2_takeCreases 22 = .ok (.ifCond .lt 47, 3) := by decide +kernel
theorem dX2_takeCreases_25 : decode cX2_takeCreases 25 = .ok (.iload_n 2, 1) := by decide +kernel
theorem dX2_takeCreases_26 : decode cX2_takeCreases 26 = .ok (.ifCond .eq 17, 3) := by decide +kernel
theorem dX2_takeCreases_29 : decode cX2_takeCreases 29 = .ok (.iload_n 3, 1) := by decide +kernel
theorem dX2_takeCreases_30 : decode cX2_takeCreases 30 = .ok (.bipush 10, 2) := by decide +kernel
theorem dX2_takeCreases_32 : decode cX2_takeCreases 32 = .ok (.irem, 1) := by decide +kernel
theorem dX2_takeCreases_33 : decode cX2_takeCreases 33 = .ok (.invokestatic 40, 3) := by decide +kernel
theorem dX2_takeCreases_36 : decode cX2_takeCreases 36 = .ok (.ifCond .eq 7, 3) := by decide +kernel
theorem dX2_takeCreases_39 : decode cX2_takeCreases 39 = .ok (.iconst 1, 1) := by decide +kernel
theorem dX2_takeCreases_40 : decode cX2_takeCreases 40 = .ok (.goto 4, 3) := by decide +kernel
theorem dX2_takeCreases_43 : decode cX2_takeCreases 43 = .ok (.iconst 0, 1) := by decide +kernel
theorem dX2_takeCreases_44 : decode cX2_takeCreases 44 = .ok (.istore_n 2, 1) := by decide +kernel
theorem dX2_takeCreases_45 : decode cX2_takeCreases 45 = .ok (.aload_n 0, 1) := by decide +kernel
theorem dX2_takeCreases_46 : decode cX2_takeCreases 46 = .ok (.getfield 15, 3) := by decide +kernel
theorem dX2_takeCreases_49 : decode cX2_takeCreases 49 = .ok (.iload 4, 2) := by decide +kernel
theorem dX2_takeCreases_51 : decode cX2_takeCreases 51 = .ok (.iload_n 3, 1) := by decide +kernel
theorem dX2_takeCreases_52 : decode cX2_takeCreases 52 = .ok (.bipush 10, 2) := by decide +kernel
theorem dX2_takeCreases_54 : decode cX2_takeCreases 54 = .ok (.irem, 1) := by decide +kernel
theorem dX2_takeCreases_55 : decode cX2_takeCreases 55 = .ok (.invokestatic 29, 3) := by decide +kernel
theorem dX2_takeCreases_58 : decode cX2_takeCreases 58 = .ok (.iload_n 3, 1) := by decide +kernel
theorem dX2_takeCreases_59 : decode cX2_takeCreases 59 = .ok (.bipush 10, 2) := by decide +kernel
theorem dX2_takeCreases_61 : decode cX2_takeCreases 61 = .ok (.idiv, 1) := by decide +kernel
theorem dX2_takeCreases_62 : decode cX2_takeCreases 62 = .ok (.istore_n 3, 1) := by decide +kernel
theorem dX2_takeCreases_63 : decode cX2_takeCreases 63 = .ok (.iinc 4 (-1), 3) := by decide +kernel
theorem dX2_takeCreases_66 : decode cX2_takeCreases 66 = .ok (.goto (-46), 3) := by decide +kernel
theorem dX2_takeCreases_69 : decode cX2_takeCreases 69 = .ok (.iload_n 2, 1) := by decide +kernel
theorem dX2_takeCreases_70 : decode cX2_takeCreases 70 = .ok (.ifCond .eq 11, 3) := by decide +kernel
theorem dX2_takeCreases_73 : decode cX2_takeCreases 73 = .ok (.iload_n 3, 1) := by decide +kernel
theorem dX2_takeCreases_74 : decode cX2_takeCreases 74 = .ok (.ifCond .ne 7, 3) := by decide +kernel
theorem dX2_takeCreases_77 : decode cX2_takeCreases 77 = .ok (.iconst 1, 1) := by decide +kernel
theorem dX2_takeCreases_78 : decode cX2_takeCreases 78 = .ok (.goto 4, 3) := by decide +kernel
theorem dX2_takeCreases_81 : decode cX2_takeCreases 81 = .ok (.iconst 0, 1) := by decide +kernel
theorem dX2_takeCreases_82 : decode cX2_takeCreases 82 = .ok (.ireturn, 1) := by decide +kernel
theorem dX2_takeSizes_0 : decode cX2_takeSizes 0 = .ok (.aload_n 0, 1) := by decide +kernel
theorem dX2_takeSizes_1 : decode cX2_takeSizes 1 = .ok (.iload_n 1, 1) := by decide +kernel
theorem dX2_takeSizes_2 : decode cX2_takeSizes 2 = .ok (.putfield 18, 3) := by decide +kernel
theorem dX2_takeSizes_5 : decode cX2_takeSizes 5 = .ok (.aload_n 0, 1) := by decide +kernel
theorem dX2_takeSizes_6 : decode cX2_takeSizes 6 = .ok (.iconst 0, 1) := by decide +kernel
theorem dX2_takeSizes_7 : decode cX2_takeSizes 7 = .ok (.putfield 22, 3) := by decide +kernel
theorem dX2_takeSizes_10 : decode cX2_takeSizes 10 = .ok (.aload_n 0, 1) := by decide +kernel
theorem dX2_takeSizes_11 : decode cX2_takeSizes 11 = .ok (.iconst 0, 1) := by decide +kernel
theorem dX2_takeSizes_12 : decode cX2_takeSizes 12 = .ok (.putfield 26, 3) := by decide +kernel
theorem dX2_takeSizes_15 : decode cX2_takeSizes 15 = .ok (.iload_n 2, 1) := by decide +kernel
theorem dX2_takeSizes_16 : decode cX2_takeSizes 16 = .ok (.istore_n 3, 1) := by decide +kernel
theorem dX2_takeSizes_17 : decode cX2_takeSizes 17 = .ok (.iconst 0, 1) := by decide +kernel
theorem dX2_takeSizes_18 : decode cX2_takeSizes 18 = .ok (.istore 4, 2) := by decide +kernel
theorem dX2_takeSizes_20 : decode cX2_takeSizes 20 = .ok (.iload 4, 2) := by decide +kernel
theorem dX2_takeSizes_22 : decode cX2_takeSizes 22 = .ok (.bipush 8, 2) := by decide +kernel
theorem dX2_takeSizes_24 : decode cX2_takeSizes 24 = .ok (.if_icmp .ge 28, 3) := by decide +kernel
theorem dX2_takeSizes_27 : decode cX2_takeSizes 27 = .ok (.iload_n 3, 1) := by decide +kernel
theorem dX2_takeSizes_28 : decode cX2_takeSizes 28 = .ok (.ifCond .le 24, 3) := by decide +kernel
theorem dX2_takeSizes_31 : decode cX2_takeSizes 31 = .ok (.iload_n 3, 1) := by decide +kernel
theorem dX2_takeSizes_32 : decode cX2_takeSizes 32 = .ok (.bipush 10, 2) := by decide +kernel
theorem dX2_takeSizes_34 : decode cX2_takeSizes 34 = .ok (.idiv, 1) := by decide +kernel
theorem dX2_takeSizes_35 : decode cX2_takeSizes 35 = .ok (.istore_n 3, 1) := by decide +kernel
theorem dX2_takeSizes_36 : decode cX2_takeSizes 36 = .ok (.aload_n 0, 1) := by decide +kernel
theorem dX2_takeSizes_37 : decode cX2_takeSizes 37 = .ok (.dup, 1) := by decide +kernel
theorem dX2_takeSizes_38 : decode cX2_takeSizes 38 = .ok (.getfield 26, 3) := by decide +kernel
theorem dX2_takeSizes_41 : decode cX2_takeSizes 41 = .ok (.iconst 1, 1) := by decide +kernel
theorem dX2_takeSizes_42 : decode cX2_takeSizes 42 = .ok (.iadd, 1) := by decide +kernel
theorem dX2_takeSizes_43 : decode cX2_takeSizes 43 = .ok (.putfield 26, 3) := by decide +kernel
theorem dX2_takeSizes_46 : decode cX2_takeSizes 46 = .ok (.iinc 4 1, 3) := by decide +kernel
theorem dX2_takeSizes_49 : decode cX2_takeSizes 49 = .ok (.goto (-29), 3) := by decide +kernel
theorem dX2_takeSizes_52 : decode cX2_takeSizes 52 = .ok (.iload_n 3, 1) := by decide +kernel
theorem dX2_takeSizes_53 : decode cX2_takeSizes 53 = .ok (.ifCond .eq 5, 3) := by decide +kernel
theorem dX2_takeSizes_56 : decode cX2_takeSizes 56 = .ok (.iconst 0, 1) := by decide +kernel
theorem dX2_takeSizes_57 : decode cX2_takeSizes 57 = .ok (.ireturn, 1) := by decide +kernel
theorem dX2_takeSizes_58 : decode cX2_takeSizes 58 = .ok (.iload_n 2, 1) := by decide +kernel
theorem dX2_takeSizes_59 : decode cX2_takeSizes 59 = .ok (.istore_n 3, 1) := by decide +kernel
theorem dX2_takeSizes_60 : decode cX2_takeSizes 60 = .ok (.aload_n 0, 1) := by decide +kernel
theorem dX2_takeSizes_61 : decode cX2_takeSizes 61 = .ok (.getfield 26, 3) := by decide +kernel
theorem dX2_takeSizes_64 : decode cX2_takeSizes 64 = .ok (.iconst 1, 1) := by decide +kernel
theorem dX2_takeSizes_65 : decode cX2_takeSizes 65 = .ok (.isub, 1) := by decide +kernel
theorem dX2_takeSizes_66 : decode cX2_takeSizes 66 = .ok (.istore 4, 2) := by decide +kernel
theorem dX2_takeSizes_68 : decode cX2_takeSizes 68 = .ok (.iload 4, 2) := by decide +kernel
theorem dX2_takeSizes_70 : decode cX2_takeSizes 70 = .ok (.ifCond .lt 36, 3) := by decide +kernel
theorem dX2_takeSizes_73 : decode cX2_takeSizes 73 = .ok (.iload_n 3, 1) := by decide +kernel
theorem dX2_takeSizes_74 : decode cX2_takeSizes 74 = .ok (.bipush 10, 2) := by decide +kernel
theorem dX2_takeSizes_76 : decode cX2_takeSizes 76 = .ok (.irem, 1) := by decide +kernel
theorem dX2_takeSizes_77 : decode cX2_takeSizes 77 = .ok (.ifCond .ne 5, 3) := by decide +kernel
theorem dX2_takeSizes_80 : decode cX2_takeSizes 80 = .ok (.iconst 0, 1) := by decide +kernel
theorem dX2_takeSizes_81 : decode cX2_takeSizes 81 = .ok (.ireturn, 1) := by decide +kernel
theorem dX2_takeSizes_82 : decode cX2_takeSizes 82 = .ok (.aload_n 0, 1) := by decide +kernel
theorem dX2_takeSizes_83 : decode cX2_takeSizes 83 = .ok (.getfield 9, 3) := by decide +kernel
theorem dX2_takeSizes_86 : decode cX2_takeSizes 86 = .ok (.iload 4, 2) := by decide +kernel
theorem dX2_takeSizes_88 : decode cX2_takeSizes 88 = .ok (.iload_n 3, 1) := by decide +kernel
theorem dX2_takeSizes_89 : decode cX2_takeSizes 89 = .ok (.bipush 10, 2) := by decide +kernel
theorem dX2_takeSizes_91 : decode cX2_takeSizes 91 = .ok (.irem, 1) := by decide +kernel
theorem dX2_takeSizes_92 : decode cX2_takeSizes 92 = .ok (.invokestatic 29, 3) := by decide +kernel
theorem dX2_takeSizes_95 : decode cX2_takeSizes 95 = .ok (.iload_n 3, 1) := by decide +kernel
theorem dX2_takeSizes_96 : decode cX2_takeSizes 96 = .ok (.bipush 10, 2) := by decide +kernel
theorem dX2_takeSizes_98 : decode cX2_takeSizes 98 = .ok (.idiv, 1) := by decide +kernel
theorem dX2_takeSizes_99 : decode cX2_takeSizes 99 = .ok (.istore_n 3, 1) := by decide +kernel
theorem dX2_takeSizes_100 : decode cX2_takeSizes 100 = .ok (.iinc 4 (-1), 3) := by decide +kernel
theorem dX2_takeSizes_103 : decode cX2_takeSizes 103 = .ok (.goto (-35), 3) := by decide +kernel
theorem dX2_takeSizes_106 : decode cX2_takeSizes 106 = .ok (.aload_n 0, 1) := by decide +kernel
theorem dX2_takeSizes_107 : decode cX2_takeSizes 107 = .ok (.getfield 18, 3) := by decide +kernel
theorem dX2_takeSizes_110 : decode cX2_takeSizes 110 = .ok (.ifCond .ne 26, 3) := by decide +kernel
theorem dX2_takeSizes_113 : decode cX2_takeSizes 113 = .ok (.aload_n 0, 1) := by decide +kernel
theorem dX2_takeSizes_114 : decode cX2_takeSizes 114 = .ok (.getfield 26, 3) := by decide +kernel
theorem dX2_takeSizes_117 : decode cX2_takeSizes 117 = .ok (.iconst 2, 1) := by decide +kernel
theorem dX2_takeSizes_118 : decode cX2_takeSizes 118 = .ok (.if_icmp .lt 16, 3) := by decide +kernel
theorem dX2_takeSizes_121 : decode cX2_takeSizes 121 = .ok (.aload_n 0, 1) := by decide +kernel
theorem dX2_takeSizes_122 : decode cX2_takeSizes 122 = .ok (.getfield 26, 3) := by decide +kernel
theorem dX2_takeSizes_125 : decode cX2_takeSizes 125 = .ok (.bipush 7, 2) := by decide +kernel
theorem dX2_takeSizes_127 : decode cX2_takeSizes 127 = .ok (.if_icmp .gt 7, 3) := by decide +kernel
theorem dX2_takeSizes_130 : decode cX2_takeSizes 130 = .ok (.iconst 1, 1) := by decide +kernel
theorem dX2_takeSizes_131 : decode cX2_takeSizes 131 = .ok (.goto 4, 3) := by decide +kernel
theorem dX2_takeSizes_134 : decode cX2_takeSizes 134 = .ok (.iconst 0, 1) := by decide +kernel
theorem dX2_takeSizes_135 : decode cX2_takeSizes 135 = .ok (.ireturn, 1) := by decide +kernel
theorem dX2_takeSizes_136 : decode cX2_takeSizes 136 = .ok (.aload_n 0, 1) := by decide +kernel
theorem dX2_takeSizes_137 : decode cX2_takeSizes 137 = .ok (.getfield 26, 3) := by decide +kernel
theorem dX2_takeSizes_140 : decode cX2_takeSizes 140 = .ok (.iconst 4, 1) := by decide +kernel
theorem dX2_takeSizes_141 : decode cX2_takeSizes 141 = .ok (.if_icmp .eq 21, 3) := by decide +kernel
theorem dX2_takeSizes_144 : decode cX2_takeSizes 144 = .ok (.aload_n 0, 1) := by decide +kernel
theorem dX2_takeSizes_145 : decode cX2_takeSizes 145 = .ok (.getfield 26, 3) := by decide +kernel
theorem dX2_takeSizes_148 : decode cX2_takeSizes 148 = .ok (.bipush 6, 2) := by decide +kernel
theorem dX2_takeSizes_150 : decode cX2_takeSizes 150 = .ok (.if_icmp .eq 12, 3) := by decide +kernel
theorem dX2_takeSizes_153 : decode cX2_takeSizes 153 = .ok (.aload_n 0, 1) := by decide +kernel
theorem dX2_takeSizes_154 : decode cX2_takeSizes 154 = .ok (.getfield 26, 3) := by decide +kernel
theorem dX2_takeSizes_157 : decode cX2_takeSizes 157 = .ok (.bipush 8, 2) := by decide +kernel
theorem dX2_takeSizes_159 : decode cX2_takeSizes 159 = .ok (.if_icmp .ne 16, 3) := by decide +kernel
theorem dX2_takeSizes_162 : decode cX2_takeSizes 162 = .ok (.aload_n 0, 1) := by decide +kernel
theorem dX2_takeSizes_163 : decode cX2_takeSizes 163 = .ok (.invokevirtual 33, 3) := by decide +kernel
theorem dX2_takeSizes_166 : decode cX2_takeSizes 166 = .ok (.bipush 24, 2) := by decide +kernel
theorem dX2_takeSizes_168 : decode cX2_takeSizes 168 = .ok (.if_icmp .ne 7, 3) := by decide +kernel
theorem dX2_takeSizes_171 : decode cX2_takeSizes 171 = .ok (.iconst 1, 1) := by decide +kernel
theorem dX2_takeSizes_172 : decode cX2_takeSizes 172 = .ok (.goto 4, 3) := by decide +kernel
theorem dX2_takeSizes_175 : decode cX2_takeSizes 175 = .ok (.iconst 0, 1) := by decide +kernel
theorem dX2_takeSizes_176 : decode cX2_takeSizes 176 = .ok (.ireturn, 1) := by decide +kernel
theorem dX2_thickness_0 : decode cX2_thickness 0 = .ok (.iconst 0, 1) := by decide +kernel
theorem dX2_thickness_1 : decode cX2_thickness 1 = .ok (.istore_n 1, 1) := by decide +kernel
theorem dX2_thickness_2 : decode cX2_thickness 2 = .ok (.iconst 0, 1) := by decide +kernel
theorem dX2_thickness_3 : decode cX2_thickness 3 = .ok (.istore_n 2, 1) := by decide +kernel
theorem dX2_thickness_4 : decode cX2_thickness 4 = .ok (.iload_n 2, 1) := by decide +kernel
theorem dX2_thickness_5 : decode cX2_thickness 5 = .ok (.aload_n 0, 1) := by decide +kernel
theorem dX2_thickness_6 : decode cX2_thickness 6 = .ok (.getfield 26, 3) := by decide +kernel
theorem dX2_thickness_9 : decode cX2_thickness 9 = .ok (.if_icmp .ge 23, 3) := by decide +kernel
theorem dX2_thickness_12 : decode cX2_thickness 12 = .ok (.iload_n 1, 1) := by decide +kernel
theorem dX2_thickness_13 : decode cX2_thickness 13 = .ok (.aload_n 0, 1) := by decide +kernel
theorem dX2_thickness_14 : decode cX2_thickness 14 = .ok (.aload_n 0, 1) := by decide +kernel
theorem dX2_thickness_15 : decode cX2_thickness 15 = .ok (.iload_n 2, 1) := by decide +kernel
theorem dX2_thickness_16 : decode cX2_thickness 16 = .ok (.invokevirtual 71, 3) := by decide +kernel
theorem dX2_thickness_19 : decode cX2_thickness 19 = .ok (.invokevirtual 74, 3) := by decide +kernel
theorem dX2_thickness_22 : decode cX2_thickness 22 = .ok (.invokestatic 65, 3) := by decide +kernel
theorem dX2_thickness_25 : decode cX2_thickness 25 = .ok (.istore_n 1, 1) := by decide +kernel
theorem dX2_thickness_26 : decode cX2_thickness 26 = .ok (.iinc 2 1, 3) := by decide +kernel
theorem dX2_thickness_29 : decode cX2_thickness 29 = .ok (.goto (-25), 3) := by decide +kernel
theorem dX2_thickness_32 : decode cX2_thickness 32 = .ok (.iload_n 1, 1) := by decide +kernel
theorem dX2_thickness_33 : decode cX2_thickness 33 = .ok (.ireturn, 1) := by decide +kernel
theorem dX2_turnOver_0 : decode cX2_turnOver 0 = .ok (.iconst 0, 1) := by decide +kernel
theorem dX2_turnOver_1 : decode cX2_turnOver 1 = .ok (.istore_n 1, 1) := by decide +kernel
theorem dX2_turnOver_2 : decode cX2_turnOver 2 = .ok (.iload_n 1, 1) := by decide +kernel
theorem dX2_turnOver_3 : decode cX2_turnOver 3 = .ok (.aload_n 0, 1) := by decide +kernel
theorem dX2_turnOver_4 : decode cX2_turnOver 4 = .ok (.invokevirtual 37, 3) := by decide +kernel
theorem dX2_turnOver_7 : decode cX2_turnOver 7 = .ok (.if_icmp .ge 40, 3) := by decide +kernel
theorem dX2_turnOver_10 : decode cX2_turnOver 10 = .ok (.aload_n 0, 1) := by decide +kernel
theorem dX2_turnOver_11 : decode cX2_turnOver 11 = .ok (.getfield 15, 3) := by decide +kernel
theorem dX2_turnOver_14 : decode cX2_turnOver 14 = .ok (.iload_n 1, 1) := by decide +kernel
theorem dX2_turnOver_15 : decode cX2_turnOver 15 = .ok (.invokestatic 48, 3) := by decide +kernel
theorem dX2_turnOver_18 : decode cX2_turnOver 18 = .ok (.istore_n 2, 1) := by decide +kernel
theorem dX2_turnOver_19 : decode cX2_turnOver 19 = .ok (.iload_n 2, 1) := by decide +kernel
theorem dX2_turnOver_20 : decode cX2_turnOver 20 = .ok (.ifCond .eq 21, 3) := by decide +kernel
theorem dX2_turnOver_23 : decode cX2_turnOver 23 = .ok (.aload_n 0, 1) := by decide +kernel
theorem dX2_turnOver_24 : decode cX2_turnOver 24 = .ok (.getfield 15, 3) := by decide +kernel
theorem dX2_turnOver_27 : decode cX2_turnOver 27 = .ok (.iload_n 1, 1) := by decide +kernel
theorem dX2_turnOver_28 : decode cX2_turnOver 28 = .ok (.iload_n 2, 1) := by decide +kernel
theorem dX2_turnOver_29 : decode cX2_turnOver 29 = .ok (.iconst 1, 1) := by decide +kernel
theorem dX2_turnOver_30 : decode cX2_turnOver 30 = .ok (.if_icmp .ne 7, 3) := by decide +kernel
theorem dX2_turnOver_33 : decode cX2_turnOver 33 = .ok (.iconst 2, 1) := by decide +kernel
theorem dX2_turnOver_34 : decode cX2_turnOver 34 = .ok (.goto 4, 3) := by decide +kernel
theorem dX2_turnOver_37 : decode cX2_turnOver 37 = .ok (.iconst 1, 1) := by decide +kernel
theorem dX2_turnOver_38 : decode cX2_turnOver 38 = .ok (.invokestatic 29, 3) := by decide +kernel
theorem dX2_turnOver_41 : decode cX2_turnOver 41 = .ok (.iinc 1 1, 3) := by decide +kernel
theorem dX2_turnOver_44 : decode cX2_turnOver 44 = .ok (.goto (-42), 3) := by decide +kernel
theorem dX2_turnOver_47 : decode cX2_turnOver 47 = .ok (.return_, 1) := by decide +kernel
theorem dX2_width_0 : decode cX2_width 0 = .ok (.aload_n 0, 1) := by decide +kernel
theorem dX2_width_1 : decode cX2_width 1 = .ok (.getfield 18, 3) := by decide +kernel
theorem dX2_width_4 : decode cX2_width 4 = .ok (.iconst 1, 1) := by decide +kernel
theorem dX2_width_5 : decode cX2_width 5 = .ok (.if_icmp .ne 8, 3) := by decide +kernel
theorem dX2_width_8 : decode cX2_width 8 = .ok (.aload_n 0, 1) := by decide +kernel
theorem dX2_width_9 : decode cX2_width 9 = .ok (.invokevirtual 68, 3) := by decide +kernel
theorem dX2_width_12 : decode cX2_width 12 = .ok (.ireturn, 1) := by decide +kernel
theorem dX2_width_13 : decode cX2_width 13 = .ok (.iconst 0, 1) := by decide +kernel
theorem dX2_width_14 : decode cX2_width 14 = .ok (.istore_n 1, 1) := by decide +kernel
theorem dX2_width_15 : decode cX2_width 15 = .ok (.iconst 0, 1) := by decide +kernel
theorem dX2_width_16 : decode cX2_width 16 = .ok (.istore_n 2, 1) := by decide +kernel
theorem dX2_width_17 : decode cX2_width 17 = .ok (.iconst 0, 1) := by decide +kernel
theorem dX2_width_18 : decode cX2_width 18 = .ok (.istore_n 3, 1) := by decide +kernel
theorem dX2_width_19 : decode cX2_width 19 = .ok (.iload_n 3, 1) := by decide +kernel
theorem dX2_width_20 : decode cX2_width 20 = .ok (.aload_n 0, 1) := by decide +kernel
theorem dX2_width_21 : decode cX2_width 21 = .ok (.getfield 26, 3) := by decide +kernel
theorem dX2_width_24 : decode cX2_width 24 = .ok (.if_icmp .ge 33, 3) := by decide +kernel
theorem dX2_width_27 : decode cX2_width 27 = .ok (.iload_n 1, 1) := by decide +kernel
theorem dX2_width_28 : decode cX2_width 28 = .ok (.aload_n 0, 1) := by decide +kernel
theorem dX2_width_29 : decode cX2_width 29 = .ok (.iload_n 3, 1) := by decide +kernel
theorem dX2_width_30 : decode cX2_width 30 = .ok (.iconst 1, 1) := by decide +kernel
theorem dX2_width_31 : decode cX2_width 31 = .ok (.iadd, 1) := by decide +kernel
theorem dX2_width_32 : decode cX2_width 32 = .ok (.invokevirtual 56, 3) := by decide +kernel
theorem dX2_width_35 : decode cX2_width 35 = .ok (.invokestatic 59, 3) := by decide +kernel
theorem dX2_width_38 : decode cX2_width 38 = .ok (.istore_n 1, 1) := by decide +kernel
theorem dX2_width_39 : decode cX2_width 39 = .ok (.iload_n 2, 1) := by decide +kernel
theorem dX2_width_40 : decode cX2_width 40 = .ok (.aload_n 0, 1) := by decide +kernel
theorem dX2_width_41 : decode cX2_width 41 = .ok (.iload_n 3, 1) := by decide +kernel
theorem dX2_width_42 : decode cX2_width 42 = .ok (.iconst 1, 1) := by decide +kernel
theorem dX2_width_43 : decode cX2_width 43 = .ok (.iadd, 1) := by decide +kernel
theorem dX2_width_44 : decode cX2_width 44 = .ok (.invokevirtual 56, 3) := by decide +kernel
theorem dX2_width_47 : decode cX2_width 47 = .ok (.invokestatic 65, 3) := by decide +kernel
theorem dX2_width_50 : decode cX2_width 50 = .ok (.istore_n 2, 1) := by decide +kernel
theorem dX2_width_51 : decode cX2_width 51 = .ok (.iinc 3 1, 3) := by decide +kernel
theorem dX2_width_54 : decode cX2_width 54 = .ok (.goto (-35), 3) := by decide +kernel
theorem dX2_width_57 : decode cX2_width 57 = .ok (.iload_n 2, 1) := by decide +kernel
theorem dX2_width_58 : decode cX2_width 58 = .ok (.iload_n 1, 1) := by decide +kernel
theorem dX2_width_59 : decode cX2_width 59 = .ok (.isub, 1) := by decide +kernel
theorem dX2_width_60 : decode cX2_width 60 = .ok (.ireturn, 1) := by decide +kernel
theorem dX3_after_0 : decode cX3_after 0 = .ok (.iload_n 1, 1) := by decide +kernel
theorem dX3_after_1 : decode cX3_after 1 = .ok (.aload_n 0, 1) := by decide +kernel
theorem dX3_after_2 : decode cX3_after 2 = .ok (.getfield 28, 3) := by decide +kernel
theorem dX3_after_5 : decode cX3_after 5 = .ok (.iconst 1, 1) := by decide +kernel
theorem dX3_after_6 : decode cX3_after 6 = .ok (.isub, 1) := by decide +kernel
theorem dX3_after_7 : decode cX3_after 7 = .ok (.if_icmp .ge 9, 3) := by decide +kernel
theorem dX3_after_10 : decode cX3_after 10 = .ok (.iload_n 1, 1) := by decide +kernel
theorem dX3_after_11 : decode cX3_after 11 = .ok (.iconst 1, 1) := by decide +kernel
theorem dX3_after_12 : decode cX3_after 12 = .ok (.iadd, 1) := by decide +kernel
theorem dX3_after_13 : decode cX3_after 13 = .ok (.goto 4, 3) := by decide +kernel
theorem dX3_after_16 : decode cX3_after 16 = .ok (.iconst 0, 1) := by decide +kernel
theorem dX3_after_17 : decode cX3_after 17 = .ok (.ireturn, 1) := by decide +kernel
theorem dX3_before_0 : decode cX3_before 0 = .ok (.iload_n 1, 1) := by decide +kernel
theorem dX3_before_1 : decode cX3_before 1 = .ok (.ifCond .le 9, 3) := by decide +kernel
theorem dX3_before_4 : decode cX3_before 4 = .ok (.iload_n 1, 1) := by decide +kernel
theorem dX3_before_5 : decode cX3_before 5 = .ok (.iconst 1, 1) := by decide +kernel
theorem dX3_before_6 : decode cX3_before 6 = .ok (.isub, 1) := by decide +kernel
theorem dX3_before_7 : decode cX3_before 7 = .ok (.goto 9, 3) := by decide +kernel
theorem dX3_before_10 : decode cX3_before 10 = .ok (.aload_n 0, 1) := by decide +kernel
theorem dX3_before_11 : decode cX3_before 11 = .ok (.getfield 28, 3) := by decide +kernel
theorem dX3_before_14 : decode cX3_before 14 = .ok (.iconst 1, 1) := by decide +kernel
theorem dX3_before_15 : decode cX3_before 15 = .ok (.isub, 1) := by decide +kernel
theorem dX3_before_16 : decode cX3_before 16 = .ok (.ireturn, 1) := by decide +kernel
theorem dX3_changesTo_0 : decode cX3_changesTo 0 = .ok (.iconst 0, 1) := by decide +kernel
theorem dX3_changesTo_1 : decode cX3_changesTo 1 = .ok (.istore_n 2, 1) := by decide +kernel
theorem dX3_changesTo_2 : decode cX3_changesTo 2 = .ok (.iconst 0, 1) := by decide +kernel
theorem dX3_changesTo_3 : decode cX3_changesTo 3 = .ok (.istore_n 3, 1) := by decide +kernel
theorem dX3_changesTo_4 : decode cX3_changesTo 4 = .ok (.iload_n 3, 1) := by decide +kernel
theorem dX3_changesTo_5 : decode cX3_changesTo 5 = .ok (.aload_n 0, 1) := by decide +kernel
theorem dX3_changesTo_6 : decode cX3_changesTo 6 = .ok (.invokevirtual 34, 3) := by decide +kernel
theorem dX3_changesTo_9 : decode cX3_changesTo 9 = .ok (.if_icmp .ge 37, 3) := by decide +kernel
theorem dX3_changesTo_12 : decode cX3_changesTo 12 = .ok (.aload_n 0, 1) := by decide +kernel
theorem dX3_changesTo_13 : decode cX3_changesTo 13 = .ok (.getfield 38, 3) := by decide +kernel
theorem dX3_changesTo_16 : decode cX3_changesTo 16 = .ok (.iload_n 3, 1) := by decide +kernel
theorem dX3_changesTo_17 : decode cX3_changesTo 17 = .ok (.invokestatic 39, 3) := by decide +kernel
theorem dX3_changesTo_20 : decode cX3_changesTo 20 = .ok (.istore 4, 2) := by decide +kernel
theorem dX3_changesTo_22 : decode cX3_changesTo 22 = .ok (.iload 4, 2) := by decide +kernel
theorem dX3_changesTo_24 : decode cX3_changesTo 24 = .ok (.ifCond .eq 16, 3) := by decide +kernel
theorem dX3_changesTo_27 : decode cX3_changesTo 27 = .ok (.iload 4, 2) := by decide +kernel
theorem dX3_changesTo_29 : decode cX3_changesTo 29 = .ok (.iload_n 1, 1) := by decide +kernel
theorem dX3_changesTo_30 : decode cX3_changesTo 30 = .ok (.iload_n 3, 1) := by decide +kernel
theorem dX3_changesTo_31 : decode cX3_changesTo 31 = .ok (.invokestatic 94, 3) := by decide +kernel
theorem dX3_changesTo_34 : decode cX3_changesTo 34 = .ok (.if_icmp .eq 6, 3) := by decide +kernel
theorem dX3_changesTo_37 : decode cX3_changesTo 37 = .ok (.iinc 2 1, 3) := by decide +kernel
theorem dX3_changesTo_40 : decode cX3_changesTo 40 = .ok (.iinc 3 1, 3) := by decide +kernel
theorem dX3_changesTo_43 : decode cX3_changesTo 43 = .ok (.goto (-39), 3) := by decide +kernel
theorem dX3_changesTo_46 : decode cX3_changesTo 46 = .ok (.iload_n 2, 1) := by decide +kernel
theorem dX3_changesTo_47 : decode cX3_changesTo 47 = .ok (.ireturn, 1) := by decide +kernel
theorem dX3_countWays_0 : decode cX3_countWays 0 = .ok (.iconst 0, 1) := by decide +kernel
theorem dX3_countWays_1 : decode cX3_countWays 1 = .ok (.istore_n 2, 1) := by decide +kernel
theorem dX3_countWays_2 : decode cX3_countWays 2 = .ok (.iconst 0, 1) := by decide +kernel
theorem dX3_countWays_3 : decode cX3_countWays 3 = .ok (.istore_n 3, 1) := by decide +kernel
theorem dX3_countWays_4 : decode cX3_countWays 4 = .ok (.iload_n 3, 1) := by decide +kernel
theorem dX3_countWays_5 : decode cX3_countWays 5 = .ok (.iconst 1, 1) := by decide +kernel
theorem dX3_countWays_6 : decode cX3_countWays 6 = .ok (.aload_n 1, 1) := by decide +kernel
theorem dX3_countWays_7 : decode cX3_countWays 7 = .ok (.invokevirtual 34, 3) := by decide +kernel
theorem dX3_countWays_10 : decode cX3_countWays 10 = .ok (.ishl, 1) := by decide +kernel
theorem dX3_countWays_11 : decode cX3_countWays 11 = .ok (.if_icmp .ge 29, 3) := by decide +kernel
theorem dX3_countWays_14 : decode cX3_countWays 14 = .ok (.aload_n 1, 1) := by decide +kernel
theorem dX3_countWays_15 : decode cX3_countWays 15 = .ok (.iload_n 3, 1) := by decide +kernel
theorem dX3_countWays_16 : decode cX3_countWays 16 = .ok (.invokestatic 86, 3) := by decide +kernel
theorem dX3_countWays_19 : decode cX3_countWays 19 = .ok (.ifCond .ne 15, 3) := by decide +kernel
theorem dX3_countWays_22 : decode cX3_countWays 22 = .ok (.aload_n 0, 1) := by decide +kernel
theorem dX3_countWays_23 : decode cX3_countWays 23 = .ok (.aload_n 1, 1) := by decide +kernel
theorem dX3_countWays_24 : decode cX3_countWays 24 = .ok (.iload_n 3, 1) := by decide +kernel
theorem dX3_countWays_25 : decode cX3_countWays 25 = .ok (.invokevirtual 90, 3) := by decide +kernel
theorem dX3_countWays_28 : decode cX3_countWays 28 = .ok (.ifCond .eq 6, 3) := by decide +kernel
theorem dX3_countWays_31 : decode cX3_countWays 31 = .ok (.iinc 2 1, 3) := by decide +kernel
theorem dX3_countWays_34 : decode cX3_countWays 34 = .ok (.iinc 3 1, 3) := by decide +kernel
theorem dX3_countWays_37 : decode cX3_countWays 37 = .ok (.goto (-33), 3) := by decide +kernel
theorem dX3_countWays_40 : decode cX3_countWays 40 = .ok (.iload_n 2, 1) := by decide +kernel
theorem dX3_countWays_41 : decode cX3_countWays 41 = .ok (.ireturn, 1) := by decide +kernel
theorem dX3_evenAngles_0 : decode cX3_evenAngles 0 = .ok (.iconst 0, 1) := by decide +kernel
theorem dX3_evenAngles_1 : decode cX3_evenAngles 1 = .ok (.istore_n 1, 1) := by decide +kernel
theorem dX3_evenAngles_2 : decode cX3_evenAngles 2 = .ok (.iconst 0, 1) := by decide +kernel
theorem dX3_evenAngles_3 : decode cX3_evenAngles 3 = .ok (.istore_n 2, 1) := by decide +kernel
theorem dX3_evenAngles_4 : decode cX3_evenAngles 4 = .ok (.iload_n 2, 1) := by decide +kernel
theorem dX3_evenAngles_5 : decode cX3_evenAngles 5 = .ok (.aload_n 0, 1) := by decide +kernel
theorem dX3_evenAngles_6 : decode cX3_evenAngles 6 = .ok (.getfield 28, 3) := by decide +kernel
theorem dX3_evenAngles_9 : decode cX3_evenAngles 9 = .ok (.if_icmp .ge 20, 3) := by decide +kernel
theorem dX3_evenAngles_12 : decode cX3_evenAngles 12 = .ok (.iload_n 1, 1) := by decide +kernel
theorem dX3_evenAngles_13 : decode cX3_evenAngles 13 = .ok (.aload_n 0, 1) := by decide +kernel
theorem dX3_evenAngles_14 : decode cX3_evenAngles 14 = .ok (.getfield 9, 3) := by decide +kernel
theorem dX3_evenAngles_17 : decode cX3_evenAngles 17 = .ok (.iload_n 2, 1) := by decide +kernel
theorem dX3_evenAngles_18 : decode cX3_evenAngles 18 = .ok (.invokestatic 39, 3) := by decide +kernel
theorem dX3_evenAngles_21 : decode cX3_evenAngles 21 = .ok (.iadd, 1) := by decide +kernel
theorem dX3_evenAngles_22 : decode cX3_evenAngles 22 = .ok (.istore_n 1, 1) := by decide +kernel
theorem dX3_evenAngles_23 : decode cX3_evenAngles 23 = .ok (.iinc 2 2, 3) := by decide +kernel
theorem dX3_evenAngles_26 : decode cX3_evenAngles 26 = .ok (.goto (-22), 3) := by decide +kernel
theorem dX3_evenAngles_29 : decode cX3_evenAngles 29 = .ok (.iload_n 1, 1) := by decide +kernel
theorem dX3_evenAngles_30 : decode cX3_evenAngles 30 = .ok (.ireturn, 1) := by decide +kernel
theorem dX3_fewestChanges_0 : decode cX3_fewestChanges 0 = .ok (.sipush (-1004), 3) := by decide +kernel
theorem dX3_fewestChanges_3 : decode cX3_fewestChanges 3 = .ok (.istore_n 2, 1) := by decide +kernel
theorem dX3_fewestChanges_4 : decode cX3_fewestChanges 4 = .ok (.iconst 0, 1) := by decide +kernel
theorem dX3_fewestChanges_5 : decode cX3_fewestChanges 5 = .ok (.istore_n 3, 1) := by decide +kernel
theorem dX3_fewestChanges_6 : decode cX3_fewestChanges 6 = .ok (.iload_n 3, 1) := by decide +kernel
theorem dX3_fewestChanges_7 : decode cX3_fewestChanges 7 = .ok (.iconst 1, 1) := by decide +kernel
theorem dX3_fewestChanges_8 : decode cX3_fewestChanges 8 = .ok (.aload_n 1, 1) := by decide +kernel
theorem dX3_fewestChanges_9 : decode cX3_fewestChanges 9 = .ok (.invokevirtual 34, 3) := by decide +kernel
theorem dX3_fewestChanges_12 : decode cX3_fewestChanges 12 = .ok (.ishl, 1) := by decide +kernel
theorem dX3_fewestChanges_13 : decode cX3_fewestChanges 13 = .ok (.if_icmp .ge 41, 3) := by decide +kernel
theorem dX3_fewestChanges_16 : decode cX3_fewestChanges 16 = .ok (.aload_n 1, 1) := by decide +kernel
theorem dX3_fewestChanges_17 : decode cX3_fewestChanges 17 = .ok (.iload_n 3, 1) := by decide +kernel
theorem dX3_fewestChanges_18 : decode cX3_fewestChanges 18 = .ok (.invokestatic 86, 3) := by decide +kernel
theorem dX3_fewestChanges_21 : decode cX3_fewestChanges 21 = .ok (.istore 4, 2) := by decide +kernel
theorem dX3_fewestChanges_23 : decode cX3_fewestChanges 23 = .ok (.iload_n 2, 1) := by decide +kernel
theorem dX3_fewestChanges_24 : decode cX3_fewestChanges 24 = .ok (.sipush (-1004), 3) := by decide +kernel
theorem dX3_fewestChanges_27 : decode cX3_fewestChanges 27 = .ok (.if_icmp .eq 9, 3) := by decide +kernel
theorem dX3_fewestChanges_30 : decode cX3_fewestChanges 30 = .ok (.iload 4, 2) := by decide +kernel
theorem dX3_fewestChanges_32 : decode cX3_fewestChanges 32 = .ok (.iload_n 2, 1) := by decide +kernel
theorem dX3_fewestChanges_33 : decode cX3_fewestChanges 33 = .ok (.if_icmp .ge 15, 3) := by decide +kernel
theorem dX3_fewestChanges_36 : decode cX3_fewestChanges 36 = .ok (.aload_n 0, 1) := by decide +kernel
theorem dX3_fewestChanges_37 : decode cX3_fewestChanges 37 = .ok (.aload_n 1, 1) := by decide +kernel
theorem dX3_fewestChanges_38 : decode cX3_fewestChanges 38 = .ok (.iload_n 3, 1) := by decide +kernel
theorem dX3_fewestChanges_39 : decode cX3_fewestChanges 39 = .ok (.invokevirtual 90, 3) := by decide +kernel
theorem dX3_fewestChanges_42 : decode cX3_fewestChanges 42 = .ok (.ifCond .eq 6, 3) := by decide +kernel
theorem dX3_fewestChanges_45 : decode cX3_fewestChanges 45 = .ok (.iload 4, 2) := by decide +kernel
theorem dX3_fewestChanges_47 : decode cX3_fewestChanges 47 = .ok (.istore_n 2, 1) := by decide +kernel
theorem dX3_fewestChanges_48 : decode cX3_fewestChanges 48 = .ok (.iinc 3 1, 3) := by decide +kernel
theorem dX3_fewestChanges_51 : decode cX3_fewestChanges 51 = .ok (.goto (-45), 3) := by decide +kernel
theorem dX3_fewestChanges_54 : decode cX3_fewestChanges 54 = .ok (.iload_n 2, 1) := by decide +kernel
theorem dX3_fewestChanges_55 : decode cX3_fewestChanges 55 = .ok (.ireturn, 1) := by decide +kernel
theorem dX3_firstStep_0 : decode cX3_firstStep 0 = .ok (.aload_n 0, 1) := by decide +kernel
theorem dX3_firstStep_1 : decode cX3_firstStep 1 = .ok (.getfield 24, 3) := by decide +kernel
theorem dX3_firstStep_4 : decode cX3_firstStep 4 = .ok (.ifCond .ne 7, 3) := by decide +kernel
theorem dX3_firstStep_7 : decode cX3_firstStep 7 = .ok (.iconst 1, 1) := by decide +kernel
theorem dX3_firstStep_8 : decode cX3_firstStep 8 = .ok (.goto 4, 3) := by decide +kernel
theorem dX3_firstStep_11 : decode cX3_firstStep 11 = .ok (.iconst 0, 1) := by decide +kernel
theorem dX3_firstStep_12 : decode cX3_firstStep 12 = .ok (.istore_n 1, 1) := by decide +kernel
theorem dX3_firstStep_13 : decode cX3_firstStep 13 = .ok (.aload_n 0, 1) := by decide +kernel
theorem dX3_firstStep_14 : decode cX3_firstStep 14 = .ok (.getfield 28, 3) := by decide +kernel
theorem dX3_firstStep_17 : decode cX3_firstStep 17 = .ok (.iconst 2, 1) := by decide +kernel
theorem dX3_firstStep_18 : decode cX3_firstStep 18 = .ok (.if_icmp .lt 15, 3) := by decide +kernel
theorem dX3_firstStep_21 : decode cX3_firstStep 21 = .ok (.aload_n 0, 1) := by decide +kernel
theorem dX3_firstStep_22 : decode cX3_firstStep 22 = .ok (.getfield 28, 3) := by decide +kernel
theorem dX3_firstStep_25 : decode cX3_firstStep 25 = .ok (.iconst 2, 1) := by decide +kernel
theorem dX3_firstStep_26 : decode cX3_firstStep 26 = .ok (.if_icmp .ne 9, 3) := by decide +kernel
theorem dX3_firstStep_29 : decode cX3_firstStep 29 = .ok (.iload_n 1, 1) := by decide +kernel
theorem dX3_firstStep_30 : decode cX3_firstStep 30 = .ok (.ifCond .ne 5, 3) := by decide +kernel
theorem dX3_firstStep_33 : decode cX3_firstStep 33 = .ok (.iconst 0, 1) := by decide +kernel
theorem dX3_firstStep_34 : decode cX3_firstStep 34 = .ok (.ireturn, 1) := by decide +kernel
theorem dX3_firstStep_35 : decode cX3_firstStep 35 = .ok (.iload_n 1, 1) := by decide +kernel
theorem dX3_firstStep_36 : decode cX3_firstStep 36 = .ok (.ifCond .eq 24, 3) := by decide +kernel
theorem dX3_firstStep_39 : decode cX3_firstStep 39 = .ok (.aload_n 0, 1) := by decide +kernel
theorem dX3_firstStep_40 : decode cX3_firstStep 40 = .ok (.getfield 9, 3) := by decide +kernel
theorem dX3_firstStep_43 : decode cX3_firstStep 43 = .ok (.iconst 0, 1) := by decide +kernel
theorem dX3_firstStep_44 : decode cX3_firstStep 44 = .ok (.invokestatic 39, 3) := by decide +kernel
theorem dX3_firstStep_47 : decode cX3_firstStep 47 = .ok (.aload_n 0, 1) := by decide +kernel
theorem dX3_firstStep_48 : decode cX3_firstStep 48 = .ok (.getfield 9, 3) := by decide +kernel
theorem dX3_firstStep_51 : decode cX3_firstStep 51 = .ok (.iconst 1, 1) := by decide +kernel
theorem dX3_firstStep_52 : decode cX3_firstStep 52 = .ok (.invokestatic 39, 3) := by decide +kernel
theorem dX3_firstStep_55 : decode cX3_firstStep 55 = .ok (.if_icmp .gt 5, 3) := by decide +kernel
theorem dX3_firstStep_58 : decode cX3_firstStep 58 = .ok (.iconst 1, 1) := by decide +kernel
theorem dX3_firstStep_59 : decode cX3_firstStep 59 = .ok (.ireturn, 1) := by decide +kernel
theorem dX3_firstStep_60 : decode cX3_firstStep 60 = .ok (.iload_n 1, 1) := by decide +kernel
theorem dX3_firstStep_61 : decode cX3_firstStep 61 = .ok (.ifCond .eq 34, 3) := by decide +kernel
theorem dX3_firstStep_64 : decode cX3_firstStep 64 = .ok (.aload_n 0, 1) := by decide +kernel
theorem dX3_firstStep_65 : decode cX3_firstStep 65 = .ok (.getfield 9, 3) := by decide +kernel
theorem dX3_firstStep_68 : decode cX3_firstStep 68 = .ok (.aload_n 0, 1) := by decide +kernel
theorem dX3_firstStep_69 : decode cX3_firstStep 69 = .ok (.getfield 28, 3) := by decide +kernel
theorem dX3_firstStep_72 : decode cX3_firstStep 72 = .ok (.iconst 1, 1) := by decide +kernel
theorem dX3_firstStep_73 : decode cX3_firstStep 73 = .ok (.isub, 1) := by decide +kernel
theorem dX3_firstStep_74 : decode cX3_firstStep 74 = .ok (.invokestatic 39, 3) := by decide +kernel
theorem dX3_firstStep_77 : decode cX3_firstStep 77 = .ok (.aload_n 0, 1) := by decide +kernel
theorem dX3_firstStep_78 : decode cX3_firstStep 78 = .ok (.getfield 9, 3) := by decide +kernel
theorem dX3_firstStep_81 : decode cX3_firstStep 81 = .ok (.aload_n 0, 1) := by decide +kernel
theorem dX3_firstStep_82 : decode cX3_firstStep 82 = .ok (.getfield 28, 3) := by decide +kernel
theorem dX3_firstStep_85 : decode cX3_firstStep 85 = .ok (.iconst 2, 1) := by decide +kernel
theorem dX3_firstStep_86 : decode cX3_firstStep 86 = .ok (.isub, 1) := by decide +kernel
theorem dX3_firstStep_87 : decode cX3_firstStep 87 = .ok (.invokestatic 39, 3) := by decide +kernel
theorem dX3_firstStep_90 : decode cX3_firstStep 90 = .ok (.if_icmp .gt 5, 3) := by decide +kernel
theorem dX3_firstStep_93 : decode cX3_firstStep 93 = .ok (.iconst 2, 1) := by decide +kernel
theorem dX3_firstStep_94 : decode cX3_firstStep 94 = .ok (.ireturn, 1) := by decide +kernel
theorem dX3_firstStep_95 : decode cX3_firstStep 95 = .ok (.iload_n 1, 1) := by decide +kernel
theorem dX3_firstStep_96 : decode cX3_firstStep 96 = .ok (.ifCond .eq 7, 3) := by decide +kernel
theorem dX3_firstStep_99 : decode cX3_firstStep 99 = .ok (.iconst 1, 1) := by decide +kernel
theorem dX3_firstStep_100 : decode cX3_firstStep 100 = .ok (.goto 4, 3) := by decide +kernel
theorem dX3_firstStep_103 : decode cX3_firstStep 103 = .ok (.iconst 0, 1) := by decide +kernel
theorem dX3_firstStep_104 : decode cX3_firstStep 104 = .ok (.istore_n 2, 1) := by decide +kernel
theorem dX3_firstStep_105 : decode cX3_firstStep 105 = .ok (.iload_n 2, 1) := by decide +kernel
theorem dX3_firstStep_106 : decode cX3_firstStep 106 = .ok (.istore_n 3, 1) := by decide +kernel
theorem dX3_firstStep_107 : decode cX3_firstStep 107 = .ok (.iload_n 3, 1) := by decide +kernel
theorem dX3_firstStep_108 : decode cX3_firstStep 108 = .ok (.aload_n 0, 1) := by decide +kernel
theorem dX3_firstStep_109 : decode cX3_firstStep 109 = .ok (.getfield 28, 3) := by decide +kernel
theorem dX3_firstStep_112 : decode cX3_firstStep 112 = .ok (.iload_n 2, 1) := by decide +kernel
theorem dX3_firstStep_113 : decode cX3_firstStep 113 = .ok (.isub, 1) := by decide +kernel
theorem dX3_firstStep_114 : decode cX3_firstStep 114 = .ok (.if_icmp .ge 95, 3) := by decide +kernel
theorem dX3_firstStep_117 : decode cX3_firstStep 117 = .ok (.aload_n 0, 1) := by decide +kernel
theorem dX3_firstStep_118 : decode cX3_firstStep 118 = .ok (.getfield 9, 3) := by decide +kernel
theorem dX3_firstStep_121 : decode cX3_firstStep 121 = .ok (.iload_n 3, 1) := by decide +kernel
theorem dX3_firstStep_122 : decode cX3_firstStep 122 = .ok (.invokestatic 39, 3) := by decide +kernel
theorem dX3_firstStep_125 : decode cX3_firstStep 125 = .ok (.aload_n 0, 1) := by decide +kernel
theorem dX3_firstStep_126 : decode cX3_firstStep 126 = .ok (.getfield 9, 3) := by decide +kernel
theorem dX3_firstStep_129 : decode cX3_firstStep 129 = .ok (.aload_n 0, 1) := by decide +kernel
theorem dX3_firstStep_130 : decode cX3_firstStep 130 = .ok (.iload_n 3, 1) := by decide +kernel
theorem dX3_firstStep_131 : decode cX3_firstStep 131 = .ok (.invokevirtual 80, 3) := by decide +kernel
theorem dX3_firstStep_134 : decode cX3_firstStep 134 = .ok (.invokestatic 39, 3) := by decide +kernel
theorem dX3_firstStep_137 : decode cX3_firstStep 137 = .ok (.if_icmp .gt 30, 3) := by decide +kernel
theorem dX3_firstStep_140 : decode cX3_firstStep 140 = .ok (.aload_n 0, 1) := by decide +kernel
theorem dX3_firstStep_141 : decode cX3_firstStep 141 = .ok (.getfield 9, 3) := by decide +kernel
theorem dX3_firstStep_144 : decode cX3_firstStep 144 = .ok (.iload_n 3, 1) := by decide +kernel
theorem dX3_firstStep_145 : decode cX3_firstStep 145 = .ok (.invokestatic 39, 3) := by decide +kernel
theorem dX3_firstStep_148 : decode cX3_firstStep 148 = .ok (.aload_n 0, 1) := by decide +kernel
theorem dX3_firstStep_149 : decode cX3_firstStep 149 = .ok (.getfield 9, 3) := by decide +kernel
theorem dX3_firstStep_152 : decode cX3_firstStep 152 = .ok (.aload_n 0, 1) := by decide +kernel
theorem dX3_firstStep_153 : decode cX3_firstStep 153 = .ok (.iload_n 3, 1) := by decide +kernel
theorem dX3_firstStep_154 : decode cX3_firstStep 154 = .ok (.invokevirtual 83, 3) := by decide +kernel
theorem dX3_firstStep_157 : decode cX3_firstStep 157 = .ok (.invokestatic 39, 3) := by decide +kernel
theorem dX3_firstStep_160 : decode cX3_firstStep 160 = .ok (.if_icmp .gt 7, 3) := by decide +kernel
theorem dX3_firstStep_163 : decode cX3_firstStep 163 = .ok (.iconst 1, 1) := by decide +kernel
theorem dX3_firstStep_164 : decode cX3_firstStep 164 = .ok (.goto 4, 3) := by decide +kernel
theorem dX3_firstStep_167 : decode cX3_firstStep 167 = .ok (.iconst 0, 1) := by decide +kernel
theorem dX3_firstStep_168 : decode cX3_firstStep 168 = .ok (.istore 4, 2) := by decide +kernel
theorem dX3_firstStep_170 : decode cX3_firstStep 170 = .ok (.iload 4, 2) := by decide +kernel
theorem dX3_firstStep_172 : decode cX3_firstStep 172 = .ok (.ifCond .eq 31, 3) := by decide +kernel
theorem dX3_firstStep_175 : decode cX3_firstStep 175 = .ok (.aload_n 0, 1) := by decide +kernel
theorem dX3_firstStep_176 : decode cX3_firstStep 176 = .ok (.getfield 15, 3) := by decide +kernel
theorem dX3_firstStep_179 : decode cX3_firstStep 179 = .ok (.iload_n 3, 1) := by decide +kernel
theorem dX3_firstStep_180 : decode cX3_firstStep 180 = .ok (.invokestatic 39, 3) := by decide +kernel
theorem dX3_firstStep_183 : decode cX3_firstStep 183 = .ok (.aload_n 0, 1) := by decide +kernel
theorem dX3_firstStep_184 : decode cX3_firstStep 184 = .ok (.getfield 15, 3) := by decide +kernel
theorem dX3_firstStep_187 : decode cX3_firstStep 187 = .ok (.aload_n 0, 1) := by decide +kernel
theorem dX3_firstStep_188 : decode cX3_firstStep 188 = .ok (.iload_n 3, 1) := by decide +kernel
theorem dX3_firstStep_189 : decode cX3_firstStep 189 = .ok (.invokevirtual 83, 3) := by decide +kernel
theorem dX3_firstStep_192 : decode cX3_firstStep 192 = .ok (.invokestatic 39, 3) := by decide +kernel
theorem dX3_firstStep_195 : decode cX3_firstStep 195 = .ok (.if_icmp .eq 8, 3) := by decide +kernel
theorem dX3_firstStep_198 : decode cX3_firstStep 198 = .ok (.bipush 10, 2) := by decide +kernel
theorem dX3_firstStep_200 : decode cX3_firstStep 200 = .ok (.iload_n 3, 1) := by decide +kernel
theorem dX3_firstStep_201 : decode cX3_firstStep 201 = .ok (.iadd, 1) := by decide +kernel
theorem dX3_firstStep_202 : decode cX3_firstStep 202 = .ok (.ireturn, 1) := by decide +kernel
theorem dX3_firstStep_203 : decode cX3_firstStep 203 = .ok (.iinc 3 1, 3) := by decide +kernel
theorem dX3_firstStep_206 : decode cX3_firstStep 206 = .ok (.goto (-99), 3) := by decide +kernel
theorem dX3_firstStep_209 : decode cX3_firstStep 209 = .ok (.iconst 0, 1) := by decide +kernel
theorem dX3_firstStep_210 : decode cX3_firstStep 210 = .ok (.ireturn, 1) := by decide +kernel
theorem dX3_foldsWith_0 : decode cX3_foldsWith 0 = .ok (.aload_n 0, 1) := by decide +kernel
theorem dX3_foldsWith_1 : decode cX3_foldsWith 1 = .ok (.aload_n 1, 1) := by decide +kernel
theorem dX3_foldsWith_2 : decode cX3_foldsWith 2 = .ok (.invokevirtual 55, 3) := by decide +kernel
theorem dX3_foldsWith_5 : decode cX3_foldsWith 5 = .ok (.iconst 0, 1) := by decide +kernel
theorem dX3_foldsWith_6 : decode cX3_foldsWith 6 = .ok (.istore_n 3, 1) := by decide +kernel
theorem dX3_foldsWith_7 : decode cX3_foldsWith 7 = .ok (.iload_n 3, 1) := by decide +kernel
theorem dX3_foldsWith_8 : decode cX3_foldsWith 8 = .ok (.aload_n 1, 1) := by decide +kernel
theorem dX3_foldsWith_9 : decode cX3_foldsWith 9 = .ok (.invokevirtual 34, 3) := by decide +kernel
theorem dX3_foldsWith_12 : decode cX3_foldsWith 12 = .ok (.if_icmp .ge 19, 3) := by decide +kernel
theorem dX3_foldsWith_15 : decode cX3_foldsWith 15 = .ok (.aload_n 0, 1) := by decide +kernel
theorem dX3_foldsWith_16 : decode cX3_foldsWith 16 = .ok (.iload_n 3, 1) := by decide +kernel
theorem dX3_foldsWith_17 : decode cX3_foldsWith 17 = .ok (.iload_n 2, 1) := by decide +kernel
theorem dX3_foldsWith_18 : decode cX3_foldsWith 18 = .ok (.iload_n 3, 1) := by decide +kernel
theorem dX3_foldsWith_19 : decode cX3_foldsWith 19 = .ok (.invokestatic 94, 3) := by decide +kernel
theorem dX3_foldsWith_22 : decode cX3_foldsWith 22 = .ok (.invokevirtual 43, 3) := by decide +kernel
theorem dX3_foldsWith_25 : decode cX3_foldsWith 25 = .ok (.iinc 3 1, 3) := by decide +kernel
theorem dX3_foldsWith_28 : decode cX3_foldsWith 28 = .ok (.goto (-21), 3) := by decide +kernel
theorem dX3_foldsWith_31 : decode cX3_foldsWith 31 = .ok (.aload_n 0, 1) := by decide +kernel
theorem dX3_foldsWith_32 : decode cX3_foldsWith 32 = .ok (.invokevirtual 74, 3) := by decide +kernel
theorem dX3_foldsWith_35 : decode cX3_foldsWith 35 = .ok (.pop, 1) := by decide +kernel
theorem dX3_foldsWith_36 : decode cX3_foldsWith 36 = .ok (.aload_n 0, 1) := by decide +kernel
theorem dX3_foldsWith_37 : decode cX3_foldsWith 37 = .ok (.invokevirtual 77, 3) := by decide +kernel
theorem dX3_foldsWith_40 : decode cX3_foldsWith 40 = .ok (.ireturn, 1) := by decide +kernel
theorem dX3_hasSmallAngleOfOneKind_0 : decode cX3_hasSmallAngleOfOneKind 0 = .ok (.iconst 0, 1) := by decide +kernel
theorem dX3_hasSmallAngleOfOneKind_1 : decode cX3_hasSmallAngleOfOneKind 1 = .ok (.istore_n 1, 1) := by decide +kernel
theorem dX3_hasSmallAngleOfOneKind_2 : decode cX3_hasSmallAngleOfOneKind 2 = .ok (.iload_n 1, 1) := by decide +kernel
theorem dX3_hasSmallAngleOfOneKind_3 : decode cX3_hasSmallAngleOfOneKind 3 = .ok (.aload_n 0, 1) := by decide +kernel
theorem dX3_hasSmallAngleOfOneKind_4 : decode cX3_hasSmallAngleOfOneKind 4 = .ok (.getfield 28, 3) := by decide +kernel
theorem dX3_hasSmallAngleOfOneKind_7 : decode cX3_hasSmallAngleOfOneKind 7 = .ok (.if_icmp .ge 85, 3) := by decide +kernel
theorem dX3_hasSmallAngleOfOneKind_10 : decode cX3_hasSmallAngleOfOneKind 10 = .ok (.aload_n 0, 1) := by decide +kernel
theorem dX3_hasSmallAngleOfOneKind_11 : decode cX3_hasSmallAngleOfOneKind 11 = .ok (.getfield 9, 3) := by decide +kernel
theorem dX3_hasSmallAngleOfOneKind_14 : decode cX3_hasSmallAngleOfOneKind 14 = .ok (.iload_n 1, 1) := by decide +kernel
theorem dX3_hasSmallAngleOfOneKind_15 : decode cX3_hasSmallAngleOfOneKind 15 = .ok (.invokestatic 39, 3) := by decide +kernel
theorem dX3_hasSmallAngleOfOneKind_18 : decode cX3_hasSmallAngleOfOneKind 18 = .ok (.istore_n 2, 1) := by decide +kernel
theorem dX3_hasSmallAngleOfOneKind_19 : decode cX3_hasSmallAngleOfOneKind 19 = .ok (.iload_n 2, 1) := by decide +kernel
theorem dX3_hasSmallAngleOfOneKind_20 : decode cX3_hasSmallAngleOfOneKind 20 = .ok (.aload_n 0, 1) := by decide +kernel
theorem dX3_hasSmallAngleOfOneKind_21 : decode cX3_hasSmallAngleOfOneKind 21 = .ok (.getfield 9, 3) := by decide +kernel
theorem dX3_hasSmallAngleOfOneKind_24 : decode cX3_hasSmallAngleOfOneKind 24 = .ok (.aload_n 0, 1) := by decide +kernel
theorem dX3_hasSmallAngleOfOneKind_25 : decode cX3_hasSmallAngleOfOneKind 25 = .ok (.iload_n 1, 1) := by decide +kernel
theorem dX3_hasSmallAngleOfOneKind_26 : decode cX3_hasSmallAngleOfOneKind 26 = .ok (.invokevirtual 80, 3) := by decide +kernel
theorem dX3_hasSmallAngleOfOneKind_29 : decode cX3_hasSmallAngleOfOneKind 29 = .ok (.invokestatic 39, 3) := by decide +kernel
theorem dX3_hasSmallAngleOfOneKind_32 : decode cX3_hasSmallAngleOfOneKind 32 = .ok (.if_icmp .ge 23, 3) := by decide +kernel
theorem dX3_hasSmallAngleOfOneKind_35 : decode cX3_hasSmallAngleOfOneKind 35 = .ok (.iload_n 2, 1) := by decide +kernel
theorem dX3_hasSmallAngleOfOneKind_36 : decode cX3_hasSmallAngleOfOneKind 36 = .ok (.aload_n 0, 1) := by decide +kernel
theorem dX3_hasSmallAngleOfOneKind_37 : decode cX3_hasSmallAngleOfOneKind 37 = .ok (.getfield 9, 3) := by decide +kernel
theorem dX3_hasSmallAngleOfOneKind_40 : decode cX3_hasSmallAngleOfOneKind 40 = .ok (.aload_n 0, 1) := by decide +kernel
theorem dX3_hasSmallAngleOfOneKind_41 : decode cX3_hasSmallAngleOfOneKind 41 = .ok (.iload_n 1, 1) := by decide +kernel
theorem dX3_hasSmallAngleOfOneKind_42 : decode cX3_hasSmallAngleOfOneKind 42 = .ok (.invokevirtual 83, 3) := by decide +kernel
theorem dX3_hasSmallAngleOfOneKind_45 : decode cX3_hasSmallAngleOfOneKind 45 = .ok (.invokestatic 39, 3) := by decide +kernel
theorem dX3_hasSmallAngleOfOneKind_48 : decode cX3_hasSmallAngleOfOneKind 48 = .ok (.if_icmp .ge 7, 3) := by decide +kernel
theorem dX3_hasSmallAngleOfOneKind_51 : decode cX3_hasSmallAngleOfOneKind 51 = .ok (.iconst 1, 1) := by decide +kernel
theorem dX3_hasSmallAngleOfOneKind_52 : decode cX3_hasSmallAngleOfOneKind 52 = .ok (.goto 4, 3) := by decide +kernel
theorem dX3_hasSmallAngleOfOneKind_55 : decode cX3_hasSmallAngleOfOneKind 55 = .ok (.iconst 0, 1) := by decide +kernel
theorem dX3_hasSmallAngleOfOneKind_56 : decode cX3_hasSmallAngleOfOneKind 56 = .ok (.istore_n 3, 1) := by decide +kernel
theorem dX3_hasSmallAngleOfOneKind_57 : decode cX3_hasSmallAngleOfOneKind 57 = .ok (.iload_n 3, 1) := by decide +kernel
theorem dX3_hasSmallAngleOfOneKind_58 : decode cX3_hasSmallAngleOfOneKind 58 = .ok (.ifCond .eq 28, 3) := by decide +kernel
theorem dX3_hasSmallAngleOfOneKind_61 : decode cX3_hasSmallAngleOfOneKind 61 = .ok (.aload_n 0, 1) := by decide +kernel
theorem dX3_hasSmallAngleOfOneKind_62 : decode cX3_hasSmallAngleOfOneKind 62 = .ok (.getfield 15, 3) := by decide +kernel
theorem dX3_hasSmallAngleOfOneKind_65 : decode cX3_hasSmallAngleOfOneKind 65 = .ok (.iload_n 1, 1) := by decide +kernel
theorem dX3_hasSmallAngleOfOneKind_66 : decode cX3_hasSmallAngleOfOneKind 66 = .ok (.invokestatic 39, 3) := by decide +kernel
theorem dX3_hasSmallAngleOfOneKind_69 : decode cX3_hasSmallAngleOfOneKind 69 = .ok (.aload_n 0, 1) := by decide +kernel
theorem dX3_hasSmallAngleOfOneKind_70 : decode cX3_hasSmallAngleOfOneKind 70 = .ok (.getfield 15, 3) := by decide +kernel
theorem dX3_hasSmallAngleOfOneKind_73 : decode cX3_hasSmallAngleOfOneKind 73 = .ok (.aload_n 0, 1) := by decide +kernel
theorem dX3_hasSmallAngleOfOneKind_74 : decode cX3_hasSmallAngleOfOneKind 74 = .ok (.iload_n 1, 1) := by decide +kernel
theorem dX3_hasSmallAngleOfOneKind_75 : decode cX3_hasSmallAngleOfOneKind 75 = .ok (.invokevirtual 83, 3) := by decide +kernel
theorem dX3_hasSmallAngleOfOneKind_78 : decode cX3_hasSmallAngleOfOneKind 78 = .ok (.invokestatic 39, 3) := by decide +kernel
theorem dX3_hasSmallAngleOfOneKind_81 : decode cX3_hasSmallAngleOfOneKind 81 = .ok (.if_icmp .ne 5, 3) := by decide +kernel
theorem dX3_hasSmallAngleOfOneKind_84 : decode cX3_hasSmallAngleOfOneKind 84 = .ok (.iconst 1, 1) := by decide +kernel
theorem dX3_hasSmallAngleOfOneKind_85 : decode cX3_hasSmallAngleOfOneKind 85 = .ok (.ireturn, 1) := by decide +kernel
theorem dX3_hasSmallAngleOfOneKind_86 : decode cX3_hasSmallAngleOfOneKind 86 = .ok (.iinc 1 1, 3) := by decide +kernel
theorem dX3_hasSmallAngleOfOneKind_89 : decode cX3_hasSmallAngleOfOneKind 89 = .ok (.goto (-87), 3) := by decide +kernel
theorem dX3_hasSmallAngleOfOneKind_92 : decode cX3_hasSmallAngleOfOneKind 92 = .ok (.iconst 0, 1) := by decide +kernel
theorem dX3_hasSmallAngleOfOneKind_93 : decode cX3_hasSmallAngleOfOneKind 93 = .ok (.ireturn, 1) := by decide +kernel
theorem dX3_isReduced_0 : decode cX3_isReduced 0 = .ok (.aload_n 0, 1) := by decide +kernel
theorem dX3_isReduced_1 : decode cX3_isReduced 1 = .ok (.getfield 24, 3) := by decide +kernel
theorem dX3_isReduced_4 : decode cX3_isReduced 4 = .ok (.ifCond .ne 17, 3) := by decide +kernel
theorem dX3_isReduced_7 : decode cX3_isReduced 7 = .ok (.aload_n 0, 1) := by decide +kernel
theorem dX3_isReduced_8 : decode cX3_isReduced 8 = .ok (.getfield 28, 3) := by decide +kernel
theorem dX3_isReduced_11 : decode cX3_isReduced 11 = .ok (.iconst 1, 1) := by decide +kernel
theorem dX3_isReduced_12 : decode cX3_isReduced 12 = .ok (.if_icmp .ne 7, 3) := by decide +kernel
theorem dX3_isReduced_15 : decode cX3_isReduced 15 = .ok (.iconst 1, 1) := by decide +kernel
theorem dX3_isReduced_16 : decode cX3_isReduced 16 = .ok (.goto 4, 3) := by decide +kernel
theorem dX3_isReduced_19 : decode cX3_isReduced 19 = .ok (.iconst 0, 1) := by decide +kernel
theorem dX3_isReduced_20 : decode cX3_isReduced 20 = .ok (.ireturn, 1) := by decide +kernel
theorem dX3_isReduced_21 : decode cX3_isReduced 21 = .ok (.aload_n 0, 1) := by decide +kernel
theorem dX3_isReduced_22 : decode cX3_isReduced 22 = .ok (.getfield 28, 3) := by decide +kernel
theorem dX3_isReduced_25 : decode cX3_isReduced 25 = .ok (.iconst 2, 1) := by decide +kernel
theorem dX3_isReduced_26 : decode cX3_isReduced 26 = .ok (.if_icmp .ne 45, 3) := by decide +kernel
theorem dX3_isReduced_29 : decode cX3_isReduced 29 = .ok (.aload_n 0, 1) := by decide +kernel
theorem dX3_isReduced_30 : decode cX3_isReduced 30 = .ok (.getfield 9, 3) := by decide +kernel
theorem dX3_isReduced_33 : decode cX3_isReduced 33 = .ok (.iconst 0, 1) := by decide +kernel
theorem dX3_isReduced_34 : decode cX3_isReduced 34 = .ok (.invokestatic 39, 3) := by decide +kernel
theorem dX3_isReduced_37 : decode cX3_isReduced 37 = .ok (.aload_n 0, 1) := by decide +kernel
theorem dX3_isReduced_38 : decode cX3_isReduced 38 = .ok (.getfield 9, 3) := by decide +kernel
theorem dX3_isReduced_41 : decode cX3_isReduced 41 = .ok (.iconst 1, 1) := by decide +kernel
theorem dX3_isReduced_42 : decode cX3_isReduced 42 = .ok (.invokestatic 39, 3) := by decide +kernel
theorem dX3_isReduced_45 : decode cX3_isReduced 45 = .ok (.if_icmp .ne 26, 3) := by decide +kernel
theorem dX3_isReduced_48 : decode cX3_isReduced 48 = .ok (.aload_n 0, 1) := by decide +kernel
theorem dX3_isReduced_49 : decode cX3_isReduced 49 = .ok (.getfield 15, 3) := by decide +kernel
theorem dX3_isReduced_52 : decode cX3_isReduced 52 = .ok (.iconst 0, 1) := by decide +kernel
theorem dX3_isReduced_53 : decode cX3_isReduced 53 = .ok (.invokestatic 39, 3) := by decide +kernel
theorem dX3_isReduced_56 : decode cX3_isReduced 56 = .ok (.aload_n 0, 1) := by decide +kernel
theorem dX3_isReduced_57 : decode cX3_isReduced 57 = .ok (.getfield 15, 3) := by decide +kernel
theorem dX3_isReduced_60 : decode cX3_isReduced 60 = .ok (.iconst 1, 1) := by decide +kernel
theorem dX3_isReduced_61 : decode cX3_isReduced 61 = .ok (.invokestatic 39, 3) := by decide +kernel
theorem dX3_isReduced_64 : decode cX3_isReduced 64 = .ok (.if_icmp .ne 7, 3) := by decide +kernel
theorem dX3_isReduced_67 : decode cX3_isReduced 67 = .ok (.iconst 1, 1) := by decide +kernel
theorem dX3_isReduced_68 : decode cX3_isReduced 68 = .ok (.goto 4, 3) := by decide +kernel
theorem dX3_isReduced_71 : decode cX3_isReduced 71 = .ok (.iconst 0, 1) := by decide +kernel
theorem dX3_isReduced_72 : decode cX3_isReduced 72 = .ok (.ireturn, 1) := by decide +kernel
theorem dX3_kindIn_0 : decode cX3_kindIn 0 = .ok (.iload_n 0, 1) := by decide +kernel
theorem dX3_kindIn_1 : decode cX3_kindIn 1 = .ok (.iload_n 1, 1) := by decide +kernel
theorem dX3_kindIn_2 : decode cX3_kindIn 2 = .ok (.ishr, 1) := by decide +kernel
theorem dX3_kindIn_3 : decode cX3_kindIn 3 = .ok (.iconst 1, 1) := by decide +kernel
theorem dX3_kindIn_4 : decode cX3_kindIn 4 = .ok (.iand, 1) := by decide +kernel
theorem dX3_kindIn_5 : decode cX3_kindIn 5 = .ok (.ifCond .ne 7, 3) := by decide +kernel
theorem dX3_kindIn_8 : decode cX3_kindIn 8 = .ok (.iconst 1, 1) := by decide +kernel
theorem dX3_kindIn_9 : decode cX3_kindIn 9 = .ok (.goto 4, 3) := by decide +kernel
theorem dX3_kindIn_12 : decode cX3_kindIn 12 = .ok (.iconst 2, 1) := by decide +kernel
theorem dX3_kindIn_13 : decode cX3_kindIn 13 = .ok (.ireturn, 1) := by decide +kernel
theorem dX3_load_0 : decode cX3_load 0 = .ok (.aload_n 0, 1) := by decide +kernel
theorem dX3_load_1 : decode cX3_load 1 = .ok (.aload_n 1, 1) := by decide +kernel
theorem dX3_load_2 : decode cX3_load 2 = .ok (.getfield 18, 3) := by decide +kernel
theorem dX3_load_5 : decode cX3_load 5 = .ok (.putfield 24, 3) := by decide +kernel
theorem dX3_load_8 : decode cX3_load 8 = .ok (.aload_n 0, 1) := by decide +kernel
theorem dX3_load_9 : decode cX3_load 9 = .ok (.aload_n 1, 1) := by decide +kernel
theorem dX3_load_10 : decode cX3_load 10 = .ok (.getfield 25, 3) := by decide +kernel
theorem dX3_load_13 : decode cX3_load 13 = .ok (.putfield 28, 3) := by decide +kernel
theorem dX3_load_16 : decode cX3_load 16 = .ok (.aload_n 1, 1) := by decide +kernel
theorem dX3_load_17 : decode cX3_load 17 = .ok (.getfield 29, 3) := by decide +kernel
theorem dX3_load_20 : decode cX3_load 20 = .ok (.aload_n 0, 1) := by decide +kernel
theorem dX3_load_21 : decode cX3_load 21 = .ok (.getfield 9, 3) := by decide +kernel
theorem dX3_load_24 : decode cX3_load 24 = .ok (.invokestatic 30, 3) := by decide +kernel
theorem dX3_load_27 : decode cX3_load 27 = .ok (.iconst 0, 1) := by decide +kernel
theorem dX3_load_28 : decode cX3_load 28 = .ok (.istore_n 2, 1) := by decide +kernel
theorem dX3_load_29 : decode cX3_load 29 = .ok (.iload_n 2, 1) := by decide +kernel
theorem dX3_load_30 : decode cX3_load 30 = .ok (.aload_n 1, 1) := by decide +kernel
theorem dX3_load_31 : decode cX3_load 31 = .ok (.invokevirtual 34, 3) := by decide +kernel
theorem dX3_load_34 : decode cX3_load 34 = .ok (.if_icmp .ge 22, 3) := by decide +kernel
theorem dX3_load_37 : decode cX3_load 37 = .ok (.aload_n 0, 1) := by decide +kernel
theorem dX3_load_38 : decode cX3_load 38 = .ok (.iload_n 2, 1) := by decide +kernel
theorem dX3_load_39 : decode cX3_load 39 = .ok (.aload_n 1, 1) := by decide +kernel
theorem dX3_load_40 : decode cX3_load 40 = .ok (.getfield 38, 3) := by decide +kernel
theorem dX3_load_43 : decode cX3_load 43 = .ok (.iload_n 2, 1) := by decide +kernel
theorem dX3_load_44 : decode cX3_load 44 = .ok (.invokestatic 39, 3) := by decide +kernel
theorem dX3_load_47 : decode cX3_load 47 = .ok (.invokevirtual 43, 3) := by decide +kernel
theorem dX3_load_50 : decode cX3_load 50 = .ok (.iinc 2 1, 3) := by decide +kernel
theorem dX3_load_53 : decode cX3_load 53 = .ok (.goto (-24), 3) := by decide +kernel
theorem dX3_load_56 : decode cX3_load 56 = .ok (.return_, 1) := by decide +kernel
theorem dX3_make_0 : decode cX3_make 0 = .ok (.iload_n 1, 1) := by decide +kernel
theorem dX3_make_1 : decode cX3_make 1 = .ok (.iconst 2, 1) := by decide +kernel
theorem dX3_make_2 : decode cX3_make 2 = .ok (.if_icmp .ne 14, 3) := by decide +kernel
theorem dX3_make_5 : decode cX3_make 5 = .ok (.aload_n 0, 1) := by decide +kernel
theorem dX3_make_6 : decode cX3_make 6 = .ok (.dup, 1) := by decide +kernel
theorem dX3_make_7 : decode cX3_make 7 = .ok (.getfield 28, 3) := by decide +kernel
theorem dX3_make_10 : decode cX3_make 10 = .ok (.iconst 1, 1) := by decide +kernel
theorem dX3_make_11 : decode cX3_make 11 = .ok (.isub, 1) := by decide +kernel
theorem dX3_make_12 : decode cX3_make 12 = .ok (.putfield 28, 3) := by decide +kernel
theorem dX3_make_15 : decode cX3_make 15 = .ok (.return_, 1) := by decide +kernel
theorem dX3_make_16 : decode cX3_make 16 = .ok (.iload_n 1, 1) := by decide +kernel
theorem dX3_make_17 : decode cX3_make 17 = .ok (.iconst 1, 1) := by decide +kernel
theorem dX3_make_18 : decode cX3_make 18 = .ok (.if_icmp .ne 30, 3) := by decide +kernel
theorem dX3_make_21 : decode cX3_make 21 = .ok (.aload_n 0, 1) := by decide +kernel
theorem dX3_make_22 : decode cX3_make 22 = .ok (.getfield 9, 3) := by decide +kernel
theorem dX3_make_25 : decode cX3_make 25 = .ok (.iconst 0, 1) := by decide +kernel
theorem dX3_make_26 : decode cX3_make 26 = .ok (.invokestatic 105, 3) := by decide +kernel
theorem dX3_make_29 : decode cX3_make 29 = .ok (.aload_n 0, 1) := by decide +kernel
theorem dX3_make_30 : decode cX3_make 30 = .ok (.getfield 15, 3) := by decide +kernel
theorem dX3_make_33 : decode cX3_make 33 = .ok (.iconst 0, 1) := by decide +kernel
theorem dX3_make_34 : decode cX3_make 34 = .ok (.invokestatic 105, 3) := by decide +kernel
theorem dX3_make_37 : decode cX3_make 37 = .ok (.aload_n 0, 1) := by decide +kernel
theorem dX3_make_38 : decode cX3_make 38 = .ok (.dup, 1) := by decide +kernel
theorem dX3_make_39 : decode cX3_make 39 = .ok (.getfield 28, 3) := by decide +kernel
theorem dX3_make_42 : decode cX3_make 42 = .ok (.iconst 1, 1) := by decide +kernel
theorem dX3_make_43 : decode cX3_make 43 = .ok (.isub, 1) := by decide +kernel
theorem dX3_make_44 : decode cX3_make 44 = .ok (.putfield 28, 3) := by decide +kernel
theorem dX3_make_47 : decode cX3_make 47 = .ok (.return_, 1) := by decide +kernel
theorem dX3_make_48 : decode cX3_make 48 = .ok (.iload_n 1, 1) := by decide +kernel
theorem dX3_make_49 : decode cX3_make 49 = .ok (.bipush 10, 2) := by decide +kernel
theorem dX3_make_51 : decode cX3_make 51 = .ok (.isub, 1) := by decide +kernel
theorem dX3_make_52 : decode cX3_make 52 = .ok (.istore_n 2, 1) := by decide +kernel
theorem dX3_make_53 : decode cX3_make 53 = .ok (.aload_n 0, 1) := by decide +kernel
theorem dX3_make_54 : decode cX3_make 54 = .ok (.iload_n 2, 1) := by decide +kernel
theorem dX3_make_55 : decode cX3_make 55 = .ok (.invokevirtual 80, 3) := by decide +kernel
theorem dX3_make_58 : decode cX3_make 58 = .ok (.istore_n 3, 1) := by decide +kernel
theorem dX3_make_59 : decode cX3_make 59 = .ok (.aload_n 0, 1) := by decide +kernel
theorem dX3_make_60 : decode cX3_make 60 = .ok (.iload_n 2, 1) := by decide +kernel
theorem dX3_make_61 : decode cX3_make 61 = .ok (.invokevirtual 83, 3) := by decide +kernel
theorem dX3_make_64 : decode cX3_make 64 = .ok (.istore 4, 2) := by decide +kernel
theorem dX3_make_66 : decode cX3_make 66 = .ok (.aload_n 0, 1) := by decide +kernel
theorem dX3_make_67 : decode cX3_make 67 = .ok (.getfield 9, 3) := by decide +kernel
theorem dX3_make_70 : decode cX3_make 70 = .ok (.iload_n 3, 1) := by decide +kernel
theorem dX3_make_71 : decode cX3_make 71 = .ok (.aload_n 0, 1) := by decide +kernel
theorem dX3_make_72 : decode cX3_make 72 = .ok (.getfield 9, 3) := by decide +kernel
theorem dX3_make_75 : decode cX3_make 75 = .ok (.iload_n 3, 1) := by decide +kernel
theorem dX3_make_76 : decode cX3_make 76 = .ok (.invokestatic 39, 3) := by decide +kernel
theorem dX3_make_79 : decode cX3_make 79 = .ok (.aload_n 0, 1) := by decide +kernel
theorem dX3_make_80 : decode cX3_make 80 = .ok (.getfield 9, 3) := by decide +kernel
theorem dX3_make_83 : decode cX3_make 83 = .ok (.iload 4, 2) := by decide +kernel
theorem dX3_make_85 : decode cX3_make 85 = .ok (.invokestatic 39, 3) := by decide +kernel
theorem dX3_make_88 : decode cX3_make 88 = .ok (.iadd, 1) := by decide +kernel
theorem dX3_make_89 : decode cX3_make 89 = .ok (.aload_n 0, 1) := by decide +kernel
theorem dX3_make_90 : decode cX3_make 90 = .ok (.getfield 9, 3) := by decide +kernel
theorem dX3_make_93 : decode cX3_make 93 = .ok (.iload_n 2, 1) := by decide +kernel
theorem dX3_make_94 : decode cX3_make 94 = .ok (.invokestatic 39, 3) := by decide +kernel
theorem dX3_make_97 : decode cX3_make 97 = .ok (.isub, 1) := by decide +kernel
theorem dX3_make_98 : decode cX3_make 98 = .ok (.invokestatic 47, 3) := by decide +kernel
theorem dX3_make_101 : decode cX3_make 101 = .ok (.aload_n 0, 1) := by decide +kernel
theorem dX3_make_102 : decode cX3_make 102 = .ok (.getfield 9, 3) := by decide +kernel
theorem dX3_make_105 : decode cX3_make 105 = .ok (.iload_n 2, 1) := by decide +kernel
theorem dX3_make_106 : decode cX3_make 106 = .ok (.iload 4, 2) := by decide +kernel
theorem dX3_make_108 : decode cX3_make 108 = .ok (.invokestatic 109, 3) := by decide +kernel
theorem dX3_make_111 : decode cX3_make 111 = .ok (.invokestatic 105, 3) := by decide +kernel
theorem dX3_make_114 : decode cX3_make 114 = .ok (.aload_n 0, 1) := by decide +kernel
theorem dX3_make_115 : decode cX3_make 115 = .ok (.getfield 9, 3) := by decide +kernel
theorem dX3_make_118 : decode cX3_make 118 = .ok (.iload_n 2, 1) := by decide +kernel
theorem dX3_make_119 : decode cX3_make 119 = .ok (.iload 4, 2) := by decide +kernel
theorem dX3_make_121 : decode cX3_make 121 = .ok (.invokestatic 112, 3) := by decide +kernel
theorem dX3_make_124 : decode cX3_make 124 = .ok (.invokestatic 105, 3) := by decide +kernel
theorem dX3_make_127 : decode cX3_make 127 = .ok (.aload_n 0, 1) := by decide +kernel
theorem dX3_make_128 : decode cX3_make 128 = .ok (.getfield 15, 3) := by decide +kernel
theorem dX3_make_131 : decode cX3_make 131 = .ok (.iload_n 2, 1) := by decide +kernel
theorem dX3_make_132 : decode cX3_make 132 = .ok (.iload 4, 2) := by decide +kernel
theorem dX3_make_134 : decode cX3_make 134 = .ok (.invokestatic 109, 3) := by decide +kernel
theorem dX3_make_137 : decode cX3_make 137 = .ok (.invokestatic 105, 3) := by decide +kernel
theorem dX3_make_140 : decode cX3_make 140 = .ok (.aload_n 0, 1) := by decide +kernel
theorem dX3_make_141 : decode cX3_make 141 = .ok (.getfield 15, 3) := by decide +kernel
theorem dX3_make_144 : decode cX3_make 144 = .ok (.iload_n 2, 1) := by decide +kernel
theorem dX3_make_145 : decode cX3_make 145 = .ok (.iload 4, 2) := by decide +kernel
theorem dX3_make_147 : decode cX3_make 147 = .ok (.invokestatic 112, 3) := by decide +kernel
theorem dX3_make_150 : decode cX3_make 150 = .ok (.invokestatic 105, 3) := by decide +kernel
theorem dX3_make_153 : decode cX3_make 153 = .ok (.aload_n 0, 1) := by decide +kernel
theorem dX3_make_154 : decode cX3_make 154 = .ok (.dup, 1) := by decide +kernel
theorem dX3_make_155 : decode cX3_make 155 = .ok (.getfield 28, 3) := by decide +kernel
theorem dX3_make_158 : decode cX3_make 158 = .ok (.iconst 2, 1) := by decide +kernel
theorem dX3_make_159 : decode cX3_make 159 = .ok (.isub, 1) := by decide +kernel
theorem dX3_make_160 : decode cX3_make 160 = .ok (.putfield 28, 3) := by decide +kernel
theorem dX3_make_163 : decode cX3_make 163 = .ok (.return_, 1) := by decide +kernel
theorem dX3_putCrease_0 : decode cX3_putCrease 0 = .ok (.aload_n 0, 1) := by decide +kernel
theorem dX3_putCrease_1 : decode cX3_putCrease 1 = .ok (.getfield 15, 3) := by decide +kernel
theorem dX3_putCrease_4 : decode cX3_putCrease 4 = .ok (.aload_n 0, 1) := by decide +kernel
theorem dX3_putCrease_5 : decode cX3_putCrease 5 = .ok (.getfield 24, 3) := by decide +kernel
theorem dX3_putCrease_8 : decode cX3_putCrease 8 = .ok (.ifCond .ne 9, 3) := by decide +kernel
theorem dX3_putCrease_11 : decode cX3_putCrease 11 = .ok (.iload_n 1, 1) := by decide +kernel
theorem dX3_putCrease_12 : decode cX3_putCrease 12 = .ok (.iconst 1, 1) := by decide +kernel
theorem dX3_putCrease_13 : decode cX3_putCrease 13 = .ok (.iadd, 1) := by decide +kernel
theorem dX3_putCrease_14 : decode cX3_putCrease 14 = .ok (.goto 4, 3) := by decide +kernel
theorem dX3_putCrease_17 : decode cX3_putCrease 17 = .ok (.iload_n 1, 1) := by decide +kernel
theorem dX3_putCrease_18 : decode cX3_putCrease 18 = .ok (.iload_n 2, 1) := by decide +kernel
theorem dX3_putCrease_19 : decode cX3_putCrease 19 = .ok (.invokestatic 47, 3) := by decide +kernel
theorem dX3_putCrease_22 : decode cX3_putCrease 22 = .ok (.return_, 1) := by decide +kernel
theorem dX3_reduce_0 : decode cX3_reduce 0 = .ok (.iconst 0, 1) := by decide +kernel
theorem dX3_reduce_1 : decode cX3_reduce 1 = .ok (.istore_n 1, 1) := by decide +kernel
theorem dX3_reduce_2 : decode cX3_reduce 2 = .ok (.aload_n 0, 1) := by decide +kernel
theorem dX3_reduce_3 : decode cX3_reduce 3 = .ok (.invokevirtual 98, 3) := by decide +kernel
theorem dX3_reduce_6 : decode cX3_reduce 6 = .ok (.istore_n 2, 1) := by decide +kernel
theorem dX3_reduce_7 : decode cX3_reduce 7 = .ok (.iload_n 1, 1) := by decide +kernel
theorem dX3_reduce_8 : decode cX3_reduce 8 = .ok (.bipush 8, 2) := by decide +kernel
theorem dX3_reduce_10 : decode cX3_reduce 10 = .ok (.if_icmp .ge 23, 3) := by decide +kernel
theorem dX3_reduce_13 : decode cX3_reduce 13 = .ok (.iload_n 2, 1) := by decide +kernel
theorem dX3_reduce_14 : decode cX3_reduce 14 = .ok (.ifCond .eq 19, 3) := by decide +kernel
theorem dX3_reduce_17 : decode cX3_reduce 17 = .ok (.aload_n 0, 1) := by decide +kernel
theorem dX3_reduce_18 : decode cX3_reduce 18 = .ok (.iload_n 2, 1) := by decide +kernel
theorem dX3_reduce_19 : decode cX3_reduce 19 = .ok (.invokevirtual 101, 3) := by decide +kernel
theorem dX3_reduce_22 : decode cX3_reduce 22 = .ok (.iinc 1 1, 3) := by decide +kernel
theorem dX3_reduce_25 : decode cX3_reduce 25 = .ok (.aload_n 0, 1) := by decide +kernel
theorem dX3_reduce_26 : decode cX3_reduce 26 = .ok (.invokevirtual 98, 3) := by decide +kernel
theorem dX3_reduce_29 : decode cX3_reduce 29 = .ok (.istore_n 2, 1) := by decide +kernel
theorem dX3_reduce_30 : decode cX3_reduce 30 = .ok (.goto (-23), 3) := by decide +kernel
theorem dX3_reduce_33 : decode cX3_reduce 33 = .ok (.iload_n 1, 1) := by decide +kernel
theorem dX3_reduce_34 : decode cX3_reduce 34 = .ok (.ireturn, 1) := by decide +kernel
theorem dX3_whatStandsInTheWay_0 : decode cX3_whatStandsInTheWay 0 = .ok (.aload_n 1, 1) := by decide +kernel
theorem dX3_whatStandsInTheWay_1 : decode cX3_whatStandsInTheWay 1 = .ok (.invokevirtual 51, 3) := by decide +kernel
theorem dX3_whatStandsInTheWay_4 : decode cX3_whatStandsInTheWay 4 = .ok (.ifCond .eq 5, 3) := by decide +kernel
theorem dX3_whatStandsInTheWay_7 : decode cX3_whatStandsInTheWay 7 = .ok (.iconst 4, 1) := by decide +kernel
theorem dX3_whatStandsInTheWay_8 : decode cX3_whatStandsInTheWay 8 = .ok (.ireturn, 1) := by decide +kernel
theorem dX3_whatStandsInTheWay_9 : decode cX3_whatStandsInTheWay 9 = .ok (.aload_n 0, 1) := by decide +kernel
theorem dX3_whatStandsInTheWay_10 : decode cX3_whatStandsInTheWay 10 = .ok (.aload_n 1, 1) := by decide +kernel
theorem dX3_whatStandsInTheWay_11 : decode cX3_whatStandsInTheWay 11 = .ok (.invokevirtual 55, 3) := by decide +kernel
theorem dX3_whatStandsInTheWay_14 : decode cX3_whatStandsInTheWay 14 = .ok (.aload_n 0, 1) := by decide +kernel
theorem dX3_whatStandsInTheWay_15 : decode cX3_whatStandsInTheWay 15 = .ok (.getfield 24, 3) := by decide +kernel
theorem dX3_whatStandsInTheWay_18 : decode cX3_whatStandsInTheWay 18 = .ok (.iconst 1, 1) := by decide +kernel
theorem dX3_whatStandsInTheWay_19 : decode cX3_whatStandsInTheWay 19 = .ok (.if_icmp .ne 43, 3) := by decide +kernel
theorem dX3_whatStandsInTheWay_22 : decode cX3_whatStandsInTheWay 22 = .ok (.aload_n 0, 1) := by decide +kernel
theorem dX3_whatStandsInTheWay_23 : decode cX3_whatStandsInTheWay 23 = .ok (.invokevirtual 59, 3) := by decide +kernel
theorem dX3_whatStandsInTheWay_26 : decode cX3_whatStandsInTheWay 26 = .ok (.bipush 12, 2) := by decide +kernel
theorem dX3_whatStandsInTheWay_28 : decode cX3_whatStandsInTheWay 28 = .ok (.if_icmp .eq 5, 3) := by decide +kernel
theorem dX3_whatStandsInTheWay_31 : decode cX3_whatStandsInTheWay 31 = .ok (.iconst 1, 1) := by decide +kernel
theorem dX3_whatStandsInTheWay_32 : decode cX3_whatStandsInTheWay 32 = .ok (.ireturn, 1) := by decide +kernel
theorem dX3_whatStandsInTheWay_33 : decode cX3_whatStandsInTheWay 33 = .ok (.aload_n 1, 1) := by decide +kernel
theorem dX3_whatStandsInTheWay_34 : decode cX3_whatStandsInTheWay 34 = .ok (.iconst 1, 1) := by decide +kernel
theorem dX3_whatStandsInTheWay_35 : decode cX3_whatStandsInTheWay 35 = .ok (.invokevirtual 62, 3) := by decide +kernel
theorem dX3_whatStandsInTheWay_38 : decode cX3_whatStandsInTheWay 38 = .ok (.aload_n 1, 1) := by decide +kernel
theorem dX3_whatStandsInTheWay_39 : decode cX3_whatStandsInTheWay 39 = .ok (.iconst 2, 1) := by decide +kernel
theorem dX3_whatStandsInTheWay_40 : decode cX3_whatStandsInTheWay 40 = .ok (.invokevirtual 62, 3) := by decide +kernel
theorem dX3_whatStandsInTheWay_43 : decode cX3_whatStandsInTheWay 43 = .ok (.isub, 1) := by decide +kernel
theorem dX3_whatStandsInTheWay_44 : decode cX3_whatStandsInTheWay 44 = .ok (.invokestatic 66, 3) := by decide +kernel
theorem dX3_whatStandsInTheWay_47 : decode cX3_whatStandsInTheWay 47 = .ok (.iconst 2, 1) := by decide +kernel
theorem dX3_whatStandsInTheWay_48 : decode cX3_whatStandsInTheWay 48 = .ok (.if_icmp .eq 5, 3) := by decide +kernel
theorem dX3_whatStandsInTheWay_51 : decode cX3_whatStandsInTheWay 51 = .ok (.iconst 2, 1) := by decide +kernel
theorem dX3_whatStandsInTheWay_52 : decode cX3_whatStandsInTheWay 52 = .ok (.ireturn, 1) := by decide +kernel
theorem dX3_whatStandsInTheWay_53 : decode cX3_whatStandsInTheWay 53 = .ok (.aload_n 0, 1) := by decide +kernel
theorem dX3_whatStandsInTheWay_54 : decode cX3_whatStandsInTheWay 54 = .ok (.invokevirtual 71, 3) := by decide +kernel
theorem dX3_whatStandsInTheWay_57 : decode cX3_whatStandsInTheWay 57 = .ok (.ifCond .eq 5, 3) := by decide +kernel
theorem dX3_whatStandsInTheWay_60 : decode cX3_whatStandsInTheWay 60 = .ok (.iconst 3, 1) := by decide +kernel
theorem dX3_whatStandsInTheWay_61 : decode cX3_whatStandsInTheWay 61 = .ok (.ireturn, 1) := by decide +kernel
theorem dX3_whatStandsInTheWay_62 : decode cX3_whatStandsInTheWay 62 = .ok (.aload_n 0, 1) := by decide +kernel
theorem dX3_whatStandsInTheWay_63 : decode cX3_whatStandsInTheWay 63 = .ok (.invokevirtual 74, 3) := by decide +kernel
theorem dX3_whatStandsInTheWay_66 : decode cX3_whatStandsInTheWay 66 = .ok (.pop, 1) := by decide +kernel
theorem dX3_whatStandsInTheWay_67 : decode cX3_whatStandsInTheWay 67 = .ok (.aload_n 0, 1) := by decide +kernel
theorem dX3_whatStandsInTheWay_68 : decode cX3_whatStandsInTheWay 68 = .ok (.invokevirtual 77, 3) := by decide +kernel
theorem dX3_whatStandsInTheWay_71 : decode cX3_whatStandsInTheWay 71 = .ok (.ifCond .eq 7, 3) := by decide +kernel
theorem dX3_whatStandsInTheWay_74 : decode cX3_whatStandsInTheWay 74 = .ok (.iconst 0, 1) := by decide +kernel
theorem dX3_whatStandsInTheWay_75 : decode cX3_whatStandsInTheWay 75 = .ok (.goto 4, 3) := by decide +kernel
theorem dX3_whatStandsInTheWay_78 : decode cX3_whatStandsInTheWay 78 = .ok (.iconst 5, 1) := by decide +kernel
theorem dX3_whatStandsInTheWay_79 : decode cX3_whatStandsInTheWay 79 = .ok (.ireturn, 1) := by decide +kernel
theorem dX4_clear_0 : decode cX4_clear 0 = .ok (.aload_n 0, 1) := by decide +kernel
theorem dX4_clear_1 : decode cX4_clear 1 = .ok (.iconst 0, 1) := by decide +kernel
theorem dX4_clear_2 : decode cX4_clear 2 = .ok (.putfield 15, 3) := by decide +kernel
theorem dX4_clear_5 : decode cX4_clear 5 = .ok (.return_, 1) := by decide +kernel
theorem dX4_codeHere_0 : decode cX4_codeHere 0 = .ok (.aload_n 0, 1) := by decide +kernel
theorem dX4_codeHere_1 : decode cX4_codeHere 1 = .ok (.getfield 23, 3) := by decide +kernel
theorem dX4_codeHere_4 : decode cX4_codeHere 4 = .ok (.aload_n 0, 1) := by decide +kernel
theorem dX4_codeHere_5 : decode cX4_codeHere 5 = .ok (.getfield 15, 3) := by decide +kernel
theorem dX4_codeHere_8 : decode cX4_codeHere 8 = .ok (.if_icmp .ge 17, 3) := by decide +kernel
theorem dX4_codeHere_11 : decode cX4_codeHere 11 = .ok (.aload_n 0, 1) := by decide +kernel
theorem dX4_codeHere_12 : decode cX4_codeHere 12 = .ok (.getfield 9, 3) := by decide +kernel
theorem dX4_codeHere_15 : decode cX4_codeHere 15 = .ok (.aload_n 0, 1) := by decide +kernel
theorem dX4_codeHere_16 : decode cX4_codeHere 16 = .ok (.getfield 23, 3) := by decide +kernel
theorem dX4_codeHere_19 : decode cX4_codeHere 19 = .ok (.invokestatic 59, 3) := by decide +kernel
theorem dX4_codeHere_22 : decode cX4_codeHere 22 = .ok (.goto 4, 3) := by decide +kernel
theorem dX4_codeHere_25 : decode cX4_codeHere 25 = .ok (.iconst 0, 1) := by decide +kernel
theorem dX4_codeHere_26 : decode cX4_codeHere 26 = .ok (.ireturn, 1) := by decide +kernel
theorem dX4_faultPosition_0 : decode cX4_faultPosition 0 = .ok (.aload_n 0, 1) := by decide +kernel
theorem dX4_faultPosition_1 : decode cX4_faultPosition 1 = .ok (.invokevirtual 26, 3) := by decide +kernel
theorem dX4_faultPosition_4 : decode cX4_faultPosition 4 = .ok (.iconst 0, 1) := by decide +kernel
theorem dX4_faultPosition_5 : decode cX4_faultPosition 5 = .ok (.istore_n 1, 1) := by decide +kernel
theorem dX4_faultPosition_6 : decode cX4_faultPosition 6 = .ok (.iload_n 1, 1) := by decide +kernel
theorem dX4_faultPosition_7 : decode cX4_faultPosition 7 = .ok (.bipush 80, 2) := by decide +kernel
theorem dX4_faultPosition_9 : decode cX4_faultPosition 9 = .ok (.if_icmp .ge 45, 3) := by decide +kernel
theorem dX4_faultPosition_12 : decode cX4_faultPosition 12 = .ok (.aload_n 0, 1) := by decide +kernel
theorem dX4_faultPosition_13 : decode cX4_faultPosition 13 = .ok (.invokevirtual 29, 3) := by decide +kernel
theorem dX4_faultPosition_16 : decode cX4_faultPosition 16 = .ok (.ifCond .eq 38, 3) := by decide +kernel
theorem dX4_faultPosition_19 : decode cX4_faultPosition 19 = .ok (.aload_n 0, 1) := by decide +kernel
theorem dX4_faultPosition_20 : decode cX4_faultPosition 20 = .ok (.getfield 23, 3) := by decide +kernel
theorem dX4_faultPosition_23 : decode cX4_faultPosition 23 = .ok (.aload_n 0, 1) := by decide +kernel
theorem dX4_faultPosition_24 : decode cX4_faultPosition 24 = .ok (.getfield 15, 3) := by decide +kernel
theorem dX4_faultPosition_27 : decode cX4_faultPosition 27 = .ok (.if_icmp .ne 7, 3) := by decide +kernel
theorem dX4_faultPosition_30 : decode cX4_faultPosition 30 = .ok (.sipush (-1004), 3) := by decide +kernel
theorem dX4_faultPosition_33 : decode cX4_faultPosition 33 = .ok (.ireturn, 1) := by decide +kernel
theorem dX4_faultPosition_34 : decode cX4_faultPosition 34 = .ok (.aload_n 0, 1) := by decide +kernel
theorem dX4_faultPosition_35 : decode cX4_faultPosition 35 = .ok (.bipush 59, 2) := by decide +kernel
theorem dX4_faultPosition_37 : decode cX4_faultPosition 37 = .ok (.invokevirtual 33, 3) := by decide +kernel
theorem dX4_faultPosition_40 : decode cX4_faultPosition 40 = .ok (.ifCond .ne 8, 3) := by decide +kernel
theorem dX4_faultPosition_43 : decode cX4_faultPosition 43 = .ok (.aload_n 0, 1) := by decide +kernel
theorem dX4_faultPosition_44 : decode cX4_faultPosition 44 = .ok (.getfield 23, 3) := by decide +kernel
theorem dX4_faultPosition_47 : decode cX4_faultPosition 47 = .ok (.ireturn, 1) := by decide +kernel
theorem dX4_faultPosition_48 : decode cX4_faultPosition 48 = .ok (.iinc 1 1, 3) := by decide +kernel
theorem dX4_faultPosition_51 : decode cX4_faultPosition 51 = .ok (.goto (-45), 3) := by decide +kernel
theorem dX4_faultPosition_54 : decode cX4_faultPosition 54 = .ok (.aload_n 0, 1) := by decide +kernel
theorem dX4_faultPosition_55 : decode cX4_faultPosition 55 = .ok (.getfield 23, 3) := by decide +kernel
theorem dX4_faultPosition_58 : decode cX4_faultPosition 58 = .ok (.ireturn, 1) := by decide +kernel
theorem dX4_rewind_0 : decode cX4_rewind 0 = .ok (.aload_n 0, 1) := by decide +kernel
theorem dX4_rewind_1 : decode cX4_rewind 1 = .ok (.iconst 0, 1) := by decide +kernel
theorem dX4_rewind_2 : decode cX4_rewind 2 = .ok (.putfield 23, 3) := by decide +kernel
theorem dX4_rewind_5 : decode cX4_rewind 5 = .ok (.return_, 1) := by decide +kernel
theorem dX4_takeCommand_0 : decode cX4_takeCommand 0 = .ok (.aload_n 0, 1) := by decide +kernel
theorem dX4_takeCommand_1 : decode cX4_takeCommand 1 = .ok (.aload_n 0, 1) := by decide +kernel
theorem dX4_takeCommand_2 : decode cX4_takeCommand 2 = .ok (.invokevirtual 37, 3) := by decide +kernel
theorem dX4_takeCommand_5 : decode cX4_takeCommand 5 = .ok (.putfield 41, 3) := by decide +kernel
theorem dX4_takeCommand_8 : decode cX4_takeCommand 8 = .ok (.aload_n 0, 1) := by decide +kernel
theorem dX4_takeCommand_9 : decode cX4_takeCommand 9 = .ok (.getfield 41, 3) := by decide +kernel
theorem dX4_takeCommand_12 : decode cX4_takeCommand 12 = .ok (.tableswitch 213 99 120 #[104, 213, 213, 198, 213, 213, 213, 213, 213, 213, 143, 213, 213, 213, 213, 213, 104, 198, 198, 213, 213, 198], 104) := by decide +kernel
theorem dX4_takeCommand_116 : decode cX4_takeCommand 116 = .ok (.aload_n 0, 1) := by decide +kernel
theorem dX4_takeCommand_117 : decode cX4_takeCommand 117 = .ok (.dup, 1) := by decide +kernel
theorem dX4_takeCommand_118 : decode cX4_takeCommand 118 = .ok (.getfield 23, 3) := by decide +kernel
theorem dX4_takeCommand_121 : decode cX4_takeCommand 121 = .ok (.iconst 1, 1) := by decide +kernel
theorem dX4_takeCommand_122 : decode cX4_takeCommand 122 = .ok (.iadd, 1) := by decide +kernel
theorem dX4_takeCommand_123 : decode cX4_takeCommand 123 = .ok (.putfield 23, 3) := by decide +kernel
theorem dX4_takeCommand_126 : decode cX4_takeCommand 126 = .ok (.aload_n 0, 1) := by decide +kernel
theorem dX4_takeCommand_127 : decode cX4_takeCommand 127 = .ok (.invokevirtual 44, 3) := by decide +kernel
theorem dX4_takeCommand_130 : decode cX4_takeCommand 130 = .ok (.ifCond .eq 23, 3) := by decide +kernel
theorem dX4_takeCommand_133 : decode cX4_takeCommand 133 = .ok (.aload_n 0, 1) := by decide +kernel
theorem dX4_takeCommand_134 : decode cX4_takeCommand 134 = .ok (.bipush 58, 2) := by decide +kernel
theorem dX4_takeCommand_136 : decode cX4_takeCommand 136 = .ok (.invokevirtual 33, 3) := by decide +kernel
theorem dX4_takeCommand_139 : decode cX4_takeCommand 139 = .ok (.ifCond .eq 14, 3) := by decide +kernel
theorem dX4_takeCommand_142 : decode cX4_takeCommand 142 = .ok (.aload_n 0, 1) := by decide +kernel
theorem dX4_takeCommand_143 : decode cX4_takeCommand 143 = .ok (.invokevirtual 47, 3) := by decide +kernel
theorem dX4_takeCommand_146 : decode cX4_takeCommand 146 = .ok (.ifCond .eq 7, 3) := by decide +kernel
theorem dX4_takeCommand_149 : decode cX4_takeCommand 149 = .ok (.iconst 1, 1) := by decide +kernel
theorem dX4_takeCommand_150 : decode cX4_takeCommand 150 = .ok (.goto 4, 3) := by decide +kernel
theorem dX4_takeCommand_153 : decode cX4_takeCommand 153 = .ok (.iconst 0, 1) := by decide +kernel
theorem dX4_takeCommand_154 : decode cX4_takeCommand 154 = .ok (.ireturn, 1) := by decide +kernel
theorem dX4_takeCommand_155 : decode cX4_takeCommand 155 = .ok (.aload_n 0, 1) := by decide +kernel
theorem dX4_takeCommand_156 : decode cX4_takeCommand 156 = .ok (.dup, 1) := by decide +kernel
theorem dX4_takeCommand_157 : decode cX4_takeCommand 157 = .ok (.getfield 23, 3) := by decide +kernel
theorem dX4_takeCommand_160 : decode cX4_takeCommand 160 = .ok (.iconst 1, 1) := by decide +kernel
theorem dX4_takeCommand_161 : decode cX4_takeCommand 161 = .ok (.iadd, 1) := by decide +kernel
theorem dX4_takeCommand_162 : decode cX4_takeCommand 162 = .ok (.putfield 23, 3) := by decide +kernel
theorem dX4_takeCommand_165 : decode cX4_takeCommand 165 = .ok (.aload_n 0, 1) := by decide +kernel
theorem dX4_takeCommand_166 : decode cX4_takeCommand 166 = .ok (.invokevirtual 50, 3) := by decide +kernel
theorem dX4_takeCommand_169 : decode cX4_takeCommand 169 = .ok (.ifCond .eq 39, 3) := by decide +kernel
theorem dX4_takeCommand_172 : decode cX4_takeCommand 172 = .ok (.aload_n 0, 1) := by decide +kernel
theorem dX4_takeCommand_173 : decode cX4_takeCommand 173 = .ok (.bipush 46, 2) := by decide +kernel
theorem dX4_takeCommand_175 : decode cX4_takeCommand 175 = .ok (.invokevirtual 33, 3) := by decide +kernel
theorem dX4_takeCommand_178 : decode cX4_takeCommand 178 = .ok (.ifCond .eq 30, 3) := by decide +kernel
theorem dX4_takeCommand_181 : decode cX4_takeCommand 181 = .ok (.aload_n 0, 1) := by decide +kernel
theorem dX4_takeCommand_182 : decode cX4_takeCommand 182 = .ok (.invokevirtual 53, 3) := by decide +kernel
theorem dX4_takeCommand_185 : decode cX4_takeCommand 185 = .ok (.ifCond .eq 23, 3) := by decide +kernel
theorem dX4_takeCommand_188 : decode cX4_takeCommand 188 = .ok (.aload_n 0, 1) := by decide +kernel
theorem dX4_takeCommand_189 : decode cX4_takeCommand 189 = .ok (.bipush 61, 2) := by decide +kernel
theorem dX4_takeCommand_191 : decode cX4_takeCommand 191 = .ok (.invokevirtual 33, 3) := by decide +kernel
theorem dX4_takeCommand_194 : decode cX4_takeCommand 194 = .ok (.ifCond .eq 14, 3) := by decide +kernel
theorem dX4_takeCommand_197 : decode cX4_takeCommand 197 = .ok (.aload_n 0, 1) := by decide +kernel
theorem dX4_takeCommand_198 : decode cX4_takeCommand 198 = .ok (.invokevirtual 56, 3) := by decide +kernel
theorem dX4_takeCommand_201 : decode cX4_takeCommand 201 = .ok (.ifCond .eq 7, 3) := by decide +kernel
theorem dX4_takeCommand_204 : decode cX4_takeCommand 204 = .ok (.iconst 1, 1) := by decide +kernel
theorem dX4_takeCommand_205 : decode cX4_takeCommand 205 = .ok (.goto 4, 3) := by decide +kernel
theorem dX4_takeCommand_208 : decode cX4_takeCommand 208 = .ok (.iconst 0, 1) := by decide +kernel
theorem dX4_takeCommand_209 : decode cX4_takeCommand 209 = .ok (.ireturn, 1) := by decide +kernel
theorem dX4_takeCommand_210 : decode cX4_takeCommand 210 = .ok (.aload_n 0, 1) := by decide +kernel
theorem dX4_takeCommand_211 : decode cX4_takeCommand 211 = .ok (.dup, 1) := by decide +kernel
theorem dX4_takeCommand_212 : decode cX4_takeCommand 212 = .ok (.getfield 23, 3) := by decide +kernel
theorem dX4_takeCommand_215 : decode cX4_takeCommand 215 = .ok (.iconst 1, 1) := by decide +kernel
theorem dX4_takeCommand_216 : decode cX4_takeCommand 216 = .ok (.iadd, 1) := by decide +kernel
theorem dX4_takeCommand_217 : decode cX4_takeCommand 217 = .ok (.putfield 23, 3) := by decide +kernel
theorem dX4_takeCommand_220 : decode cX4_takeCommand 220 = .ok (.aload_n 0, 1) := by decide +kernel
theorem dX4_takeCommand_221 : decode cX4_takeCommand 221 = .ok (.invokevirtual 50, 3) := by decide +kernel
theorem dX4_takeCommand_224 : decode cX4_takeCommand 224 = .ok (.ireturn, 1) := by decide +kernel
theorem dX4_takeCommand_225 : decode cX4_takeCommand 225 = .ok (.iconst 0, 1) := by decide +kernel
theorem dX4_takeCommand_226 : decode cX4_takeCommand 226 = .ok (.ireturn, 1) := by decide +kernel
theorem dX4_takeCrease_0 : decode cX4_takeCrease 0 = .ok (.aload_n 0, 1) := by decide +kernel
theorem dX4_takeCrease_1 : decode cX4_takeCrease 1 = .ok (.aload_n 0, 1) := by decide +kernel
theorem dX4_takeCrease_2 : decode cX4_takeCrease 2 = .ok (.invokevirtual 37, 3) := by decide +kernel
theorem dX4_takeCrease_5 : decode cX4_takeCrease 5 = .ok (.bipush 48, 2) := by decide +kernel
theorem dX4_takeCrease_7 : decode cX4_takeCrease 7 = .ok (.isub, 1) := by decide +kernel
theorem dX4_takeCrease_8 : decode cX4_takeCrease 8 = .ok (.putfield 66, 3) := by decide +kernel
theorem dX4_takeCrease_11 : decode cX4_takeCrease 11 = .ok (.aload_n 0, 1) := by decide +kernel
theorem dX4_takeCrease_12 : decode cX4_takeCrease 12 = .ok (.invokevirtual 75, 3) := by decide +kernel
theorem dX4_takeCrease_15 : decode cX4_takeCrease 15 = .ok (.ireturn, 1) := by decide +kernel
theorem dX4_takeCreases_0 : decode cX4_takeCreases 0 = .ok (.aload_n 0, 1) := by decide +kernel
theorem dX4_takeCreases_1 : decode cX4_takeCreases 1 = .ok (.iconst 0, 1) := by decide +kernel
theorem dX4_takeCreases_2 : decode cX4_takeCreases 2 = .ok (.putfield 66, 3) := by decide +kernel
theorem dX4_takeCreases_5 : decode cX4_takeCreases 5 = .ok (.aload_n 0, 1) := by decide +kernel
theorem dX4_takeCreases_6 : decode cX4_takeCreases 6 = .ok (.iconst 0, 1) := by decide +kernel
theorem dX4_takeCreases_7 : decode cX4_takeCreases 7 = .ok (.putfield 69, 3) := by decide +kernel
theorem dX4_takeCreases_10 : decode cX4_takeCreases 10 = .ok (.iconst 0, 1) := by decide +kernel
theorem dX4_takeCreases_11 : decode cX4_takeCreases 11 = .ok (.istore_n 1, 1) := by decide +kernel
theorem dX4_takeCreases_12 : decode cX4_takeCreases 12 = .ok (.iload_n 1, 1) := by decide +kernel
theorem dX4_takeCreases_13 : decode cX4_takeCreases 13 = .ok (.bipush 8, 2) := by decide +kernel
theorem dX4_takeCreases_15 : decode cX4_takeCreases 15 = .ok (.if_icmp .ge 42, 3) := by decide +kernel
theorem dX4_takeCreases_18 : decode cX4_takeCreases 18 = .ok (.aload_n 0, 1) := by decide +kernel
theorem dX4_takeCreases_19 : decode cX4_takeCreases 19 = .ok (.invokevirtual 56, 3) := by decide +kernel
theorem dX4_takeCreases_22 : decode cX4_takeCreases 22 = .ok (.ifCond .eq 35, 3) := by decide +kernel
theorem dX4_takeCreases_25 : decode cX4_takeCreases 25 = .ok (.aload_n 0, 1) := by decide +kernel
theorem dX4_takeCreases_26 : decode cX4_takeCreases 26 = .ok (.aload_n 0, 1) := by decide +kernel
theorem dX4_takeCreases_27 : decode cX4_takeCreases 27 = .ok (.getfield 66, 3) := by decide +kernel
theorem dX4_takeCreases_30 : decode cX4_takeCreases 30 = .ok (.bipush 10, 2) := by decide +kernel
theorem dX4_takeCreases_32 : decode cX4_takeCreases 32 = .ok (.imul, 1) := by decide +kernel
theorem dX4_takeCreases_33 : decode cX4_takeCreases 33 = .ok (.aload_n 0, 1) := by decide +kernel
theorem dX4_takeCreases_34 : decode cX4_takeCreases 34 = .ok (.getfield 72, 3) := by decide +kernel
theorem dX4_takeCreases_37 : decode cX4_takeCreases 37 = .ok (.iadd, 1) := by decide +kernel
theorem dX4_takeCreases_38 : decode cX4_takeCreases 38 = .ok (.putfield 66, 3) := by decide +kernel
theorem dX4_takeCreases_41 : decode cX4_takeCreases 41 = .ok (.aload_n 0, 1) := by decide +kernel
theorem dX4_takeCreases_42 : decode cX4_takeCreases 42 = .ok (.dup, 1) := by decide +kernel
theorem dX4_takeCreases_43 : decode cX4_takeCreases 43 = .ok (.getfield 69, 3) := by decide +kernel
theorem dX4_takeCreases_46 : decode cX4_takeCreases 46 = .ok (.iconst 1, 1) := by decide +kernel
theorem dX4_takeCreases_47 : decode cX4_takeCreases 47 = .ok (.iadd, 1) := by decide +kernel
theorem dX4_takeCreases_48 : decode cX4_takeCreases 48 = .ok (.putfield 69, 3) := by decide +kernel
theorem dX4_takeCreases_51 : decode cX4_takeCreases 51 = .ok (.iinc 1 1, 3) := by decide +kernel
theorem dX4_takeCreases_54 : decode cX4_takeCreases 54 = .ok (.goto (-42), 3) := by decide +kernel
theorem dX4_takeCreases_57 : decode cX4_takeCreases 57 = .ok (.aload_n 0, 1) := by decide +kernel
theorem dX4_takeCreases_58 : decode cX4_takeCreases 58 = .ok (.getfield 69, 3) := by decide +kernel
theorem dX4_takeCreases_61 : decode cX4_takeCreases 61 = .ok (.ifCond .le 7, 3) := by decide +kernel
theorem dX4_takeCreases_64 : decode cX4_takeCreases 64 = .ok (.iconst 1, 1) := by decide +kernel
theorem dX4_takeCreases_65 : decode cX4_takeCreases 65 = .ok (.goto 4, 3) := by decide +kernel
theorem dX4_takeCreases_68 : decode cX4_takeCreases 68 = .ok (.iconst 0, 1) := by decide +kernel
theorem dX4_takeCreases_69 : decode cX4_takeCreases 69 = .ok (.ireturn, 1) := by decide +kernel
theorem dX4_takeDigit_0 : decode cX4_takeDigit 0 = .ok (.aload_n 0, 1) := by decide +kernel
theorem dX4_takeDigit_1 : decode cX4_takeDigit 1 = .ok (.invokevirtual 37, 3) := by decide +kernel
theorem dX4_takeDigit_4 : decode cX4_takeDigit 4 = .ok (.bipush 48, 2) := by decide +kernel
theorem dX4_takeDigit_6 : decode cX4_takeDigit 6 = .ok (.if_icmp .lt 12, 3) := by decide +kernel
theorem dX4_takeDigit_9 : decode cX4_takeDigit 9 = .ok (.aload_n 0, 1) := by decide +kernel
theorem dX4_takeDigit_10 : decode cX4_takeDigit 10 = .ok (.invokevirtual 37, 3) := by decide +kernel
theorem dX4_takeDigit_13 : decode cX4_takeDigit 13 = .ok (.bipush 57, 2) := by decide +kernel
theorem dX4_takeDigit_15 : decode cX4_takeDigit 15 = .ok (.if_icmp .le 5, 3) := by decide +kernel
theorem dX4_takeDigit_18 : decode cX4_takeDigit 18 = .ok (.iconst 0, 1) := by decide +kernel
theorem dX4_takeDigit_19 : decode cX4_takeDigit 19 = .ok (.ireturn, 1) := by decide +kernel
theorem dX4_takeDigit_20 : decode cX4_takeDigit 20 = .ok (.aload_n 0, 1) := by decide +kernel
theorem dX4_takeDigit_21 : decode cX4_takeDigit 21 = .ok (.dup, 1) := by decide +kernel
theorem dX4_takeDigit_22 : decode cX4_takeDigit 22 = .ok (.getfield 23, 3) := by decide +kernel
theorem dX4_takeDigit_25 : decode cX4_takeDigit 25 = .ok (.iconst 1, 1) := by decide +kernel
theorem dX4_takeDigit_26 : decode cX4_takeDigit 26 = .ok (.iadd, 1) := by decide +kernel
theorem dX4_takeDigit_27 : decode cX4_takeDigit 27 = .ok (.putfield 23, 3) := by decide +kernel
theorem dX4_takeDigit_30 : decode cX4_takeDigit 30 = .ok (.iconst 1, 1) := by decide +kernel
theorem dX4_takeDigit_31 : decode cX4_takeDigit 31 = .ok (.ireturn, 1) := by decide +kernel
theorem dX4_takeKind_0 : decode cX4_takeKind 0 = .ok (.aload_n 0, 1) := by decide +kernel
theorem dX4_takeKind_1 : decode cX4_takeKind 1 = .ok (.invokevirtual 37, 3) := by decide +kernel
theorem dX4_takeKind_4 : decode cX4_takeKind 4 = .ok (.istore_n 1, 1) := by decide +kernel
theorem dX4_takeKind_5 : decode cX4_takeKind 5 = .ok (.iload_n 1, 1) := by decide +kernel
theorem dX4_takeKind_6 : decode cX4_takeKind 6 = .ok (.bipush 111, 2) := by decide +kernel
theorem dX4_takeKind_8 : decode cX4_takeKind 8 = .ok (.if_icmp .eq 17, 3) := by decide +kernel
theorem dX4_takeKind_11 : decode cX4_takeKind 11 = .ok (.iload_n 1, 1) := by decide +kernel
theorem dX4_takeKind_12 : decode cX4_takeKind 12 = .ok (.bipush 109, 2) := by decide +kernel
theorem dX4_takeKind_14 : decode cX4_takeKind 14 = .ok (.if_icmp .eq 11, 3) := by decide +kernel
theorem dX4_takeKind_17 : decode cX4_takeKind 17 = .ok (.iload_n 1, 1) := by decide +kernel
theorem dX4_takeKind_18 : decode cX4_takeKind 18 = .ok (.bipush 118, 2) := by decide +kernel
theorem dX4_takeKind_20 : decode cX4_takeKind 20 = .ok (.if_icmp .eq 5, 3) := by decide +kernel
theorem dX4_takeKind_23 : decode cX4_takeKind 23 = .ok (.iconst 0, 1) := by decide +kernel
theorem dX4_takeKind_24 : decode cX4_takeKind 24 = .ok (.ireturn, 1) := by decide +kernel
theorem dX4_takeKind_25 : decode cX4_takeKind 25 = .ok (.aload_n 0, 1) := by decide +kernel
theorem dX4_takeKind_26 : decode cX4_takeKind 26 = .ok (.iload_n 1, 1) := by decide +kernel
theorem dX4_takeKind_27 : decode cX4_takeKind 27 = .ok (.bipush 111, 2) := by decide +kernel
theorem dX4_takeKind_29 : decode cX4_takeKind 29 = .ok (.if_icmp .ne 7, 3) := by decide +kernel
theorem dX4_takeKind_32 : decode cX4_takeKind 32 = .ok (.iconst 0, 1) := by decide +kernel
theorem dX4_takeKind_33 : decode cX4_takeKind 33 = .ok (.goto 14, 3) := by decide +kernel
theorem dX4_takeKind_36 : decode cX4_takeKind 36 = .ok (.iload_n 1, 1) := by decide +kernel
theorem dX4_takeKind_37 : decode cX4_takeKind 37 = .ok (.bipush 109, 2) := by decide +kernel
theorem dX4_takeKind_39 : decode cX4_takeKind 39 = .ok (.if_icmp .ne 7, 3) := by decide +kernel
theorem dX4_takeKind_42 : decode cX4_takeKind 42 = .ok (.iconst 1, 1) := by decide +kernel
theorem dX4_takeKind_43 : decode cX4_takeKind 43 = .ok (.goto 4, 3) := by decide +kernel
theorem dX4_takeKind_46 : decode cX4_takeKind 46 = .ok (.iconst 2, 1) := by decide +kernel
theorem dX4_takeKind_47 : decode cX4_takeKind 47 = .ok (.putfield 72, 3) := by decide +kernel
theorem dX4_takeKind_50 : decode cX4_takeKind 50 = .ok (.aload_n 0, 1) := by decide +kernel
theorem dX4_takeKind_51 : decode cX4_takeKind 51 = .ok (.dup, 1) := by decide +kernel
theorem dX4_takeKind_52 : decode cX4_takeKind 52 = .ok (.getfield 23, 3) := by decide +kernel
theorem dX4_takeKind_55 : decode cX4_takeKind 55 = .ok (.iconst 1, 1) := by decide +kernel
theorem dX4_takeKind_56 : decode cX4_takeKind 56 = .ok (.iadd, 1) := by decide +kernel
theorem dX4_takeKind_57 : decode cX4_takeKind 57 = .ok (.putfield 23, 3) := by decide +kernel
theorem dX4_takeKind_60 : decode cX4_takeKind 60 = .ok (.iconst 1, 1) := by decide +kernel
theorem dX4_takeKind_61 : decode cX4_takeKind 61 = .ok (.ireturn, 1) := by decide +kernel
theorem dX4_takePiece_0 : decode cX4_takePiece 0 = .ok (.aload_n 0, 1) := by decide +kernel
theorem dX4_takePiece_1 : decode cX4_takePiece 1 = .ok (.aload_n 0, 1) := by decide +kernel
theorem dX4_takePiece_2 : decode cX4_takePiece 2 = .ok (.invokevirtual 37, 3) := by decide +kernel
theorem dX4_takePiece_5 : decode cX4_takePiece 5 = .ok (.bipush 48, 2) := by decide +kernel
theorem dX4_takePiece_7 : decode cX4_takePiece 7 = .ok (.isub, 1) := by decide +kernel
theorem dX4_takePiece_8 : decode cX4_takePiece 8 = .ok (.putfield 63, 3) := by decide +kernel
theorem dX4_takePiece_11 : decode cX4_takePiece 11 = .ok (.aload_n 0, 1) := by decide +kernel
theorem dX4_takePiece_12 : decode cX4_takePiece 12 = .ok (.invokevirtual 75, 3) := by decide +kernel
theorem dX4_takePiece_15 : decode cX4_takePiece 15 = .ok (.ireturn, 1) := by decide +kernel
theorem dX4_takeSign_0 : decode cX4_takeSign 0 = .ok (.aload_n 0, 1) := by decide +kernel
theorem dX4_takeSign_1 : decode cX4_takeSign 1 = .ok (.invokevirtual 37, 3) := by decide +kernel
theorem dX4_takeSign_4 : decode cX4_takeSign 4 = .ok (.iload_n 1, 1) := by decide +kernel
theorem dX4_takeSign_5 : decode cX4_takeSign 5 = .ok (.if_icmp .eq 5, 3) := by decide +kernel
theorem dX4_takeSign_8 : decode cX4_takeSign 8 = .ok (.iconst 0, 1) := by decide +kernel
theorem dX4_takeSign_9 : decode cX4_takeSign 9 = .ok (.ireturn, 1) := by decide +kernel
theorem dX4_takeSign_10 : decode cX4_takeSign 10 = .ok (.aload_n 0, 1) := by decide +kernel
theorem dX4_takeSign_11 : decode cX4_takeSign 11 = .ok (.dup, 1) := by decide +kernel
theorem dX4_takeSign_12 : decode cX4_takeSign 12 = .ok (.getfield 23, 3) := by decide +kernel
theorem dX4_takeSign_15 : decode cX4_takeSign 15 = .ok (.iconst 1, 1) := by decide +kernel
theorem dX4_takeSign_16 : decode cX4_takeSign 16 = .ok (.iadd, 1) := by decide +kernel
theorem dX4_takeSign_17 : decode cX4_takeSign 17 = .ok (.putfield 23, 3) := by decide +kernel
theorem dX4_takeSign_20 : decode cX4_takeSign 20 = .ok (.iconst 1, 1) := by decide +kernel
theorem dX4_takeSign_21 : decode cX4_takeSign 21 = .ok (.ireturn, 1) := by decide +kernel
theorem dX4_takeSizes_0 : decode cX4_takeSizes 0 = .ok (.aload_n 0, 1) := by decide +kernel
theorem dX4_takeSizes_1 : decode cX4_takeSizes 1 = .ok (.iconst 0, 1) := by decide +kernel
theorem dX4_takeSizes_2 : decode cX4_takeSizes 2 = .ok (.putfield 63, 3) := by decide +kernel
theorem dX4_takeSizes_5 : decode cX4_takeSizes 5 = .ok (.iconst 0, 1) := by decide +kernel
theorem dX4_takeSizes_6 : decode cX4_takeSizes 6 = .ok (.istore_n 1, 1) := by decide +kernel
theorem dX4_takeSizes_7 : decode cX4_takeSizes 7 = .ok (.iload_n 1, 1) := by decide +kernel
theorem dX4_takeSizes_8 : decode cX4_takeSizes 8 = .ok (.bipush 8, 2) := by decide +kernel
theorem dX4_takeSizes_10 : decode cX4_takeSizes 10 = .ok (.if_icmp .ge 56, 3) := by decide +kernel
theorem dX4_takeSizes_13 : decode cX4_takeSizes 13 = .ok (.aload_n 0, 1) := by decide +kernel
theorem dX4_takeSizes_14 : decode cX4_takeSizes 14 = .ok (.invokevirtual 37, 3) := by decide +kernel
theorem dX4_takeSizes_17 : decode cX4_takeSizes 17 = .ok (.bipush 49, 2) := by decide +kernel
theorem dX4_takeSizes_19 : decode cX4_takeSizes 19 = .ok (.if_icmp .lt 47, 3) := by decide +kernel
theorem dX4_takeSizes_22 : decode cX4_takeSizes 22 = .ok (.aload_n 0, 1) := by decide +kernel
theorem dX4_takeSizes_23 : decode cX4_takeSizes 23 = .ok (.invokevirtual 37, 3) := by decide +kernel
theorem dX4_takeSizes_26 : decode cX4_takeSizes 26 = .ok (.bipush 57, 2) := by decide +kernel
theorem dX4_takeSizes_28 : decode cX4_takeSizes 28 = .ok (.if_icmp .gt 38, 3) := by decide +kernel
theorem dX4_takeSizes_31 : decode cX4_takeSizes 31 = .ok (.aload_n 0, 1) := by decide +kernel
theorem dX4_takeSizes_32 : decode cX4_takeSizes 32 = .ok (.aload_n 0, 1) := by decide +kernel
theorem dX4_takeSizes_33 : decode cX4_takeSizes 33 = .ok (.getfield 63, 3) := by decide +kernel
theorem dX4_takeSizes_36 : decode cX4_takeSizes 36 = .ok (.bipush 10, 2) := by decide +kernel
theorem dX4_takeSizes_38 : decode cX4_takeSizes 38 = .ok (.imul, 1) := by decide +kernel
theorem dX4_takeSizes_39 : decode cX4_takeSizes 39 = .ok (.aload_n 0, 1) := by decide +kernel
theorem dX4_takeSizes_40 : decode cX4_takeSizes 40 = .ok (.invokevirtual 37, 3) := by decide +kernel
theorem dX4_takeSizes_43 : decode cX4_takeSizes 43 = .ok (.iadd, 1) := by decide +kernel
theorem dX4_takeSizes_44 : decode cX4_takeSizes 44 = .ok (.bipush 48, 2) := by decide +kernel
theorem dX4_takeSizes_46 : decode cX4_takeSizes 46 = .ok (.isub, 1) := by decide +kernel
theorem dX4_takeSizes_47 : decode cX4_takeSizes 47 = .ok (.putfield 63, 3) := by decide +kernel
theorem dX4_takeSizes_50 : decode cX4_takeSizes 50 = .ok (.aload_n 0, 1) := by decide +kernel
theorem dX4_takeSizes_51 : decode cX4_takeSizes 51 = .ok (.dup, 1) := by decide +kernel
theorem dX4_takeSizes_52 : decode cX4_takeSizes 52 = .ok (.getfield 23, 3) := by decide +kernel
theorem dX4_takeSizes_55 : decode cX4_takeSizes 55 = .ok (.iconst 1, 1) := by decide +kernel
theorem dX4_takeSizes_56 : decode cX4_takeSizes 56 = .ok (.iadd, 1) := by decide +kernel
theorem dX4_takeSizes_57 : decode cX4_takeSizes 57 = .ok (.putfield 23, 3) := by decide +kernel
theorem dX4_takeSizes_60 : decode cX4_takeSizes 60 = .ok (.iinc 1 1, 3) := by decide +kernel
theorem dX4_takeSizes_63 : decode cX4_takeSizes 63 = .ok (.goto (-56), 3) := by decide +kernel
theorem dX4_takeSizes_66 : decode cX4_takeSizes 66 = .ok (.aload_n 0, 1) := by decide +kernel
theorem dX4_takeSizes_67 : decode cX4_takeSizes 67 = .ok (.getfield 63, 3) := by decide +kernel
theorem dX4_takeSizes_70 : decode cX4_takeSizes 70 = .ok (.ifCond .le 7, 3) := by decide +kernel
theorem dX4_takeSizes_73 : decode cX4_takeSizes 73 = .ok (.iconst 1, 1) := by decide +kernel
theorem dX4_takeSizes_74 : decode cX4_takeSizes 74 = .ok (.goto 4, 3) := by decide +kernel
theorem dX4_takeSizes_77 : decode cX4_takeSizes 77 = .ok (.iconst 0, 1) := by decide +kernel
theorem dX4_takeSizes_78 : decode cX4_takeSizes 78 = .ok (.ireturn, 1) := by decide +kernel
theorem dX4_write_0 : decode cX4_write 0 = .ok (.aload_n 0, 1) := by decide +kernel
theorem dX4_write_1 : decode cX4_write 1 = .ok (.getfield 9, 3) := by decide +kernel
theorem dX4_write_4 : decode cX4_write 4 = .ok (.aload_n 0, 1) := by decide +kernel
theorem dX4_write_5 : decode cX4_write 5 = .ok (.getfield 15, 3) := by decide +kernel
theorem dX4_write_8 : decode cX4_write 8 = .ok (.iload_n 1, 1) := by decide +kernel
theorem dX4_write_9 : decode cX4_write 9 = .ok (.invokestatic 19, 3) := by decide +kernel
theorem dX4_write_12 : decode cX4_write 12 = .ok (.aload_n 0, 1) := by decide +kernel
theorem dX4_write_13 : decode cX4_write 13 = .ok (.dup, 1) := by decide +kernel
theorem dX4_write_14 : decode cX4_write 14 = .ok (.getfield 15, 3) := by decide +kernel
theorem dX4_write_17 : decode cX4_write 17 = .ok (.iconst 1, 1) := by decide +kernel
theorem dX4_write_18 : decode cX4_write 18 = .ok (.iadd, 1) := by decide +kernel
theorem dX4_write_19 : decode cX4_write 19 = .ok (.putfield 15, 3) := by decide +kernel
theorem dX4_write_22 : decode cX4_write 22 = .ok (.return_, 1) := by decide +kernel
theorem dX5_addCopyOf_0 : decode cX5_addCopyOf 0 = .ok (.aload_n 0, 1) := by decide +kernel
theorem dX5_addCopyOf_1 : decode cX5_addCopyOf 1 = .ok (.getfield 22, 3) := by decide +kernel
theorem dX5_addCopyOf_4 : decode cX5_addCopyOf 4 = .ok (.aload_n 0, 1) := by decide +kernel
theorem dX5_addCopyOf_5 : decode cX5_addCopyOf 5 = .ok (.getfield 11, 3) := by decide +kernel
theorem dX5_addCopyOf_8 : decode cX5_addCopyOf 8 = .ok (.arraylength, 1) := by decide +kernel
theorem dX5_addCopyOf_9 : decode cX5_addCopyOf 9 = .ok (.if_icmp .lt 4, 3) := by decide +kernel
theorem dX5_addCopyOf_13 : decode cX5_addCopyOf 13 = .ok (.aload_n 0, 1) := by decide +kernel
theorem dX5_addCopyOf_14 : decode cX5_addCopyOf 14 = .ok (.dup, 1) := by decide +kernel
theorem dX5_addCopyOf_15 : decode cX5_addCopyOf 15 = .ok (.getfield 22, 3) := by decide +kernel
theorem dX5_addCopyOf_18 : decode cX5_addCopyOf 18 = .ok (.iconst 1, 1) := by decide +kernel
theorem dX5_addCopyOf_19 : decode cX5_addCopyOf 19 = .ok (.iadd, 1) := by decide +kernel
theorem dX5_addCopyOf_20 : decode cX5_addCopyOf 20 = .ok (.putfield 22, 3) := by decide +kernel
theorem dX5_addCopyOf_23 : decode cX5_addCopyOf 23 = .ok (.aload_n 0, 1) := by decide +kernel
theorem dX5_addCopyOf_24 : decode cX5_addCopyOf 24 = .ok (.aload_n 0, 1) := by decide +kernel
theorem dX5_addCopyOf_25 : decode cX5_addCopyOf 25 = .ok (.getfield 22, 3) := by decide +kernel
theorem dX5_addCopyOf_28 : decode cX5_addCopyOf 28 = .ok (.iconst 1, 1) := by decide +kernel
theorem dX5_addCopyOf_29 : decode cX5_addCopyOf 29 = .ok (.isub, 1) := by decide +kernel
theorem dX5_addCopyOf_30 : decode cX5_addCopyOf 30 = .ok (.invokevirtual 28, 3) := by decide +kernel
theorem dX5_addCopyOf_33 : decode cX5_addCopyOf 33 = .ok (.astore_n 2, 1) := by decide +kernel
theorem dX5_addCopyOf_34 : decode cX5_addCopyOf 34 = .ok (.aload_n 2, 1) := by decide +kernel
theorem dX5_addCopyOf_35 : decode cX5_addCopyOf 35 = .ok (.ifnull 8, 3) := by decide +kernel
theorem dX5_addCopyOf_38 : decode cX5_addCopyOf 38 = .ok (.aload_n 2, 1) := by decide +kernel
theorem dX5_addCopyOf_39 : decode cX5_addCopyOf 39 = .ok (.aload_n 1, 1) := by decide +kernel
theorem dX5_addCopyOf_40 : decode cX5_addCopyOf 40 = .ok (.invokevirtual 32, 3) := by decide +kernel
theorem dX5_addCopyOf_43 : decode cX5_addCopyOf 43 = .ok (.return_, 1) := by decide +kernel
theorem dX5_copyFrom_0 : decode cX5_copyFrom 0 = .ok (.aload_n 0, 1) := by decide +kernel
theorem dX5_copyFrom_1 : decode cX5_copyFrom 1 = .ok (.aload_n 1, 1) := by decide +kernel
theorem dX5_copyFrom_2 : decode cX5_copyFrom 2 = .ok (.getfield 22, 3) := by decide +kernel
theorem dX5_copyFrom_5 : decode cX5_copyFrom 5 = .ok (.putfield 22, 3) := by decide +kernel
theorem dX5_copyFrom_8 : decode cX5_copyFrom 8 = .ok (.aload_n 0, 1) := by decide +kernel
theorem dX5_copyFrom_9 : decode cX5_copyFrom 9 = .ok (.aload_n 1, 1) := by decide +kernel
theorem dX5_copyFrom_10 : decode cX5_copyFrom 10 = .ok (.getfield 17, 3) := by decide +kernel
theorem dX5_copyFrom_13 : decode cX5_copyFrom 13 = .ok (.putfield 17, 3) := by decide +kernel
theorem dX5_copyFrom_16 : decode cX5_copyFrom 16 = .ok (.aload_n 0, 1) := by decide +kernel
theorem dX5_copyFrom_17 : decode cX5_copyFrom 17 = .ok (.aload_n 1, 1) := by decide +kernel
theorem dX5_copyFrom_18 : decode cX5_copyFrom 18 = .ok (.getfield 25, 3) := by decide +kernel
theorem dX5_copyFrom_21 : decode cX5_copyFrom 21 = .ok (.putfield 25, 3) := by decide +kernel
theorem dX5_copyFrom_24 : decode cX5_copyFrom 24 = .ok (.iconst 0, 1) := by decide +kernel
theorem dX5_copyFrom_25 : decode cX5_copyFrom 25 = .ok (.istore_n 2, 1) := by decide +kernel
theorem dX5_copyFrom_26 : decode cX5_copyFrom 26 = .ok (.iload_n 2, 1) := by decide +kernel
theorem dX5_copyFrom_27 : decode cX5_copyFrom 27 = .ok (.aload_n 0, 1) := by decide +kernel
theorem dX5_copyFrom_28 : decode cX5_copyFrom 28 = .ok (.getfield 22, 3) := by decide +kernel
theorem dX5_copyFrom_31 : decode cX5_copyFrom 31 = .ok (.if_icmp .ge 37, 3) := by decide +kernel
theorem dX5_copyFrom_34 : decode cX5_copyFrom 34 = .ok (.aload_n 0, 1) := by decide +kernel
theorem dX5_copyFrom_35 : decode cX5_copyFrom 35 = .ok (.iload_n 2, 1) := by decide +kernel
theorem dX5_copyFrom_36 : decode cX5_copyFrom 36 = .ok (.invokevirtual 28, 3) := by decide +kernel
theorem dX5_copyFrom_39 : decode cX5_copyFrom 39 = .ok (.astore_n 3, 1) := by decide +kernel
theorem dX5_copyFrom_40 : decode cX5_copyFrom 40 = .ok (.aload_n 1, 1) := by decide +kernel
theorem dX5_copyFrom_41 : decode cX5_copyFrom 41 = .ok (.iload_n 2, 1) := by decide +kernel
theorem dX5_copyFrom_42 : decode cX5_copyFrom 42 = .ok (.invokevirtual 28, 3) := by decide +kernel
theorem dX5_copyFrom_45 : decode cX5_copyFrom 45 = .ok (.astore 4, 2) := by decide +kernel
theorem dX5_copyFrom_47 : decode cX5_copyFrom 47 = .ok (.aload_n 3, 1) := by decide +kernel
theorem dX5_copyFrom_48 : decode cX5_copyFrom 48 = .ok (.ifnull 14, 3) := by decide +kernel
theorem dX5_copyFrom_51 : decode cX5_copyFrom 51 = .ok (.aload 4, 2) := by decide +kernel
theorem dX5_copyFrom_53 : decode cX5_copyFrom 53 = .ok (.ifnull 9, 3) := by decide +kernel
theorem dX5_copyFrom_56 : decode cX5_copyFrom 56 = .ok (.aload_n 3, 1) := by decide +kernel
theorem dX5_copyFrom_57 : decode cX5_copyFrom 57 = .ok (.aload 4, 2) := by decide +kernel
theorem dX5_copyFrom_59 : decode cX5_copyFrom 59 = .ok (.invokevirtual 32, 3) := by decide +kernel
theorem dX5_copyFrom_62 : decode cX5_copyFrom 62 = .ok (.iinc 2 1, 3) := by decide +kernel
theorem dX5_copyFrom_65 : decode cX5_copyFrom 65 = .ok (.goto (-39), 3) := by decide +kernel
theorem dX5_copyFrom_68 : decode cX5_copyFrom 68 = .ok (.return_, 1) := by decide +kernel
theorem dX5_countOfKind_0 : decode cX5_countOfKind 0 = .ok (.iconst 0, 1) := by decide +kernel
theorem dX5_countOfKind_1 : decode cX5_countOfKind 1 = .ok (.istore_n 2, 1) := by decide +kernel
theorem dX5_countOfKind_2 : decode cX5_countOfKind 2 = .ok (.iconst 0, 1) := by decide +kernel
theorem dX5_countOfKind_3 : decode cX5_countOfKind 3 = .ok (.istore_n 3, 1) := by decide +kernel
theorem dX5_countOfKind_4 : decode cX5_countOfKind 4 = .ok (.iload_n 3, 1) := by decide +kernel
theorem dX5_countOfKind_5 : decode cX5_countOfKind 5 = .ok (.aload_n 0, 1) := by decide +kernel
theorem dX5_countOfKind_6 : decode cX5_countOfKind 6 = .ok (.getfield 22, 3) := by decide +kernel
theorem dX5_countOfKind_9 : decode cX5_countOfKind 9 = .ok (.if_icmp .ge 33, 3) := by decide +kernel
theorem dX5_countOfKind_12 : decode cX5_countOfKind 12 = .ok (.aload_n 0, 1) := by decide +kernel
theorem dX5_countOfKind_13 : decode cX5_countOfKind 13 = .ok (.iload_n 3, 1) := by decide +kernel
theorem dX5_countOfKind_14 : decode cX5_countOfKind 14 = .ok (.invokevirtual 28, 3) := by decide +kernel
theorem dX5_countOfKind_17 : decode cX5_countOfKind 17 = .ok (.astore 4, 2) := by decide +kernel
theorem dX5_countOfKind_19 : decode cX5_countOfKind 19 = .ok (.aload 4, 2) := by decide +kernel
theorem dX5_countOfKind_21 : decode cX5_countOfKind 21 = .ok (.ifnull 15, 3) := by decide +kernel
theorem dX5_countOfKind_24 : decode cX5_countOfKind 24 = .ok (.aload 4, 2) := by decide +kernel
theorem dX5_countOfKind_26 : decode cX5_countOfKind 26 = .ok (.getfield 43, 3) := by decide +kernel
theorem dX5_countOfKind_29 : decode cX5_countOfKind 29 = .ok (.iload_n 1, 1) := by decide +kernel
theorem dX5_countOfKind_30 : decode cX5_countOfKind 30 = .ok (.if_icmp .ne 6, 3) := by decide +kernel
theorem dX5_countOfKind_33 : decode cX5_countOfKind 33 = .ok (.iinc 2 1, 3) := by decide +kernel
theorem dX5_countOfKind_36 : decode cX5_countOfKind 36 = .ok (.iinc 3 1, 3) := by decide +kernel
theorem dX5_countOfKind_39 : decode cX5_countOfKind 39 = .ok (.goto (-35), 3) := by decide +kernel
theorem dX5_countOfKind_42 : decode cX5_countOfKind 42 = .ok (.iload_n 2, 1) := by decide +kernel
theorem dX5_countOfKind_43 : decode cX5_countOfKind 43 = .ok (.ireturn, 1) := by decide +kernel
theorem dX5_creasesOf_0 : decode cX5_creasesOf 0 = .ok (.iconst 0, 1) := by decide +kernel
theorem dX5_creasesOf_1 : decode cX5_creasesOf 1 = .ok (.istore_n 2, 1) := by decide +kernel
theorem dX5_creasesOf_2 : decode cX5_creasesOf 2 = .ok (.iconst 0, 1) := by decide +kernel
theorem dX5_creasesOf_3 : decode cX5_creasesOf 3 = .ok (.istore_n 3, 1) := by decide +kernel
theorem dX5_creasesOf_4 : decode cX5_creasesOf 4 = .ok (.iload_n 3, 1) := by decide +kernel
theorem dX5_creasesOf_5 : decode cX5_creasesOf 5 = .ok (.aload_n 0, 1) := by decide +kernel
theorem dX5_creasesOf_6 : decode cX5_creasesOf 6 = .ok (.getfield 22, 3) := by decide +kernel
theorem dX5_creasesOf_9 : decode cX5_creasesOf 9 = .ok (.if_icmp .ge 30, 3) := by decide +kernel
theorem dX5_creasesOf_12 : decode cX5_creasesOf 12 = .ok (.aload_n 0, 1) := by decide +kernel
theorem dX5_creasesOf_13 : decode cX5_creasesOf 13 = .ok (.iload_n 3, 1) := by decide +kernel
theorem dX5_creasesOf_14 : decode cX5_creasesOf 14 = .ok (.invokevirtual 28, 3) := by decide +kernel
theorem dX5_creasesOf_17 : decode cX5_creasesOf 17 = .ok (.astore 4, 2) := by decide +kernel
theorem dX5_creasesOf_19 : decode cX5_creasesOf 19 = .ok (.aload 4, 2) := by decide +kernel
theorem dX5_creasesOf_21 : decode cX5_creasesOf 21 = .ok (.ifnull 12, 3) := by decide +kernel
theorem dX5_creasesOf_24 : decode cX5_creasesOf 24 = .ok (.iload_n 2, 1) := by decide +kernel
theorem dX5_creasesOf_25 : decode cX5_creasesOf 25 = .ok (.aload 4, 2) := by decide +kernel
theorem dX5_creasesOf_27 : decode cX5_creasesOf 27 = .ok (.iload_n 1, 1) := by decide +kernel
theorem dX5_creasesOf_28 : decode cX5_creasesOf 28 = .ok (.invokevirtual 47, 3) := by decide +kernel
theorem dX5_creasesOf_31 : decode cX5_creasesOf 31 = .ok (.iadd, 1) := by decide +kernel
theorem dX5_creasesOf_32 : decode cX5_creasesOf 32 = .ok (.istore_n 2, 1) := by decide +kernel
theorem dX5_creasesOf_33 : decode cX5_creasesOf 33 = .ok (.iinc 3 1, 3) := by decide +kernel
theorem dX5_creasesOf_36 : decode cX5_creasesOf 36 = .ok (.goto (-32), 3) := by decide +kernel
theorem dX5_creasesOf_39 : decode cX5_creasesOf 39 = .ok (.iload_n 2, 1) := by decide +kernel
theorem dX5_creasesOf_40 : decode cX5_creasesOf 40 = .ok (.ireturn, 1) := by decide +kernel
theorem dX5_foldedCount_0 : decode cX5_foldedCount 0 = .ok (.iconst 0, 1) := by decide +kernel
theorem dX5_foldedCount_1 : decode cX5_foldedCount 1 = .ok (.istore_n 1, 1) := by decide +kernel
theorem dX5_foldedCount_2 : decode cX5_foldedCount 2 = .ok (.iconst 0, 1) := by decide +kernel
theorem dX5_foldedCount_3 : decode cX5_foldedCount 3 = .ok (.istore_n 2, 1) := by decide +kernel
theorem dX5_foldedCount_4 : decode cX5_foldedCount 4 = .ok (.iload_n 2, 1) := by decide +kernel
theorem dX5_foldedCount_5 : decode cX5_foldedCount 5 = .ok (.aload_n 0, 1) := by decide +kernel
theorem dX5_foldedCount_6 : decode cX5_foldedCount 6 = .ok (.getfield 22, 3) := by decide +kernel
theorem dX5_foldedCount_9 : decode cX5_foldedCount 9 = .ok (.if_icmp .ge 29, 3) := by decide +kernel
theorem dX5_foldedCount_12 : decode cX5_foldedCount 12 = .ok (.aload_n 0, 1) := by decide +kernel
theorem dX5_foldedCount_13 : decode cX5_foldedCount 13 = .ok (.iload_n 2, 1) := by decide +kernel
theorem dX5_foldedCount_14 : decode cX5_foldedCount 14 = .ok (.invokevirtual 28, 3) := by decide +kernel
theorem dX5_foldedCount_17 : decode cX5_foldedCount 17 = .ok (.astore_n 3, 1) := by decide +kernel
theorem dX5_foldedCount_18 : decode cX5_foldedCount 18 = .ok (.aload_n 3, 1) := by decide +kernel
theorem dX5_foldedCount_19 : decode cX5_foldedCount 19 = .ok (.ifnull 13, 3) := by decide +kernel
theorem dX5_foldedCount_22 : decode cX5_foldedCount 22 = .ok (.aload_n 3, 1) := by decide +kernel
theorem dX5_foldedCount_23 : decode cX5_foldedCount 23 = .ok (.getfield 36, 3) := by decide +kernel
theorem dX5_foldedCount_26 : decode cX5_foldedCount 26 = .ok (.ifCond .eq 6, 3) := by decide +kernel
theorem dX5_foldedCount_29 : decode cX5_foldedCount 29 = .ok (.iinc 1 1, 3) := by decide +kernel
theorem dX5_foldedCount_32 : decode cX5_foldedCount 32 = .ok (.iinc 2 1, 3) := by decide +kernel
theorem dX5_foldedCount_35 : decode cX5_foldedCount 35 = .ok (.goto (-31), 3) := by decide +kernel
theorem dX5_foldedCount_38 : decode cX5_foldedCount 38 = .ok (.iload_n 1, 1) := by decide +kernel
theorem dX5_foldedCount_39 : decode cX5_foldedCount 39 = .ok (.ireturn, 1) := by decide +kernel
theorem dX5_occupied_0 : decode cX5_occupied 0 = .ok (.iconst 0, 1) := by decide +kernel
theorem dX5_occupied_1 : decode cX5_occupied 1 = .ok (.istore_n 1, 1) := by decide +kernel
theorem dX5_occupied_2 : decode cX5_occupied 2 = .ok (.iconst 0, 1) := by decide +kernel
theorem dX5_occupied_3 : decode cX5_occupied 3 = .ok (.istore_n 2, 1) := by decide +kernel
theorem dX5_occupied_4 : decode cX5_occupied 4 = .ok (.iload_n 2, 1) := by decide +kernel
theorem dX5_occupied_5 : decode cX5_occupied 5 = .ok (.aload_n 0, 1) := by decide +kernel
theorem dX5_occupied_6 : decode cX5_occupied 6 = .ok (.getfield 22, 3) := by decide +kernel
theorem dX5_occupied_9 : decode cX5_occupied 9 = .ok (.if_icmp .ge 33, 3) := by decide +kernel
theorem dX5_occupied_12 : decode cX5_occupied 12 = .ok (.aload_n 0, 1) := by decide +kernel
theorem dX5_occupied_13 : decode cX5_occupied 13 = .ok (.iload_n 2, 1) := by decide +kernel
theorem dX5_occupied_14 : decode cX5_occupied 14 = .ok (.invokevirtual 28, 3) := by decide +kernel
theorem dX5_occupied_17 : decode cX5_occupied 17 = .ok (.astore_n 3, 1) := by decide +kernel
theorem dX5_occupied_18 : decode cX5_occupied 18 = .ok (.aload_n 3, 1) := by decide +kernel
theorem dX5_occupied_19 : decode cX5_occupied 19 = .ok (.ifnull 17, 3) := by decide +kernel
theorem dX5_occupied_22 : decode cX5_occupied 22 = .ok (.aload_n 3, 1) := by decide +kernel
theorem dX5_occupied_23 : decode cX5_occupied 23 = .ok (.getfield 36, 3) := by decide +kernel
theorem dX5_occupied_26 : decode cX5_occupied 26 = .ok (.ifCond .eq 10, 3) := by decide +kernel
theorem dX5_occupied_29 : decode cX5_occupied 29 = .ok (.iload_n 1, 1) := by decide +kernel
theorem dX5_occupied_30 : decode cX5_occupied 30 = .ok (.aload_n 3, 1) := by decide +kernel
theorem dX5_occupied_31 : decode cX5_occupied 31 = .ok (.invokevirtual 40, 3) := by decide +kernel
theorem dX5_occupied_34 : decode cX5_occupied 34 = .ok (.iadd, 1) := by decide +kernel
theorem dX5_occupied_35 : decode cX5_occupied 35 = .ok (.istore_n 1, 1) := by decide +kernel
theorem dX5_occupied_36 : decode cX5_occupied 36 = .ok (.iinc 2 1, 3) := by decide +kernel
theorem dX5_occupied_39 : decode cX5_occupied 39 = .ok (.goto (-35), 3) := by decide +kernel
theorem dX5_occupied_42 : decode cX5_occupied 42 = .ok (.iload_n 1, 1) := by decide +kernel
theorem dX5_occupied_43 : decode cX5_occupied 43 = .ok (.ireturn, 1) := by decide +kernel
theorem dX5_panelCount_0 : decode cX5_panelCount 0 = .ok (.iconst 0, 1) := by decide +kernel
theorem dX5_panelCount_1 : decode cX5_panelCount 1 = .ok (.istore_n 1, 1) := by decide +kernel
theorem dX5_panelCount_2 : decode cX5_panelCount 2 = .ok (.iconst 0, 1) := by decide +kernel
theorem dX5_panelCount_3 : decode cX5_panelCount 3 = .ok (.istore_n 2, 1) := by decide +kernel
theorem dX5_panelCount_4 : decode cX5_panelCount 4 = .ok (.iload_n 2, 1) := by decide +kernel
theorem dX5_panelCount_5 : decode cX5_panelCount 5 = .ok (.aload_n 0, 1) := by decide +kernel
theorem dX5_panelCount_6 : decode cX5_panelCount 6 = .ok (.getfield 22, 3) := by decide +kernel
theorem dX5_panelCount_9 : decode cX5_panelCount 9 = .ok (.if_icmp .ge 33, 3) := by decide +kernel
theorem dX5_panelCount_12 : decode cX5_panelCount 12 = .ok (.aload_n 0, 1) := by decide +kernel
theorem dX5_panelCount_13 : decode cX5_panelCount 13 = .ok (.iload_n 2, 1) := by decide +kernel
theorem dX5_panelCount_14 : decode cX5_panelCount 14 = .ok (.invokevirtual 28, 3) := by decide +kernel
theorem dX5_panelCount_17 : decode cX5_panelCount 17 = .ok (.astore_n 3, 1) := by decide +kernel
theorem dX5_panelCount_18 : decode cX5_panelCount 18 = .ok (.aload_n 3, 1) := by decide +kernel
theorem dX5_panelCount_19 : decode cX5_panelCount 19 = .ok (.ifnull 17, 3) := by decide +kernel
theorem dX5_panelCount_22 : decode cX5_panelCount 22 = .ok (.aload_n 3, 1) := by decide +kernel
theorem dX5_panelCount_23 : decode cX5_panelCount 23 = .ok (.getfield 43, 3) := by decide +kernel
theorem dX5_panelCount_26 : decode cX5_panelCount 26 = .ok (.ifCond .ne 10, 3) := by decide +kernel
theorem dX5_panelCount_29 : decode cX5_panelCount 29 = .ok (.iload_n 1, 1) := by decide +kernel
theorem dX5_panelCount_30 : decode cX5_panelCount 30 = .ok (.aload_n 3, 1) := by decide +kernel
theorem dX5_panelCount_31 : decode cX5_panelCount 31 = .ok (.getfield 46, 3) := by decide +kernel
theorem dX5_panelCount_34 : decode cX5_panelCount 34 = .ok (.iadd, 1) := by decide +kernel
theorem dX5_panelCount_35 : decode cX5_panelCount 35 = .ok (.istore_n 1, 1) := by decide +kernel
theorem dX5_panelCount_36 : decode cX5_panelCount 36 = .ok (.iinc 2 1, 3) := by decide +kernel
theorem dX5_panelCount_39 : decode cX5_panelCount 39 = .ok (.goto (-35), 3) := by decide +kernel
theorem dX5_panelCount_42 : decode cX5_panelCount 42 = .ok (.iload_n 1, 1) := by decide +kernel
theorem dX5_panelCount_43 : decode cX5_panelCount 43 = .ok (.ireturn, 1) := by decide +kernel
theorem dX5_pieceAt_0 : decode cX5_pieceAt 0 = .ok (.iload_n 1, 1) := by decide +kernel
theorem dX5_pieceAt_1 : decode cX5_pieceAt 1 = .ok (.ifCond .lt 29, 3) := by decide +kernel
theorem dX5_pieceAt_4 : decode cX5_pieceAt 4 = .ok (.iload_n 1, 1) := by decide +kernel
theorem dX5_pieceAt_5 : decode cX5_pieceAt 5 = .ok (.aload_n 0, 1) := by decide +kernel
theorem dX5_pieceAt_6 : decode cX5_pieceAt 6 = .ok (.getfield 22, 3) := by decide +kernel
theorem dX5_pieceAt_9 : decode cX5_pieceAt 9 = .ok (.if_icmp .ge 21, 3) := by decide +kernel
theorem dX5_pieceAt_12 : decode cX5_pieceAt 12 = .ok (.iload_n 1, 1) := by decide +kernel
theorem dX5_pieceAt_13 : decode cX5_pieceAt 13 = .ok (.aload_n 0, 1) := by decide +kernel
theorem dX5_pieceAt_14 : decode cX5_pieceAt 14 = .ok (.getfield 11, 3) := by decide +kernel
theorem dX5_pieceAt_17 : decode cX5_pieceAt 17 = .ok (.arraylength, 1) := by decide +kernel
theorem dX5_pieceAt_18 : decode cX5_pieceAt 18 = .ok (.if_icmp .ge 12, 3) := by decide +kernel
theorem dX5_pieceAt_21 : decode cX5_pieceAt 21 = .ok (.aload_n 0, 1) := by decide +kernel
theorem dX5_pieceAt_22 : decode cX5_pieceAt 22 = .ok (.getfield 11, 3) := by decide +kernel
theorem dX5_pieceAt_25 : decode cX5_pieceAt 25 = .ok (.iload_n 1, 1) := by decide +kernel
theorem dX5_pieceAt_26 : decode cX5_pieceAt 26 = .ok (.aaload, 1) := by decide +kernel
theorem dX5_pieceAt_27 : decode cX5_pieceAt 27 = .ok (.goto 4, 3) := by decide +kernel
theorem dX5_pieceAt_30 : decode cX5_pieceAt 30 = .ok (.aconst_null, 1) := by decide +kernel
theorem dX5_pieceAt_31 : decode cX5_pieceAt 31 = .ok (.areturn, 1) := by decide +kernel
theorem dX5_removeAt_0 : decode cX5_removeAt 0 = .ok (.aload_n 0, 1) := by decide +kernel
theorem dX5_removeAt_1 : decode cX5_removeAt 1 = .ok (.iload_n 1, 1) := by decide +kernel
theorem dX5_removeAt_2 : decode cX5_removeAt 2 = .ok (.invokevirtual 28, 3) := by decide +kernel
theorem dX5_removeAt_5 : decode cX5_removeAt 5 = .ok (.astore_n 2, 1) := by decide +kernel
theorem dX5_removeAt_6 : decode cX5_removeAt 6 = .ok (.aload_n 2, 1) := by decide +kernel
theorem dX5_removeAt_7 : decode cX5_removeAt 7 = .ok (.ifnonnull 4, 3) := by decide +kernel
theorem dX5_removeAt_10 : decode cX5_removeAt 10 = .ok (.return_, 1) := by decide +kernel
theorem dX5_removeAt_11 : decode cX5_removeAt 11 = .ok (.iload_n 1, 1) := by decide +kernel
theorem dX5_removeAt_12 : decode cX5_removeAt 12 = .ok (.istore_n 3, 1) := by decide +kernel
theorem dX5_removeAt_13 : decode cX5_removeAt 13 = .ok (.iload_n 1, 1) := by decide +kernel
theorem dX5_removeAt_14 : decode cX5_removeAt 14 = .ok (.iconst 1, 1) := by decide +kernel
theorem dX5_removeAt_15 : decode cX5_removeAt 15 = .ok (.iadd, 1) := by decide +kernel
theorem dX5_removeAt_16 : decode cX5_removeAt 16 = .ok (.istore 4, 2) := by decide +kernel
theorem dX5_removeAt_18 : decode cX5_removeAt 18 = .ok (.iload 4, 2) := by decide +kernel
theorem dX5_removeAt_20 : decode cX5_removeAt 20 = .ok (.ifCond .le 47, 3) := by decide +kernel
theorem dX5_removeAt_23 : decode cX5_removeAt 23 = .ok (.iload 4, 2) := by decide +kernel
theorem dX5_removeAt_25 : decode cX5_removeAt 25 = .ok (.aload_n 0, 1) := by decide +kernel
theorem dX5_removeAt_26 : decode cX5_removeAt 26 = .ok (.getfield 22, 3) := by decide +kernel
theorem dX5_removeAt_29 : decode cX5_removeAt 29 = .ok (.if_icmp .ge 38, 3) := by decide +kernel
theorem dX5_removeAt_32 : decode cX5_removeAt 32 = .ok (.iload 4, 2) := by decide +kernel
theorem dX5_removeAt_34 : decode cX5_removeAt 34 = .ok (.aload_n 0, 1) := by decide +kernel
theorem dX5_removeAt_35 : decode cX5_removeAt 35 = .ok (.getfield 11, 3) := by decide +kernel
theorem dX5_removeAt_38 : decode cX5_removeAt 38 = .ok (.arraylength, 1) := by decide +kernel
theorem dX5_removeAt_39 : decode cX5_removeAt 39 = .ok (.if_icmp .ge 28, 3) := by decide +kernel
theorem dX5_removeAt_42 : decode cX5_removeAt 42 = .ok (.aload_n 0, 1) := by decide +kernel
theorem dX5_removeAt_43 : decode cX5_removeAt 43 = .ok (.getfield 11, 3) := by decide +kernel
theorem dX5_removeAt_46 : decode cX5_removeAt 46 = .ok (.iload 4, 2) := by decide +kernel
theorem dX5_removeAt_48 : decode cX5_removeAt 48 = .ok (.iconst 1, 1) := by decide +kernel
theorem dX5_removeAt_49 : decode cX5_removeAt 49 = .ok (.isub, 1) := by decide +kernel
theorem dX5_removeAt_50 : decode cX5_removeAt 50 = .ok (.aload_n 0, 1) := by decide +kernel
theorem dX5_removeAt_51 : decode cX5_removeAt 51 = .ok (.getfield 11, 3) := by decide +kernel
theorem dX5_removeAt_54 : decode cX5_removeAt 54 = .ok (.iload 4, 2) := by decide +kernel
theorem dX5_removeAt_56 : decode cX5_removeAt 56 = .ok (.aaload, 1) := by decide +kernel
theorem dX5_removeAt_57 : decode cX5_removeAt 57 = .ok (.aastore, 1) := by decide +kernel
theorem dX5_removeAt_58 : decode cX5_removeAt 58 = .ok (.iload 4, 2) := by decide +kernel
theorem dX5_removeAt_60 : decode cX5_removeAt 60 = .ok (.istore_n 3, 1) := by decide +kernel
theorem dX5_removeAt_61 : decode cX5_removeAt 61 = .ok (.iinc 4 1, 3) := by decide +kernel
theorem dX5_removeAt_64 : decode cX5_removeAt 64 = .ok (.goto (-46), 3) := by decide +kernel
theorem dX5_removeAt_67 : decode cX5_removeAt 67 = .ok (.iload_n 3, 1) := by decide +kernel
theorem dX5_removeAt_68 : decode cX5_removeAt 68 = .ok (.ifCond .lt 19, 3) := by decide +kernel
theorem dX5_removeAt_71 : decode cX5_removeAt 71 = .ok (.iload_n 3, 1) := by decide +kernel
theorem dX5_removeAt_72 : decode cX5_removeAt 72 = .ok (.aload_n 0, 1) := by decide +kernel
theorem dX5_removeAt_73 : decode cX5_removeAt 73 = .ok (.getfield 11, 3) := by decide +kernel
theorem dX5_removeAt_76 : decode cX5_removeAt 76 = .ok (.arraylength, 1) := by decide +kernel
theorem dX5_removeAt_77 : decode cX5_removeAt 77 = .ok (.if_icmp .ge 10, 3) := by decide +kernel
theorem dX5_removeAt_80 : decode cX5_removeAt 80 = .ok (.aload_n 0, 1) := by decide +kernel
theorem dX5_removeAt_81 : decode cX5_removeAt 81 = .ok (.getfield 11, 3) := by decide +kernel
theorem dX5_removeAt_84 : decode cX5_removeAt 84 = .ok (.iload_n 3, 1) := by decide +kernel
theorem dX5_removeAt_85 : decode cX5_removeAt 85 = .ok (.aload_n 2, 1) := by decide +kernel
theorem dX5_removeAt_86 : decode cX5_removeAt 86 = .ok (.aastore, 1) := by decide +kernel
theorem dX5_removeAt_87 : decode cX5_removeAt 87 = .ok (.aload_n 0, 1) := by decide +kernel
theorem dX5_removeAt_88 : decode cX5_removeAt 88 = .ok (.dup, 1) := by decide +kernel
theorem dX5_removeAt_89 : decode cX5_removeAt 89 = .ok (.getfield 22, 3) := by decide +kernel
theorem dX5_removeAt_92 : decode cX5_removeAt 92 = .ok (.iconst 1, 1) := by decide +kernel
theorem dX5_removeAt_93 : decode cX5_removeAt 93 = .ok (.isub, 1) := by decide +kernel
theorem dX5_removeAt_94 : decode cX5_removeAt 94 = .ok (.putfield 22, 3) := by decide +kernel
theorem dX5_removeAt_97 : decode cX5_removeAt 97 = .ok (.return_, 1) := by decide +kernel
theorem dX6_account_0 : decode cX6_account 0 = .ok (.iload_n 1, 1) := by decide +kernel
theorem dX6_account_1 : decode cX6_account 1 = .ok (.tableswitch 184 0 12 #[67, 75, 84, 93, 101, 109, 125, 133, 142, 151, 160, 168, 176], 67) := by decide +kernel
theorem dX6_account_68 : decode cX6_account 68 = .ok (.aload_n 0, 1) := by decide +kernel
theorem dX6_account_69 : decode cX6_account 69 = .ok (.getfield 10, 3) := by decide +kernel
theorem dX6_account_72 : decode cX6_account 72 = .ok (.getfield 87, 3) := by decide +kernel
theorem dX6_account_75 : decode cX6_account 75 = .ok (.ireturn, 1) := by decide +kernel
theorem dX6_account_76 : decode cX6_account 76 = .ok (.aload_n 0, 1) := by decide +kernel
theorem dX6_account_77 : decode cX6_account 77 = .ok (.getfield 10, 3) := by decide +kernel
theorem dX6_account_80 : decode cX6_account 80 = .ok (.iconst 0, 1) := by decide +kernel
theorem dX6_account_81 : decode cX6_account 81 = .ok (.invokevirtual 252, 3) := by decide +kernel
theorem dX6_account_84 : decode cX6_account 84 = .ok (.ireturn, 1) := by decide +kernel
theorem dX6_account_85 : decode cX6_account 85 = .ok (.aload_n 0, 1) := by decide +kernel
theorem dX6_account_86 : decode cX6_account 86 = .ok (.getfield 10, 3) := by decide +kernel
theorem dX6_account_89 : decode cX6_account 89 = .ok (.iconst 1, 1) := by decide +kernel
theorem dX6_account_90 : decode cX6_account 90 = .ok (.invokevirtual 252, 3) := by decide +kernel
theorem dX6_account_93 : decode cX6_account 93 = .ok (.ireturn, 1) := by decide +kernel
theorem dX6_account_94 : decode cX6_account 94 = .ok (.aload_n 0, 1) := by decide +kernel
theorem dX6_account_95 : decode cX6_account 95 = .ok (.getfield 10, 3) := by decide +kernel
theorem dX6_account_98 : decode cX6_account 98 = .ok (.invokevirtual 255, 3) := by decide +kernel
theorem dX6_account_101 : decode cX6_account 101 = .ok (.ireturn, 1) := by decide +kernel
theorem dX6_account_102 : decode cX6_account 102 = .ok (.aload_n 0, 1) := by decide +kernel
theorem dX6_account_103 : decode cX6_account 103 = .ok (.getfield 10, 3) := by decide +kernel
theorem dX6_account_106 : decode cX6_account 106 = .ok (.getfield 76, 3) := by decide +kernel
theorem dX6_account_109 : decode cX6_account 109 = .ok (.ireturn, 1) := by decide +kernel
theorem dX6_account_110 : decode cX6_account 110 = .ok (.aload_n 0, 1) := by decide +kernel
theorem dX6_account_111 : decode cX6_account 111 = .ok (.getfield 10, 3) := by decide +kernel
theorem dX6_account_114 : decode cX6_account 114 = .ok (.getfield 76, 3) := by decide +kernel
theorem dX6_account_117 : decode cX6_account 117 = .ok (.aload_n 0, 1) := by decide +kernel
theorem dX6_account_118 : decode cX6_account 118 = .ok (.getfield 10, 3) := by decide +kernel
theorem dX6_account_121 : decode cX6_account 121 = .ok (.invokevirtual 64, 3) := by decide +kernel
theorem dX6_account_124 : decode cX6_account 124 = .ok (.isub, 1) := by decide +kernel
theorem dX6_account_125 : decode cX6_account 125 = .ok (.ireturn, 1) := by decide +kernel
theorem dX6_account_126 : decode cX6_account 126 = .ok (.aload_n 0, 1) := by decide +kernel
theorem dX6_account_127 : decode cX6_account 127 = .ok (.getfield 10, 3) := by decide +kernel
theorem dX6_account_130 : decode cX6_account 130 = .ok (.invokevirtual 258, 3) := by decide +kernel
theorem dX6_account_133 : decode cX6_account 133 = .ok (.ireturn, 1) := by decide +kernel
theorem dX6_account_134 : decode cX6_account 134 = .ok (.aload_n 0, 1) := by decide +kernel
theorem dX6_account_135 : decode cX6_account 135 = .ok (.getfield 10, 3) := by decide +kernel
theorem dX6_account_138 : decode cX6_account 138 = .ok (.iconst 1, 1) := by decide +kernel
theorem dX6_account_139 : decode cX6_account 139 = .ok (.invokevirtual 261, 3) := by decide +kernel
theorem dX6_account_142 : decode cX6_account 142 = .ok (.ireturn, 1) := by decide +kernel
theorem dX6_account_143 : decode cX6_account 143 = .ok (.aload_n 0, 1) := by decide +kernel
theorem dX6_account_144 : decode cX6_account 144 = .ok (.getfield 10, 3) := by decide +kernel
theorem dX6_account_147 : decode cX6_account 147 = .ok (.iconst 2, 1) := by decide +kernel
theorem dX6_account_148 : decode cX6_account 148 = .ok (.invokevirtual 261, 3) := by decide +kernel
theorem dX6_account_151 : decode cX6_account 151 = .ok (.ireturn, 1) := by decide +kernel
theorem dX6_account_152 : decode cX6_account 152 = .ok (.aload_n 0, 1) := by decide +kernel
theorem dX6_account_153 : decode cX6_account 153 = .ok (.getfield 10, 3) := by decide +kernel
theorem dX6_account_156 : decode cX6_account 156 = .ok (.iconst 0, 1) := by decide +kernel
theorem dX6_account_157 : decode cX6_account 157 = .ok (.invokevirtual 261, 3) := by decide +kernel
theorem dX6_account_160 : decode cX6_account 160 = .ok (.ireturn, 1) := by decide +kernel
theorem dX6_account_161 : decode cX6_account 161 = .ok (.aload_n 0, 1) := by decide +kernel
theorem dX6_account_162 : decode cX6_account 162 = .ok (.getfield 10, 3) := by decide +kernel
theorem dX6_account_165 : decode cX6_account 165 = .ok (.getfield 172, 3) := by decide +kernel
theorem dX6_account_168 : decode cX6_account 168 = .ok (.ireturn, 1) := by decide +kernel
theorem dX6_account_169 : decode cX6_account 169 = .ok (.aload_n 0, 1) := by decide +kernel
theorem dX6_account_170 : decode cX6_account 170 = .ok (.getfield 32, 3) := by decide +kernel
theorem dX6_account_173 : decode cX6_account 173 = .ok (.getfield 216, 3) := by decide +kernel
theorem dX6_account_176 : decode cX6_account 176 = .ok (.ireturn, 1) := by decide +kernel
theorem dX6_account_177 : decode cX6_account 177 = .ok (.aload_n 0, 1) := by decide +kernel
theorem dX6_account_178 : decode cX6_account 178 = .ok (.getfield 25, 3) := by decide +kernel
theorem dX6_account_181 : decode cX6_account 181 = .ok (.getfield 264, 3) := by decide +kernel
theorem dX6_account_184 : decode cX6_account 184 = .ok (.ireturn, 1) := by decide +kernel
theorem dX6_account_185 : decode cX6_account 185 = .ok (.sipush (-1002), 3) := by decide +kernel
theorem dX6_account_188 : decode cX6_account 188 = .ok (.ireturn, 1) := by decide +kernel
theorem dX6_add_0 : decode cX6_add 0 = .ok (.iload_n 1, 1) := by decide +kernel
theorem dX6_add_1 : decode cX6_add 1 = .ok (.ifCond .eq 12, 3) := by decide +kernel
theorem dX6_add_4 : decode cX6_add 4 = .ok (.iload_n 1, 1) := by decide +kernel
theorem dX6_add_5 : decode cX6_add 5 = .ok (.iconst 1, 1) := by decide +kernel
theorem dX6_add_6 : decode cX6_add 6 = .ok (.if_icmp .eq 7, 3) := by decide +kernel
theorem dX6_add_9 : decode cX6_add 9 = .ok (.sipush (-1002), 3) := by decide +kernel
theorem dX6_add_12 : decode cX6_add 12 = .ok (.ireturn, 1) := by decide +kernel
theorem dX6_add_13 : decode cX6_add 13 = .ok (.aload_n 0, 1) := by decide +kernel
theorem dX6_add_14 : decode cX6_add 14 = .ok (.getfield 53, 3) := by decide +kernel
theorem dX6_add_17 : decode cX6_add 17 = .ok (.iload_n 1, 1) := by decide +kernel
theorem dX6_add_18 : decode cX6_add 18 = .ok (.iload_n 2, 1) := by decide +kernel
theorem dX6_add_19 : decode cX6_add 19 = .ok (.invokevirtual 79, 3) := by decide +kernel
theorem dX6_add_22 : decode cX6_add 22 = .ok (.ifCond .eq 14, 3) := by decide +kernel
theorem dX6_add_25 : decode cX6_add 25 = .ok (.aload_n 0, 1) := by decide +kernel
theorem dX6_add_26 : decode cX6_add 26 = .ok (.getfield 53, 3) := by decide +kernel
theorem dX6_add_29 : decode cX6_add 29 = .ok (.iload_n 3, 1) := by decide +kernel
theorem dX6_add_30 : decode cX6_add 30 = .ok (.invokevirtual 83, 3) := by decide +kernel
theorem dX6_add_33 : decode cX6_add 33 = .ok (.ifCond .ne 7, 3) := by decide +kernel
theorem dX6_add_36 : decode cX6_add 36 = .ok (.sipush (-1002), 3) := by decide +kernel
theorem dX6_add_39 : decode cX6_add 39 = .ok (.ireturn, 1) := by decide +kernel
theorem dX6_add_40 : decode cX6_add 40 = .ok (.aload_n 0, 1) := by decide +kernel
theorem dX6_add_41 : decode cX6_add 41 = .ok (.getfield 10, 3) := by decide +kernel
theorem dX6_add_44 : decode cX6_add 44 = .ok (.getfield 87, 3) := by decide +kernel
theorem dX6_add_47 : decode cX6_add 47 = .ok (.bipush 8, 2) := by decide +kernel
theorem dX6_add_49 : decode cX6_add 49 = .ok (.if_icmp .lt 11, 3) := by decide +kernel
theorem dX6_add_52 : decode cX6_add 52 = .ok (.aload_n 0, 1) := by decide +kernel
theorem dX6_add_53 : decode cX6_add 53 = .ok (.iconst 1, 1) := by decide +kernel
theorem dX6_add_54 : decode cX6_add 54 = .ok (.bipush 8, 2) := by decide +kernel
theorem dX6_add_56 : decode cX6_add 56 = .ok (.invokevirtual 68, 3) := by decide +kernel
theorem dX6_add_59 : decode cX6_add 59 = .ok (.ireturn, 1) := by decide +kernel
theorem dX6_add_60 : decode cX6_add 60 = .ok (.aload_n 0, 1) := by decide +kernel
theorem dX6_add_61 : decode cX6_add 61 = .ok (.getfield 25, 3) := by decide +kernel
theorem dX6_add_64 : decode cX6_add 64 = .ok (.aload_n 0, 1) := by decide +kernel
theorem dX6_add_65 : decode cX6_add 65 = .ok (.getfield 10, 3) := by decide +kernel
theorem dX6_add_68 : decode cX6_add 68 = .ok (.invokevirtual 72, 3) := by decide +kernel
theorem dX6_add_71 : decode cX6_add 71 = .ok (.aload_n 0, 1) := by decide +kernel
theorem dX6_add_72 : decode cX6_add 72 = .ok (.getfield 10, 3) := by decide +kernel
theorem dX6_add_75 : decode cX6_add 75 = .ok (.aload_n 0, 1) := by decide +kernel
theorem dX6_add_76 : decode cX6_add 76 = .ok (.getfield 53, 3) := by decide +kernel
theorem dX6_add_79 : decode cX6_add 79 = .ok (.invokevirtual 90, 3) := by decide +kernel
theorem dX6_add_82 : decode cX6_add 82 = .ok (.aload_n 0, 1) := by decide +kernel
theorem dX6_add_83 : decode cX6_add 83 = .ok (.getfield 10, 3) := by decide +kernel
theorem dX6_add_86 : decode cX6_add 86 = .ok (.getfield 87, 3) := by decide +kernel
theorem dX6_add_89 : decode cX6_add 89 = .ok (.iconst 1, 1) := by decide +kernel
theorem dX6_add_90 : decode cX6_add 90 = .ok (.isub, 1) := by decide +kernel
theorem dX6_add_91 : decode cX6_add 91 = .ok (.ireturn, 1) := by decide +kernel
theorem dX6_append_0 : decode cX6_append 0 = .ok (.iload_n 1, 1) := by decide +kernel
theorem dX6_append_1 : decode cX6_append 1 = .ok (.bipush 32, 2) := by decide +kernel
theorem dX6_append_3 : decode cX6_append 3 = .ok (.if_icmp .lt 21, 3) := by decide +kernel
theorem dX6_append_6 : decode cX6_append 6 = .ok (.iload_n 1, 1) := by decide +kernel
theorem dX6_append_7 : decode cX6_append 7 = .ok (.bipush 126, 2) := by decide +kernel
theorem dX6_append_9 : decode cX6_append 9 = .ok (.if_icmp .gt 15, 3) := by decide +kernel
theorem dX6_append_12 : decode cX6_append 12 = .ok (.aload_n 0, 1) := by decide +kernel
theorem dX6_append_13 : decode cX6_append 13 = .ok (.getfield 32, 3) := by decide +kernel
theorem dX6_append_16 : decode cX6_append 16 = .ok (.getfield 216, 3) := by decide +kernel
theorem dX6_append_19 : decode cX6_append 19 = .ok (.bipush 80, 2) := by decide +kernel
theorem dX6_append_21 : decode cX6_append 21 = .ok (.if_icmp .lt 7, 3) := by decide +kernel
theorem dX6_append_24 : decode cX6_append 24 = .ok (.sipush (-1002), 3) := by decide +kernel
theorem dX6_append_27 : decode cX6_append 27 = .ok (.ireturn, 1) := by decide +kernel
theorem dX6_append_28 : decode cX6_append 28 = .ok (.aload_n 0, 1) := by decide +kernel
theorem dX6_append_29 : decode cX6_append 29 = .ok (.getfield 32, 3) := by decide +kernel
theorem dX6_append_32 : decode cX6_append 32 = .ok (.iload_n 1, 1) := by decide +kernel
theorem dX6_append_33 : decode cX6_append 33 = .ok (.invokevirtual 219, 3) := by decide +kernel
theorem dX6_append_36 : decode cX6_append 36 = .ok (.aload_n 0, 1) := by decide +kernel
theorem dX6_append_37 : decode cX6_append 37 = .ok (.getfield 32, 3) := by decide +kernel
theorem dX6_append_40 : decode cX6_append 40 = .ok (.getfield 216, 3) := by decide +kernel
theorem dX6_append_43 : decode cX6_append 43 = .ok (.ireturn, 1) := by decide +kernel
theorem dX6_at_0 : decode cX6_at 0 = .ok (.iload_n 1, 1) := by decide +kernel
theorem dX6_at_1 : decode cX6_at 1 = .ok (.ifCond .lt 15, 3) := by decide +kernel
theorem dX6_at_4 : decode cX6_at 4 = .ok (.iload_n 1, 1) := by decide +kernel
theorem dX6_at_5 : decode cX6_at 5 = .ok (.aload_n 0, 1) := by decide +kernel
theorem dX6_at_6 : decode cX6_at 6 = .ok (.arraylength, 1) := by decide +kernel
theorem dX6_at_7 : decode cX6_at 7 = .ok (.if_icmp .ge 9, 3) := by decide +kernel
theorem dX6_at_10 : decode cX6_at 10 = .ok (.aload_n 0, 1) := by decide +kernel
theorem dX6_at_11 : decode cX6_at 11 = .ok (.iload_n 1, 1) := by decide +kernel
theorem dX6_at_12 : decode cX6_at 12 = .ok (.iaload, 1) := by decide +kernel
theorem dX6_at_13 : decode cX6_at 13 = .ok (.goto 4, 3) := by decide +kernel
theorem dX6_at_16 : decode cX6_at 16 = .ok (.iconst 0, 1) := by decide +kernel
theorem dX6_at_17 : decode cX6_at 17 = .ok (.ireturn, 1) := by decide +kernel
theorem dX6_bitsOf_0 : decode cX6_bitsOf 0 = .ok (.fload_n 0, 1) := by decide +kernel
theorem dX6_bitsOf_1 : decode cX6_bitsOf 1 = .ok (.fconst 0, 1) := by decide +kernel
theorem dX6_bitsOf_2 : decode cX6_bitsOf 2 = .ok (.fcmp .g, 1) := by decide +kernel
theorem dX6_bitsOf_3 : decode cX6_bitsOf 3 = .ok (.ifCond .gt 5, 3) := by decide +kernel
theorem dX6_bitsOf_6 : decode cX6_bitsOf 6 = .ok (.iconst 0, 1) := by decide +kernel
theorem dX6_bitsOf_7 : decode cX6_bitsOf 7 = .ok (.ireturn, 1) := by decide +kernel
theorem dX6_bitsOf_8 : decode cX6_bitsOf 8 = .ok (.fload_n 0, 1) := by decide +kernel
theorem dX6_bitsOf_9 : decode cX6_bitsOf 9 = .ok (.fstore_n 1, 1) := by decide +kernel
theorem dX6_bitsOf_10 : decode cX6_bitsOf 10 = .ok (.bipush 127, 2) := by decide +kernel
theorem dX6_bitsOf_12 : decode cX6_bitsOf 12 = .ok (.istore_n 2, 1) := by decide +kernel
theorem dX6_bitsOf_13 : decode cX6_bitsOf 13 = .ok (.iconst 0, 1) := by decide +kernel
theorem dX6_bitsOf_14 : decode cX6_bitsOf 14 = .ok (.istore_n 3, 1) := by decide +kernel
theorem dX6_bitsOf_15 : decode cX6_bitsOf 15 = .ok (.iload_n 3, 1) := by decide +kernel
theorem dX6_bitsOf_16 : decode cX6_bitsOf 16 = .ok (.bipush 126, 2) := by decide +kernel
theorem dX6_bitsOf_18 : decode cX6_bitsOf 18 = .ok (.if_icmp .ge 22, 3) := by decide +kernel
theorem dX6_bitsOf_21 : decode cX6_bitsOf 21 = .ok (.fload_n 1, 1) := by decide +kernel
theorem dX6_bitsOf_22 : decode cX6_bitsOf 22 = .ok (.fconst 1, 1) := by decide +kernel
theorem dX6_bitsOf_23 : decode cX6_bitsOf 23 = .ok (.fcmp .g, 1) := by decide +kernel
theorem dX6_bitsOf_24 : decode cX6_bitsOf 24 = .ok (.ifCond .ge 16, 3) := by decide +kernel
theorem dX6_bitsOf_27 : decode cX6_bitsOf 27 = .ok (.fload_n 1, 1) := by decide +kernel
theorem dX6_bitsOf_28 : decode cX6_bitsOf 28 = .ok (.fconst 2, 1) := by decide +kernel
theorem dX6_bitsOf_29 : decode cX6_bitsOf 29 = .ok (.fmul, 1) := by decide +kernel
theorem dX6_bitsOf_30 : decode cX6_bitsOf 30 = .ok (.fstore_n 1, 1) := by decide +kernel
theorem dX6_bitsOf_31 : decode cX6_bitsOf 31 = .ok (.iinc 2 (-1), 3) := by decide +kernel
theorem dX6_bitsOf_34 : decode cX6_bitsOf 34 = .ok (.iinc 3 1, 3) := by decide +kernel
theorem dX6_bitsOf_37 : decode cX6_bitsOf 37 = .ok (.goto (-22), 3) := by decide +kernel
theorem dX6_bitsOf_40 : decode cX6_bitsOf 40 = .ok (.iload_n 2, 1) := by decide +kernel
theorem dX6_bitsOf_41 : decode cX6_bitsOf 41 = .ok (.bipush 23, 2) := by decide +kernel
theorem dX6_bitsOf_43 : decode cX6_bitsOf 43 = .ok (.ishl, 1) := by decide +kernel
theorem dX6_bitsOf_44 : decode cX6_bitsOf 44 = .ok (.fload_n 1, 1) := by decide +kernel
theorem dX6_bitsOf_45 : decode cX6_bitsOf 45 = .ok (.fconst 1, 1) := by decide +kernel
theorem dX6_bitsOf_46 : decode cX6_bitsOf 46 = .ok (.fsub, 1) := by decide +kernel
theorem dX6_bitsOf_47 : decode cX6_bitsOf 47 = .ok (.ldc_w 312, 3) := by decide +kernel
theorem dX6_bitsOf_50 : decode cX6_bitsOf 50 = .ok (.fmul, 1) := by decide +kernel
theorem dX6_bitsOf_51 : decode cX6_bitsOf 51 = .ok (.f2i, 1) := by decide +kernel
theorem dX6_bitsOf_52 : decode cX6_bitsOf 52 = .ok (.iadd, 1) := by decide +kernel
theorem dX6_bitsOf_53 : decode cX6_bitsOf 53 = .ok (.ireturn, 1) := by decide +kernel
theorem dX6_copyRow_0 : decode cX6_copyRow 0 = .ok (.iconst 0, 1) := by decide +kernel
theorem dX6_copyRow_1 : decode cX6_copyRow 1 = .ok (.istore_n 2, 1) := by decide +kernel
theorem dX6_copyRow_2 : decode cX6_copyRow 2 = .ok (.iload_n 2, 1) := by decide +kernel
theorem dX6_copyRow_3 : decode cX6_copyRow 3 = .ok (.aload_n 0, 1) := by decide +kernel
theorem dX6_copyRow_4 : decode cX6_copyRow 4 = .ok (.arraylength, 1) := by decide +kernel
theorem dX6_copyRow_5 : decode cX6_copyRow 5 = .ok (.if_icmp .ge 21, 3) := by decide +kernel
theorem dX6_copyRow_8 : decode cX6_copyRow 8 = .ok (.iload_n 2, 1) := by decide +kernel
theorem dX6_copyRow_9 : decode cX6_copyRow 9 = .ok (.aload_n 1, 1) := by decide +kernel
theorem dX6_copyRow_10 : decode cX6_copyRow 10 = .ok (.arraylength, 1) := by decide +kernel
theorem dX6_copyRow_11 : decode cX6_copyRow 11 = .ok (.if_icmp .ge 15, 3) := by decide +kernel
theorem dX6_copyRow_14 : decode cX6_copyRow 14 = .ok (.aload_n 1, 1) := by decide +kernel
theorem dX6_copyRow_15 : decode cX6_copyRow 15 = .ok (.iload_n 2, 1) := by decide +kernel
theorem dX6_copyRow_16 : decode cX6_copyRow 16 = .ok (.aload_n 0, 1) := by decide +kernel
theorem dX6_copyRow_17 : decode cX6_copyRow 17 = .ok (.iload_n 2, 1) := by decide +kernel
theorem dX6_copyRow_18 : decode cX6_copyRow 18 = .ok (.iaload, 1) := by decide +kernel
theorem dX6_copyRow_19 : decode cX6_copyRow 19 = .ok (.iastore, 1) := by decide +kernel
theorem dX6_copyRow_20 : decode cX6_copyRow 20 = .ok (.iinc 2 1, 3) := by decide +kernel
theorem dX6_copyRow_23 : decode cX6_copyRow 23 = .ok (.goto (-21), 3) := by decide +kernel
theorem dX6_copyRow_26 : decode cX6_copyRow 26 = .ok (.return_, 1) := by decide +kernel
theorem dX6_crease_0 : decode cX6_crease 0 = .ok (.aload_n 0, 1) := by decide +kernel
theorem dX6_crease_1 : decode cX6_crease 1 = .ok (.getfield 10, 3) := by decide +kernel
theorem dX6_crease_4 : decode cX6_crease 4 = .ok (.iload_n 1, 1) := by decide +kernel
theorem dX6_crease_5 : decode cX6_crease 5 = .ok (.invokevirtual 94, 3) := by decide +kernel
theorem dX6_crease_8 : decode cX6_crease 8 = .ok (.astore_n 3, 1) := by decide +kernel
theorem dX6_crease_9 : decode cX6_crease 9 = .ok (.aload_n 3, 1) := by decide +kernel
theorem dX6_crease_10 : decode cX6_crease 10 = .ok (.ifnull 11, 3) := by decide +kernel
theorem dX6_crease_13 : decode cX6_crease 13 = .ok (.aload_n 3, 1) := by decide +kernel
theorem dX6_crease_14 : decode cX6_crease 14 = .ok (.iload_n 2, 1) := by decide +kernel
theorem dX6_crease_15 : decode cX6_crease 15 = .ok (.invokevirtual 98, 3) := by decide +kernel
theorem dX6_crease_18 : decode cX6_crease 18 = .ok (.ifCond .ne 7, 3) := by decide +kernel
theorem dX6_crease_21 : decode cX6_crease 21 = .ok (.sipush (-1001), 3) := by decide +kernel
theorem dX6_crease_24 : decode cX6_crease 24 = .ok (.ireturn, 1) := by decide +kernel
theorem dX6_crease_25 : decode cX6_crease 25 = .ok (.aload_n 3, 1) := by decide +kernel
theorem dX6_crease_26 : decode cX6_crease 26 = .ok (.getfield 108, 3) := by decide +kernel
theorem dX6_crease_29 : decode cX6_crease 29 = .ok (.iload_n 2, 1) := by decide +kernel
theorem dX6_crease_30 : decode cX6_crease 30 = .ok (.invokestatic 112, 3) := by decide +kernel
theorem dX6_crease_33 : decode cX6_crease 33 = .ok (.ireturn, 1) := by decide +kernel
theorem dX6_cut_0 : decode cX6_cut 0 = .ok (.aload_n 0, 1) := by decide +kernel
theorem dX6_cut_1 : decode cX6_cut 1 = .ok (.getfield 10, 3) := by decide +kernel
theorem dX6_cut_4 : decode cX6_cut 4 = .ok (.iload_n 1, 1) := by decide +kernel
theorem dX6_cut_5 : decode cX6_cut 5 = .ok (.invokevirtual 94, 3) := by decide +kernel
theorem dX6_cut_8 : decode cX6_cut 8 = .ok (.astore_n 3, 1) := by decide +kernel
theorem dX6_cut_9 : decode cX6_cut 9 = .ok (.aload_n 3, 1) := by decide +kernel
theorem dX6_cut_10 : decode cX6_cut 10 = .ok (.ifnull 11, 3) := by decide +kernel
theorem dX6_cut_13 : decode cX6_cut 13 = .ok (.aload_n 3, 1) := by decide +kernel
theorem dX6_cut_14 : decode cX6_cut 14 = .ok (.iload_n 2, 1) := by decide +kernel
theorem dX6_cut_15 : decode cX6_cut 15 = .ok (.invokevirtual 98, 3) := by decide +kernel
theorem dX6_cut_18 : decode cX6_cut 18 = .ok (.ifCond .ne 7, 3) := by decide +kernel
theorem dX6_cut_21 : decode cX6_cut 21 = .ok (.sipush (-1001), 3) := by decide +kernel
theorem dX6_cut_24 : decode cX6_cut 24 = .ok (.ireturn, 1) := by decide +kernel
theorem dX6_cut_25 : decode cX6_cut 25 = .ok (.aload_n 0, 1) := by decide +kernel
theorem dX6_cut_26 : decode cX6_cut 26 = .ok (.getfield 10, 3) := by decide +kernel
theorem dX6_cut_29 : decode cX6_cut 29 = .ok (.getfield 87, 3) := by decide +kernel
theorem dX6_cut_32 : decode cX6_cut 32 = .ok (.bipush 8, 2) := by decide +kernel
theorem dX6_cut_34 : decode cX6_cut 34 = .ok (.if_icmp .lt 11, 3) := by decide +kernel
theorem dX6_cut_37 : decode cX6_cut 37 = .ok (.aload_n 0, 1) := by decide +kernel
theorem dX6_cut_38 : decode cX6_cut 38 = .ok (.iconst 1, 1) := by decide +kernel
theorem dX6_cut_39 : decode cX6_cut 39 = .ok (.bipush 8, 2) := by decide +kernel
theorem dX6_cut_41 : decode cX6_cut 41 = .ok (.invokevirtual 68, 3) := by decide +kernel
theorem dX6_cut_44 : decode cX6_cut 44 = .ok (.ireturn, 1) := by decide +kernel
theorem dX6_cut_45 : decode cX6_cut 45 = .ok (.aload_n 3, 1) := by decide +kernel
theorem dX6_cut_46 : decode cX6_cut 46 = .ok (.getfield 104, 3) := by decide +kernel
theorem dX6_cut_49 : decode cX6_cut 49 = .ok (.ifCond .eq 10, 3) := by decide +kernel
theorem dX6_cut_52 : decode cX6_cut 52 = .ok (.aload_n 0, 1) := by decide +kernel
theorem dX6_cut_53 : decode cX6_cut 53 = .ok (.iconst 2, 1) := by decide +kernel
theorem dX6_cut_54 : decode cX6_cut 54 = .ok (.iload_n 1, 1) := by decide +kernel
theorem dX6_cut_55 : decode cX6_cut 55 = .ok (.invokevirtual 68, 3) := by decide +kernel
theorem dX6_cut_58 : decode cX6_cut 58 = .ok (.ireturn, 1) := by decide +kernel
theorem dX6_cut_59 : decode cX6_cut 59 = .ok (.aload_n 3, 1) := by decide +kernel
theorem dX6_cut_60 : decode cX6_cut 60 = .ok (.getfield 130, 3) := by decide +kernel
theorem dX6_cut_63 : decode cX6_cut 63 = .ok (.ifCond .eq 10, 3) := by decide +kernel
theorem dX6_cut_66 : decode cX6_cut 66 = .ok (.aload_n 0, 1) := by decide +kernel
theorem dX6_cut_67 : decode cX6_cut 67 = .ok (.iconst 3, 1) := by decide +kernel
theorem dX6_cut_68 : decode cX6_cut 68 = .ok (.iload_n 1, 1) := by decide +kernel
theorem dX6_cut_69 : decode cX6_cut 69 = .ok (.invokevirtual 68, 3) := by decide +kernel
theorem dX6_cut_72 : decode cX6_cut 72 = .ok (.ireturn, 1) := by decide +kernel
theorem dX6_cut_73 : decode cX6_cut 73 = .ok (.iload_n 2, 1) := by decide +kernel
theorem dX6_cut_74 : decode cX6_cut 74 = .ok (.iconst 1, 1) := by decide +kernel
theorem dX6_cut_75 : decode cX6_cut 75 = .ok (.iadd, 1) := by decide +kernel
theorem dX6_cut_76 : decode cX6_cut 76 = .ok (.istore 4, 2) := by decide +kernel
theorem dX6_cut_78 : decode cX6_cut 78 = .ok (.iload 4, 2) := by decide +kernel
theorem dX6_cut_80 : decode cX6_cut 80 = .ok (.aload_n 3, 1) := by decide +kernel
theorem dX6_cut_81 : decode cX6_cut 81 = .ok (.getfield 143, 3) := by decide +kernel
theorem dX6_cut_84 : decode cX6_cut 84 = .ok (.iload 4, 2) := by decide +kernel
theorem dX6_cut_86 : decode cX6_cut 86 = .ok (.isub, 1) := by decide +kernel
theorem dX6_cut_87 : decode cX6_cut 87 = .ok (.invokestatic 151, 3) := by decide +kernel
theorem dX6_cut_90 : decode cX6_cut 90 = .ok (.istore 5, 2) := by decide +kernel
theorem dX6_cut_92 : decode cX6_cut 92 = .ok (.iload 5, 2) := by decide +kernel
theorem dX6_cut_94 : decode cX6_cut 94 = .ok (.iconst 2, 1) := by decide +kernel
theorem dX6_cut_95 : decode cX6_cut 95 = .ok (.if_icmp .ge 12, 3) := by decide +kernel
theorem dX6_cut_98 : decode cX6_cut 98 = .ok (.aload_n 0, 1) := by decide +kernel
theorem dX6_cut_99 : decode cX6_cut 99 = .ok (.bipush 6, 2) := by decide +kernel
theorem dX6_cut_101 : decode cX6_cut 101 = .ok (.iload 5, 2) := by decide +kernel
theorem dX6_cut_103 : decode cX6_cut 103 = .ok (.invokevirtual 68, 3) := by decide +kernel
theorem dX6_cut_106 : decode cX6_cut 106 = .ok (.ireturn, 1) := by decide +kernel
theorem dX6_cut_107 : decode cX6_cut 107 = .ok (.aload_n 0, 1) := by decide +kernel
theorem dX6_cut_108 : decode cX6_cut 108 = .ok (.getfield 25, 3) := by decide +kernel
theorem dX6_cut_111 : decode cX6_cut 111 = .ok (.aload_n 0, 1) := by decide +kernel
theorem dX6_cut_112 : decode cX6_cut 112 = .ok (.getfield 10, 3) := by decide +kernel
theorem dX6_cut_115 : decode cX6_cut 115 = .ok (.invokevirtual 72, 3) := by decide +kernel
theorem dX6_cut_118 : decode cX6_cut 118 = .ok (.aload_n 0, 1) := by decide +kernel
theorem dX6_cut_119 : decode cX6_cut 119 = .ok (.getfield 53, 3) := by decide +kernel
theorem dX6_cut_122 : decode cX6_cut 122 = .ok (.aload_n 3, 1) := by decide +kernel
theorem dX6_cut_123 : decode cX6_cut 123 = .ok (.iload 4, 2) := by decide +kernel
theorem dX6_cut_125 : decode cX6_cut 125 = .ok (.invokevirtual 156, 3) := by decide +kernel
theorem dX6_cut_128 : decode cX6_cut 128 = .ok (.aload_n 3, 1) := by decide +kernel
theorem dX6_cut_129 : decode cX6_cut 129 = .ok (.iload 4, 2) := by decide +kernel
theorem dX6_cut_131 : decode cX6_cut 131 = .ok (.putfield 143, 3) := by decide +kernel
theorem dX6_cut_134 : decode cX6_cut 134 = .ok (.aload_n 0, 1) := by decide +kernel
theorem dX6_cut_135 : decode cX6_cut 135 = .ok (.getfield 10, 3) := by decide +kernel
theorem dX6_cut_138 : decode cX6_cut 138 = .ok (.aload_n 0, 1) := by decide +kernel
theorem dX6_cut_139 : decode cX6_cut 139 = .ok (.getfield 53, 3) := by decide +kernel
theorem dX6_cut_142 : decode cX6_cut 142 = .ok (.invokevirtual 90, 3) := by decide +kernel
theorem dX6_cut_145 : decode cX6_cut 145 = .ok (.aload_n 0, 1) := by decide +kernel
theorem dX6_cut_146 : decode cX6_cut 146 = .ok (.getfield 10, 3) := by decide +kernel
theorem dX6_cut_149 : decode cX6_cut 149 = .ok (.getfield 87, 3) := by decide +kernel
theorem dX6_cut_152 : decode cX6_cut 152 = .ok (.iconst 1, 1) := by decide +kernel
theorem dX6_cut_153 : decode cX6_cut 153 = .ok (.isub, 1) := by decide +kernel
theorem dX6_cut_154 : decode cX6_cut 154 = .ok (.ireturn, 1) := by decide +kernel
theorem dX6_drop_0 : decode cX6_drop 0 = .ok (.aload_n 0, 1) := by decide +kernel
theorem dX6_drop_1 : decode cX6_drop 1 = .ok (.getfield 10, 3) := by decide +kernel
theorem dX6_drop_4 : decode cX6_drop 4 = .ok (.iload_n 1, 1) := by decide +kernel
theorem dX6_drop_5 : decode cX6_drop 5 = .ok (.invokevirtual 94, 3) := by decide +kernel
theorem dX6_drop_8 : decode cX6_drop 8 = .ok (.ifnonnull 7, 3) := by decide +kernel
theorem dX6_drop_11 : decode cX6_drop 11 = .ok (.sipush (-1001), 3) := by decide +kernel
theorem dX6_drop_14 : decode cX6_drop 14 = .ok (.ireturn, 1) := by decide +kernel
theorem dX6_drop_15 : decode cX6_drop 15 = .ok (.aload_n 0, 1) := by decide +kernel
theorem dX6_drop_16 : decode cX6_drop 16 = .ok (.getfield 25, 3) := by decide +kernel
theorem dX6_drop_19 : decode cX6_drop 19 = .ok (.aload_n 0, 1) := by decide +kernel
theorem dX6_drop_20 : decode cX6_drop 20 = .ok (.getfield 10, 3) := by decide +kernel
theorem dX6_drop_23 : decode cX6_drop 23 = .ok (.invokevirtual 72, 3) := by decide +kernel
theorem dX6_drop_26 : decode cX6_drop 26 = .ok (.aload_n 0, 1) := by decide +kernel
theorem dX6_drop_27 : decode cX6_drop 27 = .ok (.getfield 10, 3) := by decide +kernel
theorem dX6_drop_30 : decode cX6_drop 30 = .ok (.iload_n 1, 1) := by decide +kernel
theorem dX6_drop_31 : decode cX6_drop 31 = .ok (.invokevirtual 147, 3) := by decide +kernel
theorem dX6_drop_34 : decode cX6_drop 34 = .ok (.aload_n 0, 1) := by decide +kernel
theorem dX6_drop_35 : decode cX6_drop 35 = .ok (.getfield 10, 3) := by decide +kernel
theorem dX6_drop_38 : decode cX6_drop 38 = .ok (.getfield 87, 3) := by decide +kernel
theorem dX6_drop_41 : decode cX6_drop 41 = .ok (.ireturn, 1) := by decide +kernel
theorem dX6_errorOfDecidedStrip_0 : decode cX6_errorOfDecidedStrip 0 = .ok (.aload_n 0, 1) := by decide +kernel
theorem dX6_errorOfDecidedStrip_1 : decode cX6_errorOfDecidedStrip 1 = .ok (.ifnonnull 7, 3) := by decide +kernel
theorem dX6_errorOfDecidedStrip_4 : decode cX6_errorOfDecidedStrip 4 = .ok (.sipush (-1001), 3) := by decide +kernel
theorem dX6_errorOfDecidedStrip_7 : decode cX6_errorOfDecidedStrip 7 = .ok (.ireturn, 1) := by decide +kernel
theorem dX6_errorOfDecidedStrip_8 : decode cX6_errorOfDecidedStrip 8 = .ok (.aload_n 0, 1) := by decide +kernel
theorem dX6_errorOfDecidedStrip_9 : decode cX6_errorOfDecidedStrip 9 = .ok (.getfield 130, 3) := by decide +kernel
theorem dX6_errorOfDecidedStrip_12 : decode cX6_errorOfDecidedStrip 12 = .ok (.ifCond .eq 7, 3) := by decide +kernel
theorem dX6_errorOfDecidedStrip_15 : decode cX6_errorOfDecidedStrip 15 = .ok (.sipush (-1002), 3) := by decide +kernel
theorem dX6_errorOfDecidedStrip_18 : decode cX6_errorOfDecidedStrip 18 = .ok (.ireturn, 1) := by decide +kernel
theorem dX6_errorOfDecidedStrip_19 : decode cX6_errorOfDecidedStrip 19 = .ok (.aload_n 0, 1) := by decide +kernel
theorem dX6_errorOfDecidedStrip_20 : decode cX6_errorOfDecidedStrip 20 = .ok (.invokevirtual 159, 3) := by decide +kernel
theorem dX6_errorOfDecidedStrip_23 : decode cX6_errorOfDecidedStrip 23 = .ok (.ifCond .eq 9, 3) := by decide +kernel
theorem dX6_errorOfDecidedStrip_26 : decode cX6_errorOfDecidedStrip 26 = .ok (.sipush (-1004), 3) := by decide +kernel
theorem dX6_errorOfDecidedStrip_29 : decode cX6_errorOfDecidedStrip 29 = .ok (.goto 4, 3) := by decide +kernel
theorem dX6_errorOfDecidedStrip_32 : decode cX6_errorOfDecidedStrip 32 = .ok (.iconst 0, 1) := by decide +kernel
theorem dX6_errorOfDecidedStrip_33 : decode cX6_errorOfDecidedStrip 33 = .ok (.ireturn, 1) := by decide +kernel
theorem dX6_fewest_0 : decode cX6_fewest 0 = .ok (.aload_n 0, 1) := by decide +kernel
theorem dX6_fewest_1 : decode cX6_fewest 1 = .ok (.getfield 10, 3) := by decide +kernel
theorem dX6_fewest_4 : decode cX6_fewest 4 = .ok (.iload_n 1, 1) := by decide +kernel
theorem dX6_fewest_5 : decode cX6_fewest 5 = .ok (.invokevirtual 94, 3) := by decide +kernel
theorem dX6_fewest_8 : decode cX6_fewest 8 = .ok (.astore_n 2, 1) := by decide +kernel
theorem dX6_fewest_9 : decode cX6_fewest 9 = .ok (.aload_n 2, 1) := by decide +kernel
theorem dX6_fewest_10 : decode cX6_fewest 10 = .ok (.ifnonnull 9, 3) := by decide +kernel
theorem dX6_fewest_13 : decode cX6_fewest 13 = .ok (.sipush (-1001), 3) := by decide +kernel
theorem dX6_fewest_16 : decode cX6_fewest 16 = .ok (.goto 11, 3) := by decide +kernel
theorem dX6_fewest_19 : decode cX6_fewest 19 = .ok (.aload_n 0, 1) := by decide +kernel
theorem dX6_fewest_20 : decode cX6_fewest 20 = .ok (.getfield 39, 3) := by decide +kernel
theorem dX6_fewest_23 : decode cX6_fewest 23 = .ok (.aload_n 2, 1) := by decide +kernel
theorem dX6_fewest_24 : decode cX6_fewest 24 = .ok (.invokevirtual 200, 3) := by decide +kernel
theorem dX6_fewest_27 : decode cX6_fewest 27 = .ok (.ireturn, 1) := by decide +kernel
theorem dX6_fold_0 : decode cX6_fold 0 = .ok (.aload_n 0, 1) := by decide +kernel
theorem dX6_fold_1 : decode cX6_fold 1 = .ok (.getfield 10, 3) := by decide +kernel
theorem dX6_fold_4 : decode cX6_fold 4 = .ok (.iload_n 1, 1) := by decide +kernel
theorem dX6_fold_5 : decode cX6_fold 5 = .ok (.invokevirtual 94, 3) := by decide +kernel
theorem dX6_fold_8 : decode cX6_fold 8 = .ok (.astore_n 2, 1) := by decide +kernel
theorem dX6_fold_9 : decode cX6_fold 9 = .ok (.aload_n 2, 1) := by decide +kernel
theorem dX6_fold_10 : decode cX6_fold 10 = .ok (.ifnonnull 7, 3) := by decide +kernel
theorem dX6_fold_13 : decode cX6_fold 13 = .ok (.sipush (-1001), 3) := by decide +kernel
theorem dX6_fold_16 : decode cX6_fold 16 = .ok (.ireturn, 1) := by decide +kernel
theorem dX6_fold_17 : decode cX6_fold 17 = .ok (.aload_n 2, 1) := by decide +kernel
theorem dX6_fold_18 : decode cX6_fold 18 = .ok (.getfield 104, 3) := by decide +kernel
theorem dX6_fold_21 : decode cX6_fold 21 = .ok (.ifCond .eq 10, 3) := by decide +kernel
theorem dX6_fold_24 : decode cX6_fold 24 = .ok (.aload_n 0, 1) := by decide +kernel
theorem dX6_fold_25 : decode cX6_fold 25 = .ok (.iconst 2, 1) := by decide +kernel
theorem dX6_fold_26 : decode cX6_fold 26 = .ok (.iload_n 1, 1) := by decide +kernel
theorem dX6_fold_27 : decode cX6_fold 27 = .ok (.invokevirtual 68, 3) := by decide +kernel
theorem dX6_fold_30 : decode cX6_fold 30 = .ok (.ireturn, 1) := by decide +kernel
theorem dX6_fold_31 : decode cX6_fold 31 = .ok (.aload_n 2, 1) := by decide +kernel
theorem dX6_fold_32 : decode cX6_fold 32 = .ok (.invokevirtual 159, 3) := by decide +kernel
theorem dX6_fold_35 : decode cX6_fold 35 = .ok (.ifCond .eq 13, 3) := by decide +kernel
theorem dX6_fold_38 : decode cX6_fold 38 = .ok (.aload_n 0, 1) := by decide +kernel
theorem dX6_fold_39 : decode cX6_fold 39 = .ok (.iconst 4, 1) := by decide +kernel
theorem dX6_fold_40 : decode cX6_fold 40 = .ok (.aload_n 2, 1) := by decide +kernel
theorem dX6_fold_41 : decode cX6_fold 41 = .ok (.invokevirtual 163, 3) := by decide +kernel
theorem dX6_fold_44 : decode cX6_fold 44 = .ok (.invokevirtual 68, 3) := by decide +kernel
theorem dX6_fold_47 : decode cX6_fold 47 = .ok (.ireturn, 1) := by decide +kernel
theorem dX6_fold_48 : decode cX6_fold 48 = .ok (.aload_n 0, 1) := by decide +kernel
theorem dX6_fold_49 : decode cX6_fold 49 = .ok (.getfield 39, 3) := by decide +kernel
theorem dX6_fold_52 : decode cX6_fold 52 = .ok (.aload_n 2, 1) := by decide +kernel
theorem dX6_fold_53 : decode cX6_fold 53 = .ok (.invokevirtual 166, 3) := by decide +kernel
theorem dX6_fold_56 : decode cX6_fold 56 = .ok (.istore_n 3, 1) := by decide +kernel
theorem dX6_fold_57 : decode cX6_fold 57 = .ok (.iload_n 3, 1) := by decide +kernel
theorem dX6_fold_58 : decode cX6_fold 58 = .ok (.ifCond .eq 10, 3) := by decide +kernel
theorem dX6_fold_61 : decode cX6_fold 61 = .ok (.aload_n 0, 1) := by decide +kernel
theorem dX6_fold_62 : decode cX6_fold 62 = .ok (.iconst 5, 1) := by decide +kernel
theorem dX6_fold_63 : decode cX6_fold 63 = .ok (.iload_n 3, 1) := by decide +kernel
theorem dX6_fold_64 : decode cX6_fold 64 = .ok (.invokevirtual 68, 3) := by decide +kernel
theorem dX6_fold_67 : decode cX6_fold 67 = .ok (.ireturn, 1) := by decide +kernel
theorem dX6_fold_68 : decode cX6_fold 68 = .ok (.aload_n 2, 1) := by decide +kernel
theorem dX6_fold_69 : decode cX6_fold 69 = .ok (.invokevirtual 170, 3) := by decide +kernel
theorem dX6_fold_72 : decode cX6_fold 72 = .ok (.istore 4, 2) := by decide +kernel
theorem dX6_fold_74 : decode cX6_fold 74 = .ok (.aload_n 0, 1) := by decide +kernel
theorem dX6_fold_75 : decode cX6_fold 75 = .ok (.getfield 10, 3) := by decide +kernel
theorem dX6_fold_78 : decode cX6_fold 78 = .ok (.invokevirtual 64, 3) := by decide +kernel
theorem dX6_fold_81 : decode cX6_fold 81 = .ok (.iload 4, 2) := by decide +kernel
theorem dX6_fold_83 : decode cX6_fold 83 = .ok (.iadd, 1) := by decide +kernel
theorem dX6_fold_84 : decode cX6_fold 84 = .ok (.aload_n 0, 1) := by decide +kernel
theorem dX6_fold_85 : decode cX6_fold 85 = .ok (.getfield 10, 3) := by decide +kernel
theorem dX6_fold_88 : decode cX6_fold 88 = .ok (.getfield 76, 3) := by decide +kernel
theorem dX6_fold_91 : decode cX6_fold 91 = .ok (.isub, 1) := by decide +kernel
theorem dX6_fold_92 : decode cX6_fold 92 = .ok (.istore 5, 2) := by decide +kernel
theorem dX6_fold_94 : decode cX6_fold 94 = .ok (.iload 5, 2) := by decide +kernel
theorem dX6_fold_96 : decode cX6_fold 96 = .ok (.ifCond .le 12, 3) := by decide +kernel
theorem dX6_fold_99 : decode cX6_fold 99 = .ok (.aload_n 0, 1) := by decide +kernel
theorem dX6_fold_100 : decode cX6_fold 100 = .ok (.bipush 7, 2) := by decide +kernel
theorem dX6_fold_102 : decode cX6_fold 102 = .ok (.iload 5, 2) := by decide +kernel
theorem dX6_fold_104 : decode cX6_fold 104 = .ok (.invokevirtual 68, 3) := by decide +kernel
theorem dX6_fold_107 : decode cX6_fold 107 = .ok (.ireturn, 1) := by decide +kernel
theorem dX6_fold_108 : decode cX6_fold 108 = .ok (.aload_n 0, 1) := by decide +kernel
theorem dX6_fold_109 : decode cX6_fold 109 = .ok (.getfield 25, 3) := by decide +kernel
theorem dX6_fold_112 : decode cX6_fold 112 = .ok (.aload_n 0, 1) := by decide +kernel
theorem dX6_fold_113 : decode cX6_fold 113 = .ok (.getfield 10, 3) := by decide +kernel
theorem dX6_fold_116 : decode cX6_fold 116 = .ok (.invokevirtual 72, 3) := by decide +kernel
theorem dX6_fold_119 : decode cX6_fold 119 = .ok (.aload_n 2, 1) := by decide +kernel
theorem dX6_fold_120 : decode cX6_fold 120 = .ok (.iconst 1, 1) := by decide +kernel
theorem dX6_fold_121 : decode cX6_fold 121 = .ok (.putfield 104, 3) := by decide +kernel
theorem dX6_fold_124 : decode cX6_fold 124 = .ok (.aload_n 0, 1) := by decide +kernel
theorem dX6_fold_125 : decode cX6_fold 125 = .ok (.getfield 10, 3) := by decide +kernel
theorem dX6_fold_128 : decode cX6_fold 128 = .ok (.dup, 1) := by decide +kernel
theorem dX6_fold_129 : decode cX6_fold 129 = .ok (.getfield 172, 3) := by decide +kernel
theorem dX6_fold_132 : decode cX6_fold 132 = .ok (.iconst 1, 1) := by decide +kernel
theorem dX6_fold_133 : decode cX6_fold 133 = .ok (.iadd, 1) := by decide +kernel
theorem dX6_fold_134 : decode cX6_fold 134 = .ok (.putfield 172, 3) := by decide +kernel
theorem dX6_fold_137 : decode cX6_fold 137 = .ok (.iload 4, 2) := by decide +kernel
theorem dX6_fold_139 : decode cX6_fold 139 = .ok (.ireturn, 1) := by decide +kernel
theorem dX6_foldsAgain_0 : decode cX6_foldsAgain 0 = .ok (.aload_n 0, 1) := by decide +kernel
theorem dX6_foldsAgain_1 : decode cX6_foldsAgain 1 = .ok (.getfield 10, 3) := by decide +kernel
theorem dX6_foldsAgain_4 : decode cX6_foldsAgain 4 = .ok (.iload_n 1, 1) := by decide +kernel
theorem dX6_foldsAgain_5 : decode cX6_foldsAgain 5 = .ok (.invokevirtual 94, 3) := by decide +kernel
theorem dX6_foldsAgain_8 : decode cX6_foldsAgain 8 = .ok (.astore_n 2, 1) := by decide +kernel
theorem dX6_foldsAgain_9 : decode cX6_foldsAgain 9 = .ok (.aload_n 2, 1) := by decide +kernel
theorem dX6_foldsAgain_10 : decode cX6_foldsAgain 10 = .ok (.invokestatic 181, 3) := by decide +kernel
theorem dX6_foldsAgain_13 : decode cX6_foldsAgain 13 = .ok (.istore_n 3, 1) := by decide +kernel
theorem dX6_foldsAgain_14 : decode cX6_foldsAgain 14 = .ok (.iload_n 3, 1) := by decide +kernel
theorem dX6_foldsAgain_15 : decode cX6_foldsAgain 15 = .ok (.ifCond .ne 7, 3) := by decide +kernel
theorem dX6_foldsAgain_18 : decode cX6_foldsAgain 18 = .ok (.aload_n 2, 1) := by decide +kernel
theorem dX6_foldsAgain_19 : decode cX6_foldsAgain 19 = .ok (.ifnonnull 5, 3) := by decide +kernel
theorem dX6_foldsAgain_22 : decode cX6_foldsAgain 22 = .ok (.iload_n 3, 1) := by decide +kernel
theorem dX6_foldsAgain_23 : decode cX6_foldsAgain 23 = .ok (.ireturn, 1) := by decide +kernel
theorem dX6_foldsAgain_24 : decode cX6_foldsAgain 24 = .ok (.aload_n 0, 1) := by decide +kernel
theorem dX6_foldsAgain_25 : decode cX6_foldsAgain 25 = .ok (.getfield 46, 3) := by decide +kernel
theorem dX6_foldsAgain_28 : decode cX6_foldsAgain 28 = .ok (.aload_n 2, 1) := by decide +kernel
theorem dX6_foldsAgain_29 : decode cX6_foldsAgain 29 = .ok (.iconst 1, 1) := by decide +kernel
theorem dX6_foldsAgain_30 : decode cX6_foldsAgain 30 = .ok (.invokevirtual 184, 3) := by decide +kernel
theorem dX6_foldsAgain_33 : decode cX6_foldsAgain 33 = .ok (.ireturn, 1) := by decide +kernel
theorem dX6_isCreaseKind_0 : decode cX6_isCreaseKind 0 = .ok (.iload_n 0, 1) := by decide +kernel
theorem dX6_isCreaseKind_1 : decode cX6_isCreaseKind 1 = .ok (.ifCond .eq 13, 3) := by decide +kernel
theorem dX6_isCreaseKind_4 : decode cX6_isCreaseKind 4 = .ok (.iload_n 0, 1) := by decide +kernel
theorem dX6_isCreaseKind_5 : decode cX6_isCreaseKind 5 = .ok (.iconst 1, 1) := by decide +kernel
theorem dX6_isCreaseKind_6 : decode cX6_isCreaseKind 6 = .ok (.if_icmp .eq 8, 3) := by decide +kernel
theorem dX6_isCreaseKind_9 : decode cX6_isCreaseKind 9 = .ok (.iload_n 0, 1) := by decide +kernel
theorem dX6_isCreaseKind_10 : decode cX6_isCreaseKind 10 = .ok (.iconst 2, 1) := by decide +kernel
theorem dX6_isCreaseKind_11 : decode cX6_isCreaseKind 11 = .ok (.if_icmp .ne 7, 3) := by decide +kernel
theorem dX6_isCreaseKind_14 : decode cX6_isCreaseKind 14 = .ok (.iconst 1, 1) := by decide +kernel
theorem dX6_isCreaseKind_15 : decode cX6_isCreaseKind 15 = .ok (.goto 4, 3) := by decide +kernel
theorem dX6_isCreaseKind_18 : decode cX6_isCreaseKind 18 = .ok (.iconst 0, 1) := by decide +kernel
theorem dX6_isCreaseKind_19 : decode cX6_isCreaseKind 19 = .ok (.ireturn, 1) := by decide +kernel
theorem dX6_join_0 : decode cX6_join 0 = .ok (.aload_n 0, 1) := by decide +kernel
theorem dX6_join_1 : decode cX6_join 1 = .ok (.getfield 10, 3) := by decide +kernel
theorem dX6_join_4 : decode cX6_join 4 = .ok (.iload_n 1, 1) := by decide +kernel
theorem dX6_join_5 : decode cX6_join 5 = .ok (.invokevirtual 94, 3) := by decide +kernel
theorem dX6_join_8 : decode cX6_join 8 = .ok (.astore 4, 2) := by decide +kernel
theorem dX6_join_10 : decode cX6_join 10 = .ok (.aload_n 0, 1) := by decide +kernel
theorem dX6_join_11 : decode cX6_join 11 = .ok (.getfield 10, 3) := by decide +kernel
theorem dX6_join_14 : decode cX6_join 14 = .ok (.iload_n 2, 1) := by decide +kernel
theorem dX6_join_15 : decode cX6_join 15 = .ok (.invokevirtual 94, 3) := by decide +kernel
theorem dX6_join_18 : decode cX6_join 18 = .ok (.astore 5, 2) := by decide +kernel
theorem dX6_join_20 : decode cX6_join 20 = .ok (.aload 4, 2) := by decide +kernel
theorem dX6_join_22 : decode cX6_join 22 = .ok (.ifnull 13, 3) := by decide +kernel
theorem dX6_join_25 : decode cX6_join 25 = .ok (.aload 5, 2) := by decide +kernel
theorem dX6_join_27 : decode cX6_join 27 = .ok (.ifnull 8, 3) := by decide +kernel
theorem dX6_join_30 : decode cX6_join 30 = .ok (.iload_n 1, 1) := by decide +kernel
theorem dX6_join_31 : decode cX6_join 31 = .ok (.iload_n 2, 1) := by decide +kernel
theorem dX6_join_32 : decode cX6_join 32 = .ok (.if_icmp .ne 7, 3) := by decide +kernel
theorem dX6_join_35 : decode cX6_join 35 = .ok (.sipush (-1001), 3) := by decide +kernel
theorem dX6_join_38 : decode cX6_join 38 = .ok (.ireturn, 1) := by decide +kernel
theorem dX6_join_39 : decode cX6_join 39 = .ok (.iload_n 3, 1) := by decide +kernel
theorem dX6_join_40 : decode cX6_join 40 = .ok (.invokestatic 101, 3) := by decide +kernel
theorem dX6_join_43 : decode cX6_join 43 = .ok (.ifCond .ne 7, 3) := by decide +kernel
theorem dX6_join_46 : decode cX6_join 46 = .ok (.sipush (-1002), 3) := by decide +kernel
theorem dX6_join_49 : decode cX6_join 49 = .ok (.ireturn, 1) := by decide +kernel
theorem dX6_join_50 : decode cX6_join 50 = .ok (.aload 4, 2) := by decide +kernel
theorem dX6_join_52 : decode cX6_join 52 = .ok (.getfield 104, 3) := by decide +kernel
theorem dX6_join_55 : decode cX6_join 55 = .ok (.ifCond .ne 11, 3) := by decide +kernel
theorem dX6_join_58 : decode cX6_join 58 = .ok (.aload 5, 2) := by decide +kernel
theorem dX6_join_60 : decode cX6_join 60 = .ok (.getfield 104, 3) := by decide +kernel
theorem dX6_join_63 : decode cX6_join 63 = .ok (.ifCond .eq 22, 3) := by decide +kernel
theorem dX6_join_66 : decode cX6_join 66 = .ok (.aload_n 0, 1) := by decide +kernel
theorem dX6_join_67 : decode cX6_join 67 = .ok (.iconst 2, 1) := by decide +kernel
theorem dX6_join_68 : decode cX6_join 68 = .ok (.aload 4, 2) := by decide +kernel
theorem dX6_join_70 : decode cX6_join 70 = .ok (.getfield 104, 3) := by decide +kernel
theorem dX6_join_73 : decode cX6_join 73 = .ok (.ifCond .eq 7, 3) := by decide +kernel
theorem dX6_join_76 : decode cX6_join 76 = .ok (.iload_n 1, 1) := by decide +kernel
theorem dX6_join_77 : decode cX6_join 77 = .ok (.goto 4, 3) := by decide +kernel
theorem dX6_join_80 : decode cX6_join 80 = .ok (.iload_n 2, 1) := by decide +kernel
theorem dX6_join_81 : decode cX6_join 81 = .ok (.invokevirtual 68, 3) := by decide +kernel
theorem dX6_join_84 : decode cX6_join 84 = .ok (.ireturn, 1) := by decide +kernel
theorem dX6_join_85 : decode cX6_join 85 = .ok (.aload 4, 2) := by decide +kernel
theorem dX6_join_87 : decode cX6_join 87 = .ok (.getfield 130, 3) := by decide +kernel
theorem dX6_join_90 : decode cX6_join 90 = .ok (.ifCond .ne 11, 3) := by decide +kernel
theorem dX6_join_93 : decode cX6_join 93 = .ok (.aload 5, 2) := by decide +kernel
theorem dX6_join_95 : decode cX6_join 95 = .ok (.getfield 130, 3) := by decide +kernel
theorem dX6_join_98 : decode cX6_join 98 = .ok (.ifCond .eq 22, 3) := by decide +kernel
theorem dX6_join_101 : decode cX6_join 101 = .ok (.aload_n 0, 1) := by decide +kernel
theorem dX6_join_102 : decode cX6_join 102 = .ok (.iconst 3, 1) := by decide +kernel
theorem dX6_join_103 : decode cX6_join 103 = .ok (.aload 4, 2) := by decide +kernel
theorem dX6_join_105 : decode cX6_join 105 = .ok (.getfield 130, 3) := by decide +kernel
theorem dX6_join_108 : decode cX6_join 108 = .ok (.ifCond .eq 7, 3) := by decide +kernel
theorem dX6_join_111 : decode cX6_join 111 = .ok (.iload_n 1, 1) := by decide +kernel
theorem dX6_join_112 : decode cX6_join 112 = .ok (.goto 4, 3) := by decide +kernel
theorem dX6_join_115 : decode cX6_join 115 = .ok (.iload_n 2, 1) := by decide +kernel
theorem dX6_join_116 : decode cX6_join 116 = .ok (.invokevirtual 68, 3) := by decide +kernel
theorem dX6_join_119 : decode cX6_join 119 = .ok (.ireturn, 1) := by decide +kernel
theorem dX6_join_120 : decode cX6_join 120 = .ok (.aload 4, 2) := by decide +kernel
theorem dX6_join_122 : decode cX6_join 122 = .ok (.getfield 143, 3) := by decide +kernel
theorem dX6_join_125 : decode cX6_join 125 = .ok (.aload 5, 2) := by decide +kernel
theorem dX6_join_127 : decode cX6_join 127 = .ok (.getfield 143, 3) := by decide +kernel
theorem dX6_join_130 : decode cX6_join 130 = .ok (.iadd, 1) := by decide +kernel
theorem dX6_join_131 : decode cX6_join 131 = .ok (.istore 6, 2) := by decide +kernel
theorem dX6_join_133 : decode cX6_join 133 = .ok (.iload 6, 2) := by decide +kernel
theorem dX6_join_135 : decode cX6_join 135 = .ok (.bipush 7, 2) := by decide +kernel
theorem dX6_join_137 : decode cX6_join 137 = .ok (.if_icmp .le 12, 3) := by decide +kernel
theorem dX6_join_140 : decode cX6_join 140 = .ok (.aload_n 0, 1) := by decide +kernel
theorem dX6_join_141 : decode cX6_join 141 = .ok (.bipush 6, 2) := by decide +kernel
theorem dX6_join_143 : decode cX6_join 143 = .ok (.iload 6, 2) := by decide +kernel
theorem dX6_join_145 : decode cX6_join 145 = .ok (.invokevirtual 68, 3) := by decide +kernel
theorem dX6_join_148 : decode cX6_join 148 = .ok (.ireturn, 1) := by decide +kernel
theorem dX6_join_149 : decode cX6_join 149 = .ok (.aload_n 0, 1) := by decide +kernel
theorem dX6_join_150 : decode cX6_join 150 = .ok (.getfield 25, 3) := by decide +kernel
theorem dX6_join_153 : decode cX6_join 153 = .ok (.aload_n 0, 1) := by decide +kernel
theorem dX6_join_154 : decode cX6_join 154 = .ok (.getfield 10, 3) := by decide +kernel
theorem dX6_join_157 : decode cX6_join 157 = .ok (.invokevirtual 72, 3) := by decide +kernel
theorem dX6_join_160 : decode cX6_join 160 = .ok (.aload 4, 2) := by decide +kernel
theorem dX6_join_162 : decode cX6_join 162 = .ok (.aload 5, 2) := by decide +kernel
theorem dX6_join_164 : decode cX6_join 164 = .ok (.iload_n 3, 1) := by decide +kernel
theorem dX6_join_165 : decode cX6_join 165 = .ok (.invokevirtual 144, 3) := by decide +kernel
theorem dX6_join_168 : decode cX6_join 168 = .ok (.aload_n 0, 1) := by decide +kernel
theorem dX6_join_169 : decode cX6_join 169 = .ok (.getfield 10, 3) := by decide +kernel
theorem dX6_join_172 : decode cX6_join 172 = .ok (.iload_n 2, 1) := by decide +kernel
theorem dX6_join_173 : decode cX6_join 173 = .ok (.invokevirtual 147, 3) := by decide +kernel
theorem dX6_join_176 : decode cX6_join 176 = .ok (.iload 6, 2) := by decide +kernel
theorem dX6_join_178 : decode cX6_join 178 = .ok (.ireturn, 1) := by decide +kernel
theorem dX6_layer_0 : decode cX6_layer 0 = .ok (.aload_n 0, 1) := by decide +kernel
theorem dX6_layer_1 : decode cX6_layer 1 = .ok (.getfield 10, 3) := by decide +kernel
theorem dX6_layer_4 : decode cX6_layer 4 = .ok (.iload_n 1, 1) := by decide +kernel
theorem dX6_layer_5 : decode cX6_layer 5 = .ok (.invokevirtual 94, 3) := by decide +kernel
theorem dX6_layer_8 : decode cX6_layer 8 = .ok (.astore_n 3, 1) := by decide +kernel
theorem dX6_layer_9 : decode cX6_layer 9 = .ok (.aload_n 3, 1) := by decide +kernel
theorem dX6_layer_10 : decode cX6_layer 10 = .ok (.ifnonnull 7, 3) := by decide +kernel
theorem dX6_layer_13 : decode cX6_layer 13 = .ok (.sipush (-1001), 3) := by decide +kernel
theorem dX6_layer_16 : decode cX6_layer 16 = .ok (.ireturn, 1) := by decide +kernel
theorem dX6_layer_17 : decode cX6_layer 17 = .ok (.aload_n 3, 1) := by decide +kernel
theorem dX6_layer_18 : decode cX6_layer 18 = .ok (.getfield 130, 3) := by decide +kernel
theorem dX6_layer_21 : decode cX6_layer 21 = .ok (.ifCond .ne 19, 3) := by decide +kernel
theorem dX6_layer_24 : decode cX6_layer 24 = .ok (.iload_n 2, 1) := by decide +kernel
theorem dX6_layer_25 : decode cX6_layer 25 = .ok (.ifCond .lt 11, 3) := by decide +kernel
theorem dX6_layer_28 : decode cX6_layer 28 = .ok (.iload_n 2, 1) := by decide +kernel
theorem dX6_layer_29 : decode cX6_layer 29 = .ok (.aload_n 3, 1) := by decide +kernel
theorem dX6_layer_30 : decode cX6_layer 30 = .ok (.getfield 143, 3) := by decide +kernel
theorem dX6_layer_33 : decode cX6_layer 33 = .ok (.if_icmp .lt 7, 3) := by decide +kernel
theorem dX6_layer_36 : decode cX6_layer 36 = .ok (.sipush (-1001), 3) := by decide +kernel
theorem dX6_layer_39 : decode cX6_layer 39 = .ok (.ireturn, 1) := by decide +kernel
theorem dX6_layer_40 : decode cX6_layer 40 = .ok (.aload_n 3, 1) := by decide +kernel
theorem dX6_layer_41 : decode cX6_layer 41 = .ok (.invokestatic 181, 3) := by decide +kernel
theorem dX6_layer_44 : decode cX6_layer 44 = .ok (.istore 4, 2) := by decide +kernel
theorem dX6_layer_46 : decode cX6_layer 46 = .ok (.iload 4, 2) := by decide +kernel
theorem dX6_layer_48 : decode cX6_layer 48 = .ok (.ifCond .eq 6, 3) := by decide +kernel
theorem dX6_layer_51 : decode cX6_layer 51 = .ok (.iload 4, 2) := by decide +kernel
theorem dX6_layer_53 : decode cX6_layer 53 = .ok (.ireturn, 1) := by decide +kernel
theorem dX6_layer_54 : decode cX6_layer 54 = .ok (.aload_n 0, 1) := by decide +kernel
theorem dX6_layer_55 : decode cX6_layer 55 = .ok (.getfield 46, 3) := by decide +kernel
theorem dX6_layer_58 : decode cX6_layer 58 = .ok (.aload_n 3, 1) := by decide +kernel
theorem dX6_layer_59 : decode cX6_layer 59 = .ok (.iconst 1, 1) := by decide +kernel
theorem dX6_layer_60 : decode cX6_layer 60 = .ok (.invokevirtual 184, 3) := by decide +kernel
theorem dX6_layer_63 : decode cX6_layer 63 = .ok (.ifCond .ne 9, 3) := by decide +kernel
theorem dX6_layer_66 : decode cX6_layer 66 = .ok (.sipush (-1004), 3) := by decide +kernel
theorem dX6_layer_69 : decode cX6_layer 69 = .ok (.goto 14, 3) := by decide +kernel
theorem dX6_layer_72 : decode cX6_layer 72 = .ok (.aload_n 0, 1) := by decide +kernel
theorem dX6_layer_73 : decode cX6_layer 73 = .ok (.getfield 46, 3) := by decide +kernel
theorem dX6_layer_76 : decode cX6_layer 76 = .ok (.getfield 206, 3) := by decide +kernel
theorem dX6_layer_79 : decode cX6_layer 79 = .ok (.iload_n 2, 1) := by decide +kernel
theorem dX6_layer_80 : decode cX6_layer 80 = .ok (.invokestatic 112, 3) := by decide +kernel
theorem dX6_layer_83 : decode cX6_layer 83 = .ok (.ireturn, 1) := by decide +kernel
theorem dX6_mark_0 : decode cX6_mark 0 = .ok (.aload_n 0, 1) := by decide +kernel
theorem dX6_mark_1 : decode cX6_mark 1 = .ok (.getfield 10, 3) := by decide +kernel
theorem dX6_mark_4 : decode cX6_mark 4 = .ok (.iload_n 1, 1) := by decide +kernel
theorem dX6_mark_5 : decode cX6_mark 5 = .ok (.invokevirtual 94, 3) := by decide +kernel
theorem dX6_mark_8 : decode cX6_mark 8 = .ok (.astore 4, 2) := by decide +kernel
theorem dX6_mark_10 : decode cX6_mark 10 = .ok (.aload 4, 2) := by decide +kernel
theorem dX6_mark_12 : decode cX6_mark 12 = .ok (.ifnull 12, 3) := by decide +kernel
theorem dX6_mark_15 : decode cX6_mark 15 = .ok (.aload 4, 2) := by decide +kernel
theorem dX6_mark_17 : decode cX6_mark 17 = .ok (.iload_n 2, 1) := by decide +kernel
theorem dX6_mark_18 : decode cX6_mark 18 = .ok (.invokevirtual 98, 3) := by decide +kernel
theorem dX6_mark_21 : decode cX6_mark 21 = .ok (.ifCond .ne 7, 3) := by decide +kernel
theorem dX6_mark_24 : decode cX6_mark 24 = .ok (.sipush (-1001), 3) := by decide +kernel
theorem dX6_mark_27 : decode cX6_mark 27 = .ok (.ireturn, 1) := by decide +kernel
theorem dX6_mark_28 : decode cX6_mark 28 = .ok (.iload_n 3, 1) := by decide +kernel
theorem dX6_mark_29 : decode cX6_mark 29 = .ok (.invokestatic 101, 3) := by decide +kernel
theorem dX6_mark_32 : decode cX6_mark 32 = .ok (.ifCond .ne 7, 3) := by decide +kernel
theorem dX6_mark_35 : decode cX6_mark 35 = .ok (.sipush (-1002), 3) := by decide +kernel
theorem dX6_mark_38 : decode cX6_mark 38 = .ok (.ireturn, 1) := by decide +kernel
theorem dX6_mark_39 : decode cX6_mark 39 = .ok (.aload 4, 2) := by decide +kernel
theorem dX6_mark_41 : decode cX6_mark 41 = .ok (.getfield 104, 3) := by decide +kernel
theorem dX6_mark_44 : decode cX6_mark 44 = .ok (.ifCond .eq 10, 3) := by decide +kernel
theorem dX6_mark_47 : decode cX6_mark 47 = .ok (.aload_n 0, 1) := by decide +kernel
theorem dX6_mark_48 : decode cX6_mark 48 = .ok (.iconst 2, 1) := by decide +kernel
theorem dX6_mark_49 : decode cX6_mark 49 = .ok (.iload_n 1, 1) := by decide +kernel
theorem dX6_mark_50 : decode cX6_mark 50 = .ok (.invokevirtual 68, 3) := by decide +kernel
theorem dX6_mark_53 : decode cX6_mark 53 = .ok (.ireturn, 1) := by decide +kernel
theorem dX6_mark_54 : decode cX6_mark 54 = .ok (.aload_n 0, 1) := by decide +kernel
theorem dX6_mark_55 : decode cX6_mark 55 = .ok (.getfield 25, 3) := by decide +kernel
theorem dX6_mark_58 : decode cX6_mark 58 = .ok (.aload_n 0, 1) := by decide +kernel
theorem dX6_mark_59 : decode cX6_mark 59 = .ok (.getfield 10, 3) := by decide +kernel
theorem dX6_mark_62 : decode cX6_mark 62 = .ok (.invokevirtual 72, 3) := by decide +kernel
theorem dX6_mark_65 : decode cX6_mark 65 = .ok (.aload 4, 2) := by decide +kernel
theorem dX6_mark_67 : decode cX6_mark 67 = .ok (.getfield 108, 3) := by decide +kernel
theorem dX6_mark_70 : decode cX6_mark 70 = .ok (.iload_n 2, 1) := by decide +kernel
theorem dX6_mark_71 : decode cX6_mark 71 = .ok (.invokestatic 112, 3) := by decide +kernel
theorem dX6_mark_74 : decode cX6_mark 74 = .ok (.istore 5, 2) := by decide +kernel
theorem dX6_mark_76 : decode cX6_mark 76 = .ok (.aload 4, 2) := by decide +kernel
theorem dX6_mark_78 : decode cX6_mark 78 = .ok (.getfield 108, 3) := by decide +kernel
theorem dX6_mark_81 : decode cX6_mark 81 = .ok (.iload_n 2, 1) := by decide +kernel
theorem dX6_mark_82 : decode cX6_mark 82 = .ok (.iload_n 3, 1) := by decide +kernel
theorem dX6_mark_83 : decode cX6_mark 83 = .ok (.invokestatic 116, 3) := by decide +kernel
theorem dX6_mark_86 : decode cX6_mark 86 = .ok (.iload 5, 2) := by decide +kernel
theorem dX6_mark_88 : decode cX6_mark 88 = .ok (.ireturn, 1) := by decide +kernel
theorem dX6_orders_0 : decode cX6_orders 0 = .ok (.aload_n 0, 1) := by decide +kernel
theorem dX6_orders_1 : decode cX6_orders 1 = .ok (.getfield 10, 3) := by decide +kernel
theorem dX6_orders_4 : decode cX6_orders 4 = .ok (.iload_n 1, 1) := by decide +kernel
theorem dX6_orders_5 : decode cX6_orders 5 = .ok (.invokevirtual 94, 3) := by decide +kernel
theorem dX6_orders_8 : decode cX6_orders 8 = .ok (.astore_n 2, 1) := by decide +kernel
theorem dX6_orders_9 : decode cX6_orders 9 = .ok (.aload_n 2, 1) := by decide +kernel
theorem dX6_orders_10 : decode cX6_orders 10 = .ok (.invokestatic 181, 3) := by decide +kernel
theorem dX6_orders_13 : decode cX6_orders 13 = .ok (.istore_n 3, 1) := by decide +kernel
theorem dX6_orders_14 : decode cX6_orders 14 = .ok (.iload_n 3, 1) := by decide +kernel
theorem dX6_orders_15 : decode cX6_orders 15 = .ok (.ifCond .ne 7, 3) := by decide +kernel
theorem dX6_orders_18 : decode cX6_orders 18 = .ok (.aload_n 2, 1) := by decide +kernel
theorem dX6_orders_19 : decode cX6_orders 19 = .ok (.ifnonnull 5, 3) := by decide +kernel
theorem dX6_orders_22 : decode cX6_orders 22 = .ok (.iload_n 3, 1) := by decide +kernel
theorem dX6_orders_23 : decode cX6_orders 23 = .ok (.ireturn, 1) := by decide +kernel
theorem dX6_orders_24 : decode cX6_orders 24 = .ok (.aload_n 0, 1) := by decide +kernel
theorem dX6_orders_25 : decode cX6_orders 25 = .ok (.getfield 46, 3) := by decide +kernel
theorem dX6_orders_28 : decode cX6_orders 28 = .ok (.aload_n 2, 1) := by decide +kernel
theorem dX6_orders_29 : decode cX6_orders 29 = .ok (.ldc 209, 2) := by decide +kernel
theorem dX6_orders_31 : decode cX6_orders 31 = .ok (.invokevirtual 184, 3) := by decide +kernel
theorem dX6_orders_34 : decode cX6_orders 34 = .ok (.ireturn, 1) := by decide +kernel
theorem dX6_perform_0 : decode cX6_perform 0 = .ok (.aload_n 0, 1) := by decide +kernel
theorem dX6_perform_1 : decode cX6_perform 1 = .ok (.getfield 32, 3) := by decide +kernel
theorem dX6_perform_4 : decode cX6_perform 4 = .ok (.getfield 276, 3) := by decide +kernel
theorem dX6_perform_7 : decode cX6_perform 7 = .ok (.tableswitch 223 99 120 #[125, 223, 223, 187, 223, 223, 223, 223, 223, 223, 149, 223, 223, 223, 223, 223, 101, 175, 199, 223, 223, 211], 101) := by decide +kernel
theorem dX6_perform_108 : decode cX6_perform 108 = .ok (.aload_n 0, 1) := by decide +kernel
theorem dX6_perform_109 : decode cX6_perform 109 = .ok (.aload_n 0, 1) := by decide +kernel
theorem dX6_perform_110 : decode cX6_perform 110 = .ok (.iconst 0, 1) := by decide +kernel
theorem dX6_perform_111 : decode cX6_perform 111 = .ok (.aload_n 0, 1) := by decide +kernel
theorem dX6_perform_112 : decode cX6_perform 112 = .ok (.getfield 32, 3) := by decide +kernel
theorem dX6_perform_115 : decode cX6_perform 115 = .ok (.getfield 279, 3) := by decide +kernel
theorem dX6_perform_118 : decode cX6_perform 118 = .ok (.aload_n 0, 1) := by decide +kernel
theorem dX6_perform_119 : decode cX6_perform 119 = .ok (.getfield 32, 3) := by decide +kernel
theorem dX6_perform_122 : decode cX6_perform 122 = .ok (.getfield 282, 3) := by decide +kernel
theorem dX6_perform_125 : decode cX6_perform 125 = .ok (.invokevirtual 284, 3) := by decide +kernel
theorem dX6_perform_128 : decode cX6_perform 128 = .ok (.invokevirtual 288, 3) := by decide +kernel
theorem dX6_perform_131 : decode cX6_perform 131 = .ok (.ireturn, 1) := by decide +kernel
theorem dX6_perform_132 : decode cX6_perform 132 = .ok (.aload_n 0, 1) := by decide +kernel
theorem dX6_perform_133 : decode cX6_perform 133 = .ok (.aload_n 0, 1) := by decide +kernel
theorem dX6_perform_134 : decode cX6_perform 134 = .ok (.iconst 1, 1) := by decide +kernel
theorem dX6_perform_135 : decode cX6_perform 135 = .ok (.aload_n 0, 1) := by decide +kernel
theorem dX6_perform_136 : decode cX6_perform 136 = .ok (.getfield 32, 3) := by decide +kernel
theorem dX6_perform_139 : decode cX6_perform 139 = .ok (.getfield 279, 3) := by decide +kernel
theorem dX6_perform_142 : decode cX6_perform 142 = .ok (.aload_n 0, 1) := by decide +kernel
theorem dX6_perform_143 : decode cX6_perform 143 = .ok (.getfield 32, 3) := by decide +kernel
theorem dX6_perform_146 : decode cX6_perform 146 = .ok (.getfield 282, 3) := by decide +kernel
theorem dX6_perform_149 : decode cX6_perform 149 = .ok (.invokevirtual 284, 3) := by decide +kernel
theorem dX6_perform_152 : decode cX6_perform 152 = .ok (.invokevirtual 288, 3) := by decide +kernel
theorem dX6_perform_155 : decode cX6_perform 155 = .ok (.ireturn, 1) := by decide +kernel
theorem dX6_perform_156 : decode cX6_perform 156 = .ok (.aload_n 0, 1) := by decide +kernel
theorem dX6_perform_157 : decode cX6_perform 157 = .ok (.aload_n 0, 1) := by decide +kernel
theorem dX6_perform_158 : decode cX6_perform 158 = .ok (.getfield 32, 3) := by decide +kernel
theorem dX6_perform_161 : decode cX6_perform 161 = .ok (.getfield 279, 3) := by decide +kernel
theorem dX6_perform_164 : decode cX6_perform 164 = .ok (.aload_n 0, 1) := by decide +kernel
theorem dX6_perform_165 : decode cX6_perform 165 = .ok (.getfield 32, 3) := by decide +kernel
theorem dX6_perform_168 : decode cX6_perform 168 = .ok (.getfield 282, 3) := by decide +kernel
theorem dX6_perform_171 : decode cX6_perform 171 = .ok (.aload_n 0, 1) := by decide +kernel
theorem dX6_perform_172 : decode cX6_perform 172 = .ok (.getfield 32, 3) := by decide +kernel
theorem dX6_perform_175 : decode cX6_perform 175 = .ok (.getfield 291, 3) := by decide +kernel
theorem dX6_perform_178 : decode cX6_perform 178 = .ok (.invokevirtual 294, 3) := by decide +kernel
theorem dX6_perform_181 : decode cX6_perform 181 = .ok (.ireturn, 1) := by decide +kernel
theorem dX6_perform_182 : decode cX6_perform 182 = .ok (.aload_n 0, 1) := by decide +kernel
theorem dX6_perform_183 : decode cX6_perform 183 = .ok (.aload_n 0, 1) := by decide +kernel
theorem dX6_perform_184 : decode cX6_perform 184 = .ok (.getfield 32, 3) := by decide +kernel
theorem dX6_perform_187 : decode cX6_perform 187 = .ok (.getfield 279, 3) := by decide +kernel
theorem dX6_perform_190 : decode cX6_perform 190 = .ok (.invokevirtual 297, 3) := by decide +kernel
theorem dX6_perform_193 : decode cX6_perform 193 = .ok (.ireturn, 1) := by decide +kernel
theorem dX6_perform_194 : decode cX6_perform 194 = .ok (.aload_n 0, 1) := by decide +kernel
theorem dX6_perform_195 : decode cX6_perform 195 = .ok (.aload_n 0, 1) := by decide +kernel
theorem dX6_perform_196 : decode cX6_perform 196 = .ok (.getfield 32, 3) := by decide +kernel
theorem dX6_perform_199 : decode cX6_perform 199 = .ok (.getfield 279, 3) := by decide +kernel
theorem dX6_perform_202 : decode cX6_perform 202 = .ok (.invokevirtual 300, 3) := by decide +kernel
theorem dX6_perform_205 : decode cX6_perform 205 = .ok (.ireturn, 1) := by decide +kernel
theorem dX6_perform_206 : decode cX6_perform 206 = .ok (.aload_n 0, 1) := by decide +kernel
theorem dX6_perform_207 : decode cX6_perform 207 = .ok (.aload_n 0, 1) := by decide +kernel
theorem dX6_perform_208 : decode cX6_perform 208 = .ok (.getfield 32, 3) := by decide +kernel
theorem dX6_perform_211 : decode cX6_perform 211 = .ok (.getfield 279, 3) := by decide +kernel
theorem dX6_perform_214 : decode cX6_perform 214 = .ok (.invokevirtual 303, 3) := by decide +kernel
theorem dX6_perform_217 : decode cX6_perform 217 = .ok (.ireturn, 1) := by decide +kernel
theorem dX6_perform_218 : decode cX6_perform 218 = .ok (.aload_n 0, 1) := by decide +kernel
theorem dX6_perform_219 : decode cX6_perform 219 = .ok (.aload_n 0, 1) := by decide +kernel
theorem dX6_perform_220 : decode cX6_perform 220 = .ok (.getfield 32, 3) := by decide +kernel
theorem dX6_perform_223 : decode cX6_perform 223 = .ok (.getfield 279, 3) := by decide +kernel
theorem dX6_perform_226 : decode cX6_perform 226 = .ok (.invokevirtual 306, 3) := by decide +kernel
theorem dX6_perform_229 : decode cX6_perform 229 = .ok (.ireturn, 1) := by decide +kernel
theorem dX6_perform_230 : decode cX6_perform 230 = .ok (.sipush (-1002), 3) := by decide +kernel
theorem dX6_perform_233 : decode cX6_perform 233 = .ok (.ireturn, 1) := by decide +kernel
theorem dX6_piece_0 : decode cX6_piece 0 = .ok (.aload_n 0, 1) := by decide +kernel
theorem dX6_piece_1 : decode cX6_piece 1 = .ok (.getfield 10, 3) := by decide +kernel
theorem dX6_piece_4 : decode cX6_piece 4 = .ok (.iload_n 1, 1) := by decide +kernel
theorem dX6_piece_5 : decode cX6_piece 5 = .ok (.invokevirtual 94, 3) := by decide +kernel
theorem dX6_piece_8 : decode cX6_piece 8 = .ok (.astore_n 3, 1) := by decide +kernel
theorem dX6_piece_9 : decode cX6_piece 9 = .ok (.aload_n 3, 1) := by decide +kernel
theorem dX6_piece_10 : decode cX6_piece 10 = .ok (.ifnonnull 7, 3) := by decide +kernel
theorem dX6_piece_13 : decode cX6_piece 13 = .ok (.sipush (-1001), 3) := by decide +kernel
theorem dX6_piece_16 : decode cX6_piece 16 = .ok (.ireturn, 1) := by decide +kernel
theorem dX6_piece_17 : decode cX6_piece 17 = .ok (.iload_n 2, 1) := by decide +kernel
theorem dX6_piece_18 : decode cX6_piece 18 = .ok (.tableswitch 106 0 8 #[50, 55, 60, 65, 71, 77, 83, 88, 101], 50) := by decide +kernel
theorem dX6_piece_68 : decode cX6_piece 68 = .ok (.aload_n 3, 1) := by decide +kernel
theorem dX6_piece_69 : decode cX6_piece 69 = .ok (.getfield 130, 3) := by decide +kernel
theorem dX6_piece_72 : decode cX6_piece 72 = .ok (.ireturn, 1) := by decide +kernel
theorem dX6_piece_73 : decode cX6_piece 73 = .ok (.aload_n 3, 1) := by decide +kernel
theorem dX6_piece_74 : decode cX6_piece 74 = .ok (.getfield 143, 3) := by decide +kernel
theorem dX6_piece_77 : decode cX6_piece 77 = .ok (.ireturn, 1) := by decide +kernel
theorem dX6_piece_78 : decode cX6_piece 78 = .ok (.aload_n 3, 1) := by decide +kernel
theorem dX6_piece_79 : decode cX6_piece 79 = .ok (.invokevirtual 123, 3) := by decide +kernel
theorem dX6_piece_82 : decode cX6_piece 82 = .ok (.ireturn, 1) := by decide +kernel
theorem dX6_piece_83 : decode cX6_piece 83 = .ok (.aload_n 3, 1) := by decide +kernel
theorem dX6_piece_84 : decode cX6_piece 84 = .ok (.iconst 1, 1) := by decide +kernel
theorem dX6_piece_85 : decode cX6_piece 85 = .ok (.invokevirtual 126, 3) := by decide +kernel
theorem dX6_piece_88 : decode cX6_piece 88 = .ok (.ireturn, 1) := by decide +kernel
theorem dX6_piece_89 : decode cX6_piece 89 = .ok (.aload_n 3, 1) := by decide +kernel
theorem dX6_piece_90 : decode cX6_piece 90 = .ok (.iconst 2, 1) := by decide +kernel
theorem dX6_piece_91 : decode cX6_piece 91 = .ok (.invokevirtual 126, 3) := by decide +kernel
theorem dX6_piece_94 : decode cX6_piece 94 = .ok (.ireturn, 1) := by decide +kernel
theorem dX6_piece_95 : decode cX6_piece 95 = .ok (.aload_n 3, 1) := by decide +kernel
theorem dX6_piece_96 : decode cX6_piece 96 = .ok (.iconst 0, 1) := by decide +kernel
theorem dX6_piece_97 : decode cX6_piece 97 = .ok (.invokevirtual 126, 3) := by decide +kernel
theorem dX6_piece_100 : decode cX6_piece 100 = .ok (.ireturn, 1) := by decide +kernel
theorem dX6_piece_101 : decode cX6_piece 101 = .ok (.aload_n 3, 1) := by decide +kernel
theorem dX6_piece_102 : decode cX6_piece 102 = .ok (.invokevirtual 175, 3) := by decide +kernel
theorem dX6_piece_105 : decode cX6_piece 105 = .ok (.ireturn, 1) := by decide +kernel
theorem dX6_piece_106 : decode cX6_piece 106 = .ok (.aload_n 3, 1) := by decide +kernel
theorem dX6_piece_107 : decode cX6_piece 107 = .ok (.getfield 104, 3) := by decide +kernel
theorem dX6_piece_110 : decode cX6_piece 110 = .ok (.ifCond .eq 7, 3) := by decide +kernel
theorem dX6_piece_113 : decode cX6_piece 113 = .ok (.iconst 1, 1) := by decide +kernel
theorem dX6_piece_114 : decode cX6_piece 114 = .ok (.goto 4, 3) := by decide +kernel
theorem dX6_piece_117 : decode cX6_piece 117 = .ok (.iconst 0, 1) := by decide +kernel
theorem dX6_piece_118 : decode cX6_piece 118 = .ok (.ireturn, 1) := by decide +kernel
theorem dX6_piece_119 : decode cX6_piece 119 = .ok (.aload_n 3, 1) := by decide +kernel
theorem dX6_piece_120 : decode cX6_piece 120 = .ok (.invokevirtual 170, 3) := by decide +kernel
theorem dX6_piece_123 : decode cX6_piece 123 = .ok (.ireturn, 1) := by decide +kernel
theorem dX6_piece_124 : decode cX6_piece 124 = .ok (.sipush (-1002), 3) := by decide +kernel
theorem dX6_piece_127 : decode cX6_piece 127 = .ok (.ireturn, 1) := by decide +kernel
theorem dX6_place_0 : decode cX6_place 0 = .ok (.aload_n 0, 1) := by decide +kernel
theorem dX6_place_1 : decode cX6_place 1 = .ok (.getfield 10, 3) := by decide +kernel
theorem dX6_place_4 : decode cX6_place 4 = .ok (.iload_n 1, 1) := by decide +kernel
theorem dX6_place_5 : decode cX6_place 5 = .ok (.invokevirtual 94, 3) := by decide +kernel
theorem dX6_place_8 : decode cX6_place 8 = .ok (.astore_n 3, 1) := by decide +kernel
theorem dX6_place_9 : decode cX6_place 9 = .ok (.aload_n 3, 1) := by decide +kernel
theorem dX6_place_10 : decode cX6_place 10 = .ok (.ifnonnull 7, 3) := by decide +kernel
theorem dX6_place_13 : decode cX6_place 13 = .ok (.sipush (-1001), 3) := by decide +kernel
theorem dX6_place_16 : decode cX6_place 16 = .ok (.ireturn, 1) := by decide +kernel
theorem dX6_place_17 : decode cX6_place 17 = .ok (.aload_n 3, 1) := by decide +kernel
theorem dX6_place_18 : decode cX6_place 18 = .ok (.getfield 130, 3) := by decide +kernel
theorem dX6_place_21 : decode cX6_place 21 = .ok (.ifCond .eq 7, 3) := by decide +kernel
theorem dX6_place_24 : decode cX6_place 24 = .ok (.sipush (-1002), 3) := by decide +kernel
theorem dX6_place_27 : decode cX6_place 27 = .ok (.ireturn, 1) := by decide +kernel
theorem dX6_place_28 : decode cX6_place 28 = .ok (.iload_n 2, 1) := by decide +kernel
theorem dX6_place_29 : decode cX6_place 29 = .ok (.ifCond .lt 11, 3) := by decide +kernel
theorem dX6_place_32 : decode cX6_place 32 = .ok (.iload_n 2, 1) := by decide +kernel
theorem dX6_place_33 : decode cX6_place 33 = .ok (.aload_n 3, 1) := by decide +kernel
theorem dX6_place_34 : decode cX6_place 34 = .ok (.getfield 143, 3) := by decide +kernel
theorem dX6_place_37 : decode cX6_place 37 = .ok (.if_icmp .le 7, 3) := by decide +kernel
theorem dX6_place_40 : decode cX6_place 40 = .ok (.sipush (-1001), 3) := by decide +kernel
theorem dX6_place_43 : decode cX6_place 43 = .ok (.ireturn, 1) := by decide +kernel
theorem dX6_place_44 : decode cX6_place 44 = .ok (.aload_n 3, 1) := by decide +kernel
theorem dX6_place_45 : decode cX6_place 45 = .ok (.iload_n 2, 1) := by decide +kernel
theorem dX6_place_46 : decode cX6_place 46 = .ok (.invokevirtual 203, 3) := by decide +kernel
theorem dX6_place_49 : decode cX6_place 49 = .ok (.ireturn, 1) := by decide +kernel
theorem dX6_put_0 : decode cX6_put 0 = .ok (.iload_n 1, 1) := by decide +kernel
theorem dX6_put_1 : decode cX6_put 1 = .ok (.ifCond .lt 13, 3) := by decide +kernel
theorem dX6_put_4 : decode cX6_put 4 = .ok (.iload_n 1, 1) := by decide +kernel
theorem dX6_put_5 : decode cX6_put 5 = .ok (.aload_n 0, 1) := by decide +kernel
theorem dX6_put_6 : decode cX6_put 6 = .ok (.arraylength, 1) := by decide +kernel
theorem dX6_put_7 : decode cX6_put 7 = .ok (.if_icmp .ge 7, 3) := by decide +kernel
theorem dX6_put_10 : decode cX6_put 10 = .ok (.aload_n 0, 1) := by decide +kernel
theorem dX6_put_11 : decode cX6_put 11 = .ok (.iload_n 1, 1) := by decide +kernel
theorem dX6_put_12 : decode cX6_put 12 = .ok (.iload_n 2, 1) := by decide +kernel
theorem dX6_put_13 : decode cX6_put 13 = .ok (.iastore, 1) := by decide +kernel
theorem dX6_put_14 : decode cX6_put 14 = .ok (.return_, 1) := by decide +kernel
theorem dX6_read_0 : decode cX6_read 0 = .ok (.aload_n 0, 1) := by decide +kernel
theorem dX6_read_1 : decode cX6_read 1 = .ok (.getfield 32, 3) := by decide +kernel
theorem dX6_read_4 : decode cX6_read 4 = .ok (.invokevirtual 222, 3) := by decide +kernel
theorem dX6_read_7 : decode cX6_read 7 = .ok (.istore_n 1, 1) := by decide +kernel
theorem dX6_read_8 : decode cX6_read 8 = .ok (.iload_n 1, 1) := by decide +kernel
theorem dX6_read_9 : decode cX6_read 9 = .ok (.sipush (-1004), 3) := by decide +kernel
theorem dX6_read_12 : decode cX6_read 12 = .ok (.if_icmp .eq 16, 3) := by decide +kernel
theorem dX6_read_15 : decode cX6_read 15 = .ok (.aload_n 0, 1) := by decide +kernel
theorem dX6_read_16 : decode cX6_read 16 = .ok (.getfield 32, 3) := by decide +kernel
theorem dX6_read_19 : decode cX6_read 19 = .ok (.invokevirtual 225, 3) := by decide +kernel
theorem dX6_read_22 : decode cX6_read 22 = .ok (.sipush (-2000), 3) := by decide +kernel
theorem dX6_read_25 : decode cX6_read 25 = .ok (.iload_n 1, 1) := by decide +kernel
theorem dX6_read_26 : decode cX6_read 26 = .ok (.isub, 1) := by decide +kernel
theorem dX6_read_27 : decode cX6_read 27 = .ok (.ireturn, 1) := by decide +kernel
theorem dX6_read_28 : decode cX6_read 28 = .ok (.aload_n 0, 1) := by decide +kernel
theorem dX6_read_29 : decode cX6_read 29 = .ok (.getfield 16, 3) := by decide +kernel
theorem dX6_read_32 : decode cX6_read 32 = .ok (.aload_n 0, 1) := by decide +kernel
theorem dX6_read_33 : decode cX6_read 33 = .ok (.getfield 10, 3) := by decide +kernel
theorem dX6_read_36 : decode cX6_read 36 = .ok (.invokevirtual 228, 3) := by decide +kernel
theorem dX6_read_39 : decode cX6_read 39 = .ok (.aload_n 0, 1) := by decide +kernel
theorem dX6_read_40 : decode cX6_read 40 = .ok (.getfield 25, 3) := by decide +kernel
theorem dX6_read_43 : decode cX6_read 43 = .ok (.iconst 1, 1) := by decide +kernel
theorem dX6_read_44 : decode cX6_read 44 = .ok (.putfield 230, 3) := by decide +kernel
theorem dX6_read_47 : decode cX6_read 47 = .ok (.aload_n 0, 1) := by decide +kernel
theorem dX6_read_48 : decode cX6_read 48 = .ok (.getfield 32, 3) := by decide +kernel
theorem dX6_read_51 : decode cX6_read 51 = .ok (.invokevirtual 233, 3) := by decide +kernel
theorem dX6_read_54 : decode cX6_read 54 = .ok (.iconst 0, 1) := by decide +kernel
theorem dX6_read_55 : decode cX6_read 55 = .ok (.istore_n 2, 1) := by decide +kernel
theorem dX6_read_56 : decode cX6_read 56 = .ok (.iconst 0, 1) := by decide +kernel
theorem dX6_read_57 : decode cX6_read 57 = .ok (.istore_n 3, 1) := by decide +kernel
theorem dX6_read_58 : decode cX6_read 58 = .ok (.iload_n 2, 1) := by decide +kernel
theorem dX6_read_59 : decode cX6_read 59 = .ok (.bipush 80, 2) := by decide +kernel
theorem dX6_read_61 : decode cX6_read 61 = .ok (.if_icmp .ge 43, 3) := by decide +kernel
theorem dX6_read_64 : decode cX6_read 64 = .ok (.iload_n 3, 1) := by decide +kernel
theorem dX6_read_65 : decode cX6_read 65 = .ok (.ifCond .lt 39, 3) := by decide +kernel
theorem dX6_read_68 : decode cX6_read 68 = .ok (.aload_n 0, 1) := by decide +kernel
theorem dX6_read_69 : decode cX6_read 69 = .ok (.getfield 32, 3) := by decide +kernel
theorem dX6_read_72 : decode cX6_read 72 = .ok (.invokevirtual 236, 3) := by decide +kernel
theorem dX6_read_75 : decode cX6_read 75 = .ok (.ifCond .eq 29, 3) := by decide +kernel
theorem dX6_read_78 : decode cX6_read 78 = .ok (.aload_n 0, 1) := by decide +kernel
theorem dX6_read_79 : decode cX6_read 79 = .ok (.iload_n 2, 1) := by decide +kernel
theorem dX6_read_80 : decode cX6_read 80 = .ok (.putfield 57, 3) := by decide +kernel
theorem dX6_read_83 : decode cX6_read 83 = .ok (.aload_n 0, 1) := by decide +kernel
theorem dX6_read_84 : decode cX6_read 84 = .ok (.invokevirtual 239, 3) := by decide +kernel
theorem dX6_read_87 : decode cX6_read 87 = .ok (.istore_n 3, 1) := by decide +kernel
theorem dX6_read_88 : decode cX6_read 88 = .ok (.iinc 2 1, 3) := by decide +kernel
theorem dX6_read_91 : decode cX6_read 91 = .ok (.aload_n 0, 1) := by decide +kernel
theorem dX6_read_92 : decode cX6_read 92 = .ok (.getfield 32, 3) := by decide +kernel
theorem dX6_read_95 : decode cX6_read 95 = .ok (.bipush 59, 2) := by decide +kernel
theorem dX6_read_97 : decode cX6_read 97 = .ok (.invokevirtual 242, 3) := by decide +kernel
theorem dX6_read_100 : decode cX6_read 100 = .ok (.pop, 1) := by decide +kernel
theorem dX6_read_101 : decode cX6_read 101 = .ok (.goto (-43), 3) := by decide +kernel
theorem dX6_read_104 : decode cX6_read 104 = .ok (.aload_n 0, 1) := by decide +kernel
theorem dX6_read_105 : decode cX6_read 105 = .ok (.sipush (-1004), 3) := by decide +kernel
theorem dX6_read_108 : decode cX6_read 108 = .ok (.putfield 57, 3) := by decide +kernel
theorem dX6_read_111 : decode cX6_read 111 = .ok (.aload_n 0, 1) := by decide +kernel
theorem dX6_read_112 : decode cX6_read 112 = .ok (.getfield 25, 3) := by decide +kernel
theorem dX6_read_115 : decode cX6_read 115 = .ok (.iconst 0, 1) := by decide +kernel
theorem dX6_read_116 : decode cX6_read 116 = .ok (.putfield 230, 3) := by decide +kernel
theorem dX6_read_119 : decode cX6_read 119 = .ok (.aload_n 0, 1) := by decide +kernel
theorem dX6_read_120 : decode cX6_read 120 = .ok (.getfield 32, 3) := by decide +kernel
theorem dX6_read_123 : decode cX6_read 123 = .ok (.invokevirtual 225, 3) := by decide +kernel
theorem dX6_read_126 : decode cX6_read 126 = .ok (.iload_n 3, 1) := by decide +kernel
theorem dX6_read_127 : decode cX6_read 127 = .ok (.ifCond .ge 31, 3) := by decide +kernel
theorem dX6_read_130 : decode cX6_read 130 = .ok (.aload_n 0, 1) := by decide +kernel
theorem dX6_read_131 : decode cX6_read 131 = .ok (.getfield 10, 3) := by decide +kernel
theorem dX6_read_134 : decode cX6_read 134 = .ok (.aload_n 0, 1) := by decide +kernel
theorem dX6_read_135 : decode cX6_read 135 = .ok (.getfield 16, 3) := by decide +kernel
theorem dX6_read_138 : decode cX6_read 138 = .ok (.invokevirtual 228, 3) := by decide +kernel
theorem dX6_read_141 : decode cX6_read 141 = .ok (.iload_n 3, 1) := by decide +kernel
theorem dX6_read_142 : decode cX6_read 142 = .ok (.sipush (-1003), 3) := by decide +kernel
theorem dX6_read_145 : decode cX6_read 145 = .ok (.if_icmp .ne 9, 3) := by decide +kernel
theorem dX6_read_148 : decode cX6_read 148 = .ok (.sipush (-1003), 3) := by decide +kernel
theorem dX6_read_151 : decode cX6_read 151 = .ok (.goto 6, 3) := by decide +kernel
theorem dX6_read_154 : decode cX6_read 154 = .ok (.sipush (-1002), 3) := by decide +kernel
theorem dX6_read_157 : decode cX6_read 157 = .ok (.ireturn, 1) := by decide +kernel
theorem dX6_read_158 : decode cX6_read 158 = .ok (.aload_n 0, 1) := by decide +kernel
theorem dX6_read_159 : decode cX6_read 159 = .ok (.getfield 25, 3) := by decide +kernel
theorem dX6_read_162 : decode cX6_read 162 = .ok (.aload_n 0, 1) := by decide +kernel
theorem dX6_read_163 : decode cX6_read 163 = .ok (.getfield 16, 3) := by decide +kernel
theorem dX6_read_166 : decode cX6_read 166 = .ok (.invokevirtual 72, 3) := by decide +kernel
theorem dX6_read_169 : decode cX6_read 169 = .ok (.iload_n 2, 1) := by decide +kernel
theorem dX6_read_170 : decode cX6_read 170 = .ok (.ireturn, 1) := by decide +kernel
theorem dX6_reflected_0 : decode cX6_reflected 0 = .ok (.aload_n 0, 1) := by decide +kernel
theorem dX6_reflected_1 : decode cX6_reflected 1 = .ok (.getfield 10, 3) := by decide +kernel
theorem dX6_reflected_4 : decode cX6_reflected 4 = .ok (.iload_n 1, 1) := by decide +kernel
theorem dX6_reflected_5 : decode cX6_reflected 5 = .ok (.invokevirtual 94, 3) := by decide +kernel
theorem dX6_reflected_8 : decode cX6_reflected 8 = .ok (.astore_n 2, 1) := by decide +kernel
theorem dX6_reflected_9 : decode cX6_reflected 9 = .ok (.aload_n 2, 1) := by decide +kernel
theorem dX6_reflected_10 : decode cX6_reflected 10 = .ok (.ifnonnull 7, 3) := by decide +kernel
theorem dX6_reflected_13 : decode cX6_reflected 13 = .ok (.sipush (-1001), 3) := by decide +kernel
theorem dX6_reflected_16 : decode cX6_reflected 16 = .ok (.ireturn, 1) := by decide +kernel
theorem dX6_reflected_17 : decode cX6_reflected 17 = .ok (.aload_n 2, 1) := by decide +kernel
theorem dX6_reflected_18 : decode cX6_reflected 18 = .ok (.getfield 130, 3) := by decide +kernel
theorem dX6_reflected_21 : decode cX6_reflected 21 = .ok (.iconst 1, 1) := by decide +kernel
theorem dX6_reflected_22 : decode cX6_reflected 22 = .ok (.if_icmp .eq 9, 3) := by decide +kernel
theorem dX6_reflected_25 : decode cX6_reflected 25 = .ok (.sipush (-1002), 3) := by decide +kernel
theorem dX6_reflected_28 : decode cX6_reflected 28 = .ok (.goto 7, 3) := by decide +kernel
theorem dX6_reflected_31 : decode cX6_reflected 31 = .ok (.aload_n 2, 1) := by decide +kernel
theorem dX6_reflected_32 : decode cX6_reflected 32 = .ok (.invokevirtual 213, 3) := by decide +kernel
theorem dX6_reflected_35 : decode cX6_reflected 35 = .ok (.ireturn, 1) := by decide +kernel
theorem dX6_refusal_0 : decode cX6_refusal 0 = .ok (.iload_n 1, 1) := by decide +kernel
theorem dX6_refusal_1 : decode cX6_refusal 1 = .ok (.ifCond .lt 8, 3) := by decide +kernel
theorem dX6_refusal_4 : decode cX6_refusal 4 = .ok (.iload_n 1, 1) := by decide +kernel
theorem dX6_refusal_5 : decode cX6_refusal 5 = .ok (.iconst 2, 1) := by decide +kernel
theorem dX6_refusal_6 : decode cX6_refusal 6 = .ok (.if_icmp .le 7, 3) := by decide +kernel
theorem dX6_refusal_9 : decode cX6_refusal 9 = .ok (.sipush (-1002), 3) := by decide +kernel
theorem dX6_refusal_12 : decode cX6_refusal 12 = .ok (.ireturn, 1) := by decide +kernel
theorem dX6_refusal_13 : decode cX6_refusal 13 = .ok (.aload_n 0, 1) := by decide +kernel
theorem dX6_refusal_14 : decode cX6_refusal 14 = .ok (.getfield 246, 3) := by decide +kernel
theorem dX6_refusal_17 : decode cX6_refusal 17 = .ok (.ifCond .ne 7, 3) := by decide +kernel
theorem dX6_refusal_20 : decode cX6_refusal 20 = .ok (.sipush (-1004), 3) := by decide +kernel
theorem dX6_refusal_23 : decode cX6_refusal 23 = .ok (.ireturn, 1) := by decide +kernel
theorem dX6_refusal_24 : decode cX6_refusal 24 = .ok (.iload_n 1, 1) := by decide +kernel
theorem dX6_refusal_25 : decode cX6_refusal 25 = .ok (.ifCond .ne 8, 3) := by decide +kernel
theorem dX6_refusal_28 : decode cX6_refusal 28 = .ok (.aload_n 0, 1) := by decide +kernel
theorem dX6_refusal_29 : decode cX6_refusal 29 = .ok (.getfield 246, 3) := by decide +kernel
theorem dX6_refusal_32 : decode cX6_refusal 32 = .ok (.ireturn, 1) := by decide +kernel
theorem dX6_refusal_33 : decode cX6_refusal 33 = .ok (.iload_n 1, 1) := by decide +kernel
theorem dX6_refusal_34 : decode cX6_refusal 34 = .ok (.iconst 1, 1) := by decide +kernel
theorem dX6_refusal_35 : decode cX6_refusal 35 = .ok (.if_icmp .ne 10, 3) := by decide +kernel
theorem dX6_refusal_38 : decode cX6_refusal 38 = .ok (.aload_n 0, 1) := by decide +kernel
theorem dX6_refusal_39 : decode cX6_refusal 39 = .ok (.getfield 249, 3) := by decide +kernel
theorem dX6_refusal_42 : decode cX6_refusal 42 = .ok (.goto 7, 3) := by decide +kernel
theorem dX6_refusal_45 : decode cX6_refusal 45 = .ok (.aload_n 0, 1) := by decide +kernel
theorem dX6_refusal_46 : decode cX6_refusal 46 = .ok (.getfield 61, 3) := by decide +kernel
theorem dX6_refusal_49 : decode cX6_refusal 49 = .ok (.ireturn, 1) := by decide +kernel
theorem dX6_refuse_0 : decode cX6_refuse 0 = .ok (.aload_n 0, 1) := by decide +kernel
theorem dX6_refuse_1 : decode cX6_refuse 1 = .ok (.iload_n 1, 1) := by decide +kernel
theorem dX6_refuse_2 : decode cX6_refuse 2 = .ok (.putfield 246, 3) := by decide +kernel
theorem dX6_refuse_5 : decode cX6_refuse 5 = .ok (.aload_n 0, 1) := by decide +kernel
theorem dX6_refuse_6 : decode cX6_refuse 6 = .ok (.iload_n 2, 1) := by decide +kernel
theorem dX6_refuse_7 : decode cX6_refuse 7 = .ok (.putfield 249, 3) := by decide +kernel
theorem dX6_refuse_10 : decode cX6_refuse 10 = .ok (.aload_n 0, 1) := by decide +kernel
theorem dX6_refuse_11 : decode cX6_refuse 11 = .ok (.aload_n 0, 1) := by decide +kernel
theorem dX6_refuse_12 : decode cX6_refuse 12 = .ok (.getfield 57, 3) := by decide +kernel
theorem dX6_refuse_15 : decode cX6_refuse 15 = .ok (.putfield 61, 3) := by decide +kernel
theorem dX6_refuse_18 : decode cX6_refuse 18 = .ok (.sipush (-1003), 3) := by decide +kernel
theorem dX6_refuse_21 : decode cX6_refuse 21 = .ok (.ireturn, 1) := by decide +kernel
theorem dX6_restore_0 : decode cX6_restore 0 = .ok (.aload_n 0, 1) := by decide +kernel
theorem dX6_restore_1 : decode cX6_restore 1 = .ok (.getfield 272, 3) := by decide +kernel
theorem dX6_restore_4 : decode cX6_restore 4 = .ok (.ifCond .ne 7, 3) := by decide +kernel
theorem dX6_restore_7 : decode cX6_restore 7 = .ok (.sipush (-1004), 3) := by decide +kernel
theorem dX6_restore_10 : decode cX6_restore 10 = .ok (.ireturn, 1) := by decide +kernel
theorem dX6_restore_11 : decode cX6_restore 11 = .ok (.aload_n 0, 1) := by decide +kernel
theorem dX6_restore_12 : decode cX6_restore 12 = .ok (.getfield 10, 3) := by decide +kernel
theorem dX6_restore_15 : decode cX6_restore 15 = .ok (.aload_n 0, 1) := by decide +kernel
theorem dX6_restore_16 : decode cX6_restore 16 = .ok (.getfield 19, 3) := by decide +kernel
theorem dX6_restore_19 : decode cX6_restore 19 = .ok (.invokevirtual 228, 3) := by decide +kernel
theorem dX6_restore_22 : decode cX6_restore 22 = .ok (.aload_n 0, 1) := by decide +kernel
theorem dX6_restore_23 : decode cX6_restore 23 = .ok (.getfield 25, 3) := by decide +kernel
theorem dX6_restore_26 : decode cX6_restore 26 = .ok (.invokevirtual 275, 3) := by decide +kernel
theorem dX6_restore_29 : decode cX6_restore 29 = .ok (.aload_n 0, 1) := by decide +kernel
theorem dX6_restore_30 : decode cX6_restore 30 = .ok (.getfield 10, 3) := by decide +kernel
theorem dX6_restore_33 : decode cX6_restore 33 = .ok (.getfield 87, 3) := by decide +kernel
theorem dX6_restore_36 : decode cX6_restore 36 = .ok (.ireturn, 1) := by decide +kernel
theorem dX6_rotate_0 : decode cX6_rotate 0 = .ok (.aload_n 0, 1) := by decide +kernel
theorem dX6_rotate_1 : decode cX6_rotate 1 = .ok (.getfield 10, 3) := by decide +kernel
theorem dX6_rotate_4 : decode cX6_rotate 4 = .ok (.iload_n 1, 1) := by decide +kernel
theorem dX6_rotate_5 : decode cX6_rotate 5 = .ok (.invokevirtual 94, 3) := by decide +kernel
theorem dX6_rotate_8 : decode cX6_rotate 8 = .ok (.astore_n 3, 1) := by decide +kernel
theorem dX6_rotate_9 : decode cX6_rotate 9 = .ok (.aload_n 3, 1) := by decide +kernel
theorem dX6_rotate_10 : decode cX6_rotate 10 = .ok (.ifnull 11, 3) := by decide +kernel
theorem dX6_rotate_13 : decode cX6_rotate 13 = .ok (.aload_n 3, 1) := by decide +kernel
theorem dX6_rotate_14 : decode cX6_rotate 14 = .ok (.iload_n 2, 1) := by decide +kernel
theorem dX6_rotate_15 : decode cX6_rotate 15 = .ok (.invokevirtual 98, 3) := by decide +kernel
theorem dX6_rotate_18 : decode cX6_rotate 18 = .ok (.ifCond .ne 7, 3) := by decide +kernel
theorem dX6_rotate_21 : decode cX6_rotate 21 = .ok (.sipush (-1001), 3) := by decide +kernel
theorem dX6_rotate_24 : decode cX6_rotate 24 = .ok (.ireturn, 1) := by decide +kernel
theorem dX6_rotate_25 : decode cX6_rotate 25 = .ok (.aload_n 3, 1) := by decide +kernel
theorem dX6_rotate_26 : decode cX6_rotate 26 = .ok (.getfield 104, 3) := by decide +kernel
theorem dX6_rotate_29 : decode cX6_rotate 29 = .ok (.ifCond .eq 10, 3) := by decide +kernel
theorem dX6_rotate_32 : decode cX6_rotate 32 = .ok (.aload_n 0, 1) := by decide +kernel
theorem dX6_rotate_33 : decode cX6_rotate 33 = .ok (.iconst 2, 1) := by decide +kernel
theorem dX6_rotate_34 : decode cX6_rotate 34 = .ok (.iload_n 1, 1) := by decide +kernel
theorem dX6_rotate_35 : decode cX6_rotate 35 = .ok (.invokevirtual 68, 3) := by decide +kernel
theorem dX6_rotate_38 : decode cX6_rotate 38 = .ok (.ireturn, 1) := by decide +kernel
theorem dX6_rotate_39 : decode cX6_rotate 39 = .ok (.aload_n 3, 1) := by decide +kernel
theorem dX6_rotate_40 : decode cX6_rotate 40 = .ok (.getfield 130, 3) := by decide +kernel
theorem dX6_rotate_43 : decode cX6_rotate 43 = .ok (.iconst 1, 1) := by decide +kernel
theorem dX6_rotate_44 : decode cX6_rotate 44 = .ok (.if_icmp .eq 10, 3) := by decide +kernel
theorem dX6_rotate_47 : decode cX6_rotate 47 = .ok (.aload_n 0, 1) := by decide +kernel
theorem dX6_rotate_48 : decode cX6_rotate 48 = .ok (.iconst 3, 1) := by decide +kernel
theorem dX6_rotate_49 : decode cX6_rotate 49 = .ok (.iload_n 1, 1) := by decide +kernel
theorem dX6_rotate_50 : decode cX6_rotate 50 = .ok (.invokevirtual 68, 3) := by decide +kernel
theorem dX6_rotate_53 : decode cX6_rotate 53 = .ok (.ireturn, 1) := by decide +kernel
theorem dX6_rotate_54 : decode cX6_rotate 54 = .ok (.aload_n 0, 1) := by decide +kernel
theorem dX6_rotate_55 : decode cX6_rotate 55 = .ok (.getfield 25, 3) := by decide +kernel
theorem dX6_rotate_58 : decode cX6_rotate 58 = .ok (.aload_n 0, 1) := by decide +kernel
theorem dX6_rotate_59 : decode cX6_rotate 59 = .ok (.getfield 10, 3) := by decide +kernel
theorem dX6_rotate_62 : decode cX6_rotate 62 = .ok (.invokevirtual 72, 3) := by decide +kernel
theorem dX6_rotate_65 : decode cX6_rotate 65 = .ok (.aload_n 0, 1) := by decide +kernel
theorem dX6_rotate_66 : decode cX6_rotate 66 = .ok (.getfield 53, 3) := by decide +kernel
theorem dX6_rotate_69 : decode cX6_rotate 69 = .ok (.aload_n 3, 1) := by decide +kernel
theorem dX6_rotate_70 : decode cX6_rotate 70 = .ok (.invokevirtual 133, 3) := by decide +kernel
theorem dX6_rotate_73 : decode cX6_rotate 73 = .ok (.aload_n 3, 1) := by decide +kernel
theorem dX6_rotate_74 : decode cX6_rotate 74 = .ok (.aload_n 0, 1) := by decide +kernel
theorem dX6_rotate_75 : decode cX6_rotate 75 = .ok (.getfield 53, 3) := by decide +kernel
theorem dX6_rotate_78 : decode cX6_rotate 78 = .ok (.iload_n 2, 1) := by decide +kernel
theorem dX6_rotate_79 : decode cX6_rotate 79 = .ok (.invokevirtual 136, 3) := by decide +kernel
theorem dX6_rotate_82 : decode cX6_rotate 82 = .ok (.aload_n 3, 1) := by decide +kernel
theorem dX6_rotate_83 : decode cX6_rotate 83 = .ok (.invokevirtual 140, 3) := by decide +kernel
theorem dX6_rotate_86 : decode cX6_rotate 86 = .ok (.ireturn, 1) := by decide +kernel
theorem dX6_save_0 : decode cX6_save 0 = .ok (.aload_n 0, 1) := by decide +kernel
theorem dX6_save_1 : decode cX6_save 1 = .ok (.getfield 19, 3) := by decide +kernel
theorem dX6_save_4 : decode cX6_save 4 = .ok (.aload_n 0, 1) := by decide +kernel
theorem dX6_save_5 : decode cX6_save 5 = .ok (.getfield 10, 3) := by decide +kernel
theorem dX6_save_8 : decode cX6_save 8 = .ok (.invokevirtual 228, 3) := by decide +kernel
theorem dX6_save_11 : decode cX6_save 11 = .ok (.aload_n 0, 1) := by decide +kernel
theorem dX6_save_12 : decode cX6_save 12 = .ok (.iconst 1, 1) := by decide +kernel
theorem dX6_save_13 : decode cX6_save 13 = .ok (.putfield 272, 3) := by decide +kernel
theorem dX6_save_16 : decode cX6_save 16 = .ok (.aload_n 0, 1) := by decide +kernel
theorem dX6_save_17 : decode cX6_save 17 = .ok (.getfield 10, 3) := by decide +kernel
theorem dX6_save_20 : decode cX6_save 20 = .ok (.getfield 87, 3) := by decide +kernel
theorem dX6_save_23 : decode cX6_save 23 = .ok (.ireturn, 1) := by decide +kernel
theorem dX6_share_0 : decode cX6_share 0 = .ok (.aload_n 0, 1) := by decide +kernel
theorem dX6_share_1 : decode cX6_share 1 = .ok (.getfield 10, 3) := by decide +kernel
theorem dX6_share_4 : decode cX6_share 4 = .ok (.iconst 1, 1) := by decide +kernel
theorem dX6_share_5 : decode cX6_share 5 = .ok (.invokevirtual 261, 3) := by decide +kernel
theorem dX6_share_8 : decode cX6_share 8 = .ok (.aload_n 0, 1) := by decide +kernel
theorem dX6_share_9 : decode cX6_share 9 = .ok (.getfield 10, 3) := by decide +kernel
theorem dX6_share_12 : decode cX6_share 12 = .ok (.iconst 2, 1) := by decide +kernel
theorem dX6_share_13 : decode cX6_share 13 = .ok (.invokevirtual 261, 3) := by decide +kernel
theorem dX6_share_16 : decode cX6_share 16 = .ok (.iadd, 1) := by decide +kernel
theorem dX6_share_17 : decode cX6_share 17 = .ok (.istore_n 1, 1) := by decide +kernel
theorem dX6_share_18 : decode cX6_share 18 = .ok (.iload_n 1, 1) := by decide +kernel
theorem dX6_share_19 : decode cX6_share 19 = .ok (.aload_n 0, 1) := by decide +kernel
theorem dX6_share_20 : decode cX6_share 20 = .ok (.getfield 10, 3) := by decide +kernel
theorem dX6_share_23 : decode cX6_share 23 = .ok (.iconst 0, 1) := by decide +kernel
theorem dX6_share_24 : decode cX6_share 24 = .ok (.invokevirtual 261, 3) := by decide +kernel
theorem dX6_share_27 : decode cX6_share 27 = .ok (.iadd, 1) := by decide +kernel
theorem dX6_share_28 : decode cX6_share 28 = .ok (.istore_n 2, 1) := by decide +kernel
theorem dX6_share_29 : decode cX6_share 29 = .ok (.iload_n 2, 1) := by decide +kernel
theorem dX6_share_30 : decode cX6_share 30 = .ok (.ifCond .gt 7, 3) := by decide +kernel
theorem dX6_share_33 : decode cX6_share 33 = .ok (.sipush (-1004), 3) := by decide +kernel
theorem dX6_share_36 : decode cX6_share 36 = .ok (.ireturn, 1) := by decide +kernel
theorem dX6_share_37 : decode cX6_share 37 = .ok (.iload_n 1, 1) := by decide +kernel
theorem dX6_share_38 : decode cX6_share 38 = .ok (.i2f, 1) := by decide +kernel
theorem dX6_share_39 : decode cX6_share 39 = .ok (.iload_n 2, 1) := by decide +kernel
theorem dX6_share_40 : decode cX6_share 40 = .ok (.i2f, 1) := by decide +kernel
theorem dX6_share_41 : decode cX6_share 41 = .ok (.fdiv, 1) := by decide +kernel
theorem dX6_share_42 : decode cX6_share 42 = .ok (.invokestatic 265, 3) := by decide +kernel
theorem dX6_share_45 : decode cX6_share 45 = .ok (.ireturn, 1) := by decide +kernel
theorem dX6_size_0 : decode cX6_size 0 = .ok (.aload_n 0, 1) := by decide +kernel
theorem dX6_size_1 : decode cX6_size 1 = .ok (.getfield 10, 3) := by decide +kernel
theorem dX6_size_4 : decode cX6_size 4 = .ok (.iload_n 1, 1) := by decide +kernel
theorem dX6_size_5 : decode cX6_size 5 = .ok (.invokevirtual 94, 3) := by decide +kernel
theorem dX6_size_8 : decode cX6_size 8 = .ok (.astore_n 3, 1) := by decide +kernel
theorem dX6_size_9 : decode cX6_size 9 = .ok (.aload_n 3, 1) := by decide +kernel
theorem dX6_size_10 : decode cX6_size 10 = .ok (.ifnull 15, 3) := by decide +kernel
theorem dX6_size_13 : decode cX6_size 13 = .ok (.iload_n 2, 1) := by decide +kernel
theorem dX6_size_14 : decode cX6_size 14 = .ok (.ifCond .lt 11, 3) := by decide +kernel
theorem dX6_size_17 : decode cX6_size 17 = .ok (.iload_n 2, 1) := by decide +kernel
theorem dX6_size_18 : decode cX6_size 18 = .ok (.aload_n 3, 1) := by decide +kernel
theorem dX6_size_19 : decode cX6_size 19 = .ok (.getfield 143, 3) := by decide +kernel
theorem dX6_size_22 : decode cX6_size 22 = .ok (.if_icmp .lt 7, 3) := by decide +kernel
theorem dX6_size_25 : decode cX6_size 25 = .ok (.sipush (-1001), 3) := by decide +kernel
theorem dX6_size_28 : decode cX6_size 28 = .ok (.ireturn, 1) := by decide +kernel
theorem dX6_size_29 : decode cX6_size 29 = .ok (.aload_n 3, 1) := by decide +kernel
theorem dX6_size_30 : decode cX6_size 30 = .ok (.getfield 178, 3) := by decide +kernel
theorem dX6_size_33 : decode cX6_size 33 = .ok (.iload_n 2, 1) := by decide +kernel
theorem dX6_size_34 : decode cX6_size 34 = .ok (.invokestatic 112, 3) := by decide +kernel
theorem dX6_size_37 : decode cX6_size 37 = .ok (.ireturn, 1) := by decide +kernel
theorem dX6_stage_0 : decode cX6_stage 0 = .ok (.iload_n 1, 1) := by decide +kernel
theorem dX6_stage_1 : decode cX6_stage 1 = .ok (.iconst 1, 1) := by decide +kernel
theorem dX6_stage_2 : decode cX6_stage 2 = .ok (.if_icmp .lt 9, 3) := by decide +kernel
theorem dX6_stage_5 : decode cX6_stage 5 = .ok (.iload_n 1, 1) := by decide +kernel
theorem dX6_stage_6 : decode cX6_stage 6 = .ok (.bipush 99, 2) := by decide +kernel
theorem dX6_stage_8 : decode cX6_stage 8 = .ok (.if_icmp .le 7, 3) := by decide +kernel
theorem dX6_stage_11 : decode cX6_stage 11 = .ok (.sipush (-1002), 3) := by decide +kernel
theorem dX6_stage_14 : decode cX6_stage 14 = .ok (.ireturn, 1) := by decide +kernel
theorem dX6_stage_15 : decode cX6_stage 15 = .ok (.aload_n 0, 1) := by decide +kernel
theorem dX6_stage_16 : decode cX6_stage 16 = .ok (.getfield 10, 3) := by decide +kernel
theorem dX6_stage_19 : decode cX6_stage 19 = .ok (.invokevirtual 64, 3) := by decide +kernel
theorem dX6_stage_22 : decode cX6_stage 22 = .ok (.iload_n 1, 1) := by decide +kernel
theorem dX6_stage_23 : decode cX6_stage 23 = .ok (.isub, 1) := by decide +kernel
theorem dX6_stage_24 : decode cX6_stage 24 = .ok (.istore_n 2, 1) := by decide +kernel
theorem dX6_stage_25 : decode cX6_stage 25 = .ok (.iload_n 2, 1) := by decide +kernel
theorem dX6_stage_26 : decode cX6_stage 26 = .ok (.ifCond .le 11, 3) := by decide +kernel
theorem dX6_stage_29 : decode cX6_stage 29 = .ok (.aload_n 0, 1) := by decide +kernel
theorem dX6_stage_30 : decode cX6_stage 30 = .ok (.bipush 7, 2) := by decide +kernel
theorem dX6_stage_32 : decode cX6_stage 32 = .ok (.iload_n 2, 1) := by decide +kernel
theorem dX6_stage_33 : decode cX6_stage 33 = .ok (.invokevirtual 68, 3) := by decide +kernel
theorem dX6_stage_36 : decode cX6_stage 36 = .ok (.ireturn, 1) := by decide +kernel
theorem dX6_stage_37 : decode cX6_stage 37 = .ok (.aload_n 0, 1) := by decide +kernel
theorem dX6_stage_38 : decode cX6_stage 38 = .ok (.getfield 25, 3) := by decide +kernel
theorem dX6_stage_41 : decode cX6_stage 41 = .ok (.aload_n 0, 1) := by decide +kernel
theorem dX6_stage_42 : decode cX6_stage 42 = .ok (.getfield 10, 3) := by decide +kernel
theorem dX6_stage_45 : decode cX6_stage 45 = .ok (.invokevirtual 72, 3) := by decide +kernel
theorem dX6_stage_48 : decode cX6_stage 48 = .ok (.aload_n 0, 1) := by decide +kernel
theorem dX6_stage_49 : decode cX6_stage 49 = .ok (.getfield 10, 3) := by decide +kernel
theorem dX6_stage_52 : decode cX6_stage 52 = .ok (.getfield 76, 3) := by decide +kernel
theorem dX6_stage_55 : decode cX6_stage 55 = .ok (.istore_n 3, 1) := by decide +kernel
theorem dX6_stage_56 : decode cX6_stage 56 = .ok (.aload_n 0, 1) := by decide +kernel
theorem dX6_stage_57 : decode cX6_stage 57 = .ok (.getfield 10, 3) := by decide +kernel
theorem dX6_stage_60 : decode cX6_stage 60 = .ok (.iload_n 1, 1) := by decide +kernel
theorem dX6_stage_61 : decode cX6_stage 61 = .ok (.putfield 76, 3) := by decide +kernel
theorem dX6_stage_64 : decode cX6_stage 64 = .ok (.iload_n 3, 1) := by decide +kernel
theorem dX6_stage_65 : decode cX6_stage 65 = .ok (.ireturn, 1) := by decide +kernel
theorem dX6_step_0 : decode cX6_step 0 = .ok (.aload_n 0, 1) := by decide +kernel
theorem dX6_step_1 : decode cX6_step 1 = .ok (.getfield 10, 3) := by decide +kernel
theorem dX6_step_4 : decode cX6_step 4 = .ok (.iload_n 1, 1) := by decide +kernel
theorem dX6_step_5 : decode cX6_step 5 = .ok (.invokevirtual 94, 3) := by decide +kernel
theorem dX6_step_8 : decode cX6_step 8 = .ok (.astore_n 2, 1) := by decide +kernel
theorem dX6_step_9 : decode cX6_step 9 = .ok (.aload_n 2, 1) := by decide +kernel
theorem dX6_step_10 : decode cX6_step 10 = .ok (.ifnonnull 7, 3) := by decide +kernel
theorem dX6_step_13 : decode cX6_step 13 = .ok (.sipush (-1001), 3) := by decide +kernel
theorem dX6_step_16 : decode cX6_step 16 = .ok (.ireturn, 1) := by decide +kernel
theorem dX6_step_17 : decode cX6_step 17 = .ok (.aload_n 2, 1) := by decide +kernel
theorem dX6_step_18 : decode cX6_step 18 = .ok (.invokevirtual 159, 3) := by decide +kernel
theorem dX6_step_21 : decode cX6_step 21 = .ok (.ifCond .eq 7, 3) := by decide +kernel
theorem dX6_step_24 : decode cX6_step 24 = .ok (.sipush (-1004), 3) := by decide +kernel
theorem dX6_step_27 : decode cX6_step 27 = .ok (.ireturn, 1) := by decide +kernel
theorem dX6_step_28 : decode cX6_step 28 = .ok (.aload_n 0, 1) := by decide +kernel
theorem dX6_step_29 : decode cX6_step 29 = .ok (.getfield 39, 3) := by decide +kernel
theorem dX6_step_32 : decode cX6_step 32 = .ok (.aload_n 2, 1) := by decide +kernel
theorem dX6_step_33 : decode cX6_step 33 = .ok (.invokevirtual 188, 3) := by decide +kernel
theorem dX6_step_36 : decode cX6_step 36 = .ok (.aload_n 0, 1) := by decide +kernel
theorem dX6_step_37 : decode cX6_step 37 = .ok (.getfield 39, 3) := by decide +kernel
theorem dX6_step_40 : decode cX6_step 40 = .ok (.invokevirtual 191, 3) := by decide +kernel
theorem dX6_step_43 : decode cX6_step 43 = .ok (.istore_n 3, 1) := by decide +kernel
theorem dX6_step_44 : decode cX6_step 44 = .ok (.iload_n 3, 1) := by decide +kernel
theorem dX6_step_45 : decode cX6_step 45 = .ok (.ifCond .ne 9, 3) := by decide +kernel
theorem dX6_step_48 : decode cX6_step 48 = .ok (.sipush (-1004), 3) := by decide +kernel
theorem dX6_step_51 : decode cX6_step 51 = .ok (.goto 4, 3) := by decide +kernel
theorem dX6_step_54 : decode cX6_step 54 = .ok (.iload_n 3, 1) := by decide +kernel
theorem dX6_step_55 : decode cX6_step 55 = .ok (.ireturn, 1) := by decide +kernel
theorem dX6_steps_0 : decode cX6_steps 0 = .ok (.aload_n 0, 1) := by decide +kernel
theorem dX6_steps_1 : decode cX6_steps 1 = .ok (.getfield 10, 3) := by decide +kernel
theorem dX6_steps_4 : decode cX6_steps 4 = .ok (.iload_n 1, 1) := by decide +kernel
theorem dX6_steps_5 : decode cX6_steps 5 = .ok (.invokevirtual 94, 3) := by decide +kernel
theorem dX6_steps_8 : decode cX6_steps 8 = .ok (.astore_n 2, 1) := by decide +kernel
theorem dX6_steps_9 : decode cX6_steps 9 = .ok (.aload_n 2, 1) := by decide +kernel
theorem dX6_steps_10 : decode cX6_steps 10 = .ok (.ifnonnull 7, 3) := by decide +kernel
theorem dX6_steps_13 : decode cX6_steps 13 = .ok (.sipush (-1001), 3) := by decide +kernel
theorem dX6_steps_16 : decode cX6_steps 16 = .ok (.ireturn, 1) := by decide +kernel
theorem dX6_steps_17 : decode cX6_steps 17 = .ok (.aload_n 2, 1) := by decide +kernel
theorem dX6_steps_18 : decode cX6_steps 18 = .ok (.invokevirtual 159, 3) := by decide +kernel
theorem dX6_steps_21 : decode cX6_steps 21 = .ok (.ifCond .eq 7, 3) := by decide +kernel
theorem dX6_steps_24 : decode cX6_steps 24 = .ok (.sipush (-1004), 3) := by decide +kernel
theorem dX6_steps_27 : decode cX6_steps 27 = .ok (.ireturn, 1) := by decide +kernel
theorem dX6_steps_28 : decode cX6_steps 28 = .ok (.aload_n 0, 1) := by decide +kernel
theorem dX6_steps_29 : decode cX6_steps 29 = .ok (.getfield 39, 3) := by decide +kernel
theorem dX6_steps_32 : decode cX6_steps 32 = .ok (.aload_n 2, 1) := by decide +kernel
theorem dX6_steps_33 : decode cX6_steps 33 = .ok (.invokevirtual 188, 3) := by decide +kernel
theorem dX6_steps_36 : decode cX6_steps 36 = .ok (.aload_n 0, 1) := by decide +kernel
theorem dX6_steps_37 : decode cX6_steps 37 = .ok (.getfield 39, 3) := by decide +kernel
theorem dX6_steps_40 : decode cX6_steps 40 = .ok (.invokevirtual 194, 3) := by decide +kernel
theorem dX6_steps_43 : decode cX6_steps 43 = .ok (.ireturn, 1) := by decide +kernel
theorem dX6_takeOut_0 : decode cX6_takeOut 0 = .ok (.iload_n 1, 1) := by decide +kernel
theorem dX6_takeOut_1 : decode cX6_takeOut 1 = .ok (.istore_n 2, 1) := by decide +kernel
theorem dX6_takeOut_2 : decode cX6_takeOut 2 = .ok (.iload_n 2, 1) := by decide +kernel
theorem dX6_takeOut_3 : decode cX6_takeOut 3 = .ok (.ifCond .lt 25, 3) := by decide +kernel
theorem dX6_takeOut_6 : decode cX6_takeOut 6 = .ok (.iload_n 2, 1) := by decide +kernel
theorem dX6_takeOut_7 : decode cX6_takeOut 7 = .ok (.aload_n 0, 1) := by decide +kernel
theorem dX6_takeOut_8 : decode cX6_takeOut 8 = .ok (.arraylength, 1) := by decide +kernel
theorem dX6_takeOut_9 : decode cX6_takeOut 9 = .ok (.iconst 1, 1) := by decide +kernel
theorem dX6_takeOut_10 : decode cX6_takeOut 10 = .ok (.isub, 1) := by decide +kernel
theorem dX6_takeOut_11 : decode cX6_takeOut 11 = .ok (.if_icmp .ge 17, 3) := by decide +kernel
theorem dX6_takeOut_14 : decode cX6_takeOut 14 = .ok (.aload_n 0, 1) := by decide +kernel
theorem dX6_takeOut_15 : decode cX6_takeOut 15 = .ok (.iload_n 2, 1) := by decide +kernel
theorem dX6_takeOut_16 : decode cX6_takeOut 16 = .ok (.aload_n 0, 1) := by decide +kernel
theorem dX6_takeOut_17 : decode cX6_takeOut 17 = .ok (.iload_n 2, 1) := by decide +kernel
theorem dX6_takeOut_18 : decode cX6_takeOut 18 = .ok (.iconst 1, 1) := by decide +kernel
theorem dX6_takeOut_19 : decode cX6_takeOut 19 = .ok (.iadd, 1) := by decide +kernel
theorem dX6_takeOut_20 : decode cX6_takeOut 20 = .ok (.iaload, 1) := by decide +kernel
theorem dX6_takeOut_21 : decode cX6_takeOut 21 = .ok (.iastore, 1) := by decide +kernel
theorem dX6_takeOut_22 : decode cX6_takeOut 22 = .ok (.iinc 2 1, 3) := by decide +kernel
theorem dX6_takeOut_25 : decode cX6_takeOut 25 = .ok (.goto (-23), 3) := by decide +kernel
theorem dX6_takeOut_28 : decode cX6_takeOut 28 = .ok (.return_, 1) := by decide +kernel
theorem dX6_thickest_0 : decode cX6_thickest 0 = .ok (.aload_n 0, 1) := by decide +kernel
theorem dX6_thickest_1 : decode cX6_thickest 1 = .ok (.getfield 10, 3) := by decide +kernel
theorem dX6_thickest_4 : decode cX6_thickest 4 = .ok (.iload_n 1, 1) := by decide +kernel
theorem dX6_thickest_5 : decode cX6_thickest 5 = .ok (.invokevirtual 94, 3) := by decide +kernel
theorem dX6_thickest_8 : decode cX6_thickest 8 = .ok (.astore_n 2, 1) := by decide +kernel
theorem dX6_thickest_9 : decode cX6_thickest 9 = .ok (.aload_n 2, 1) := by decide +kernel
theorem dX6_thickest_10 : decode cX6_thickest 10 = .ok (.ifnonnull 7, 3) := by decide +kernel
theorem dX6_thickest_13 : decode cX6_thickest 13 = .ok (.sipush (-1001), 3) := by decide +kernel
theorem dX6_thickest_16 : decode cX6_thickest 16 = .ok (.ireturn, 1) := by decide +kernel
theorem dX6_thickest_17 : decode cX6_thickest 17 = .ok (.aload_n 2, 1) := by decide +kernel
theorem dX6_thickest_18 : decode cX6_thickest 18 = .ok (.getfield 130, 3) := by decide +kernel
theorem dX6_thickest_21 : decode cX6_thickest 21 = .ok (.ifCond .eq 9, 3) := by decide +kernel
theorem dX6_thickest_24 : decode cX6_thickest 24 = .ok (.sipush (-1002), 3) := by decide +kernel
theorem dX6_thickest_27 : decode cX6_thickest 27 = .ok (.goto 7, 3) := by decide +kernel
theorem dX6_thickest_30 : decode cX6_thickest 30 = .ok (.aload_n 2, 1) := by decide +kernel
theorem dX6_thickest_31 : decode cX6_thickest 31 = .ok (.invokevirtual 210, 3) := by decide +kernel
theorem dX6_thickest_34 : decode cX6_thickest 34 = .ok (.ireturn, 1) := by decide +kernel
theorem dX6_turn_0 : decode cX6_turn 0 = .ok (.aload_n 0, 1) := by decide +kernel
theorem dX6_turn_1 : decode cX6_turn 1 = .ok (.getfield 10, 3) := by decide +kernel
theorem dX6_turn_4 : decode cX6_turn 4 = .ok (.iload_n 1, 1) := by decide +kernel
theorem dX6_turn_5 : decode cX6_turn 5 = .ok (.invokevirtual 94, 3) := by decide +kernel
theorem dX6_turn_8 : decode cX6_turn 8 = .ok (.astore_n 2, 1) := by decide +kernel
theorem dX6_turn_9 : decode cX6_turn 9 = .ok (.aload_n 2, 1) := by decide +kernel
theorem dX6_turn_10 : decode cX6_turn 10 = .ok (.ifnonnull 7, 3) := by decide +kernel
theorem dX6_turn_13 : decode cX6_turn 13 = .ok (.sipush (-1001), 3) := by decide +kernel
theorem dX6_turn_16 : decode cX6_turn 16 = .ok (.ireturn, 1) := by decide +kernel
theorem dX6_turn_17 : decode cX6_turn 17 = .ok (.aload_n 2, 1) := by decide +kernel
theorem dX6_turn_18 : decode cX6_turn 18 = .ok (.getfield 104, 3) := by decide +kernel
theorem dX6_turn_21 : decode cX6_turn 21 = .ok (.ifCond .eq 10, 3) := by decide +kernel
theorem dX6_turn_24 : decode cX6_turn 24 = .ok (.aload_n 0, 1) := by decide +kernel
theorem dX6_turn_25 : decode cX6_turn 25 = .ok (.iconst 2, 1) := by decide +kernel
theorem dX6_turn_26 : decode cX6_turn 26 = .ok (.iload_n 1, 1) := by decide +kernel
theorem dX6_turn_27 : decode cX6_turn 27 = .ok (.invokevirtual 68, 3) := by decide +kernel
theorem dX6_turn_30 : decode cX6_turn 30 = .ok (.ireturn, 1) := by decide +kernel
theorem dX6_turn_31 : decode cX6_turn 31 = .ok (.aload_n 0, 1) := by decide +kernel
theorem dX6_turn_32 : decode cX6_turn 32 = .ok (.getfield 25, 3) := by decide +kernel
theorem dX6_turn_35 : decode cX6_turn 35 = .ok (.aload_n 0, 1) := by decide +kernel
theorem dX6_turn_36 : decode cX6_turn 36 = .ok (.getfield 10, 3) := by decide +kernel
theorem dX6_turn_39 : decode cX6_turn 39 = .ok (.invokevirtual 72, 3) := by decide +kernel
theorem dX6_turn_42 : decode cX6_turn 42 = .ok (.aload_n 2, 1) := by decide +kernel
theorem dX6_turn_43 : decode cX6_turn 43 = .ok (.invokevirtual 120, 3) := by decide +kernel
theorem dX6_turn_46 : decode cX6_turn 46 = .ok (.aload_n 2, 1) := by decide +kernel
theorem dX6_turn_47 : decode cX6_turn 47 = .ok (.invokevirtual 123, 3) := by decide +kernel
theorem dX6_turn_50 : decode cX6_turn 50 = .ok (.aload_n 2, 1) := by decide +kernel
theorem dX6_turn_51 : decode cX6_turn 51 = .ok (.iconst 0, 1) := by decide +kernel
theorem dX6_turn_52 : decode cX6_turn 52 = .ok (.invokevirtual 126, 3) := by decide +kernel
theorem dX6_turn_55 : decode cX6_turn 55 = .ok (.isub, 1) := by decide +kernel
theorem dX6_turn_56 : decode cX6_turn 56 = .ok (.ireturn, 1) := by decide +kernel
theorem dX6_undo_0 : decode cX6_undo 0 = .ok (.aload_n 0, 1) := by decide +kernel
theorem dX6_undo_1 : decode cX6_undo 1 = .ok (.getfield 25, 3) := by decide +kernel
theorem dX6_undo_4 : decode cX6_undo 4 = .ok (.getfield 264, 3) := by decide +kernel
theorem dX6_undo_7 : decode cX6_undo 7 = .ok (.ifCond .gt 7, 3) := by decide +kernel
theorem dX6_undo_10 : decode cX6_undo 10 = .ok (.sipush (-1004), 3) := by decide +kernel
theorem dX6_undo_13 : decode cX6_undo 13 = .ok (.ireturn, 1) := by decide +kernel
theorem dX6_undo_14 : decode cX6_undo 14 = .ok (.aload_n 0, 1) := by decide +kernel
theorem dX6_undo_15 : decode cX6_undo 15 = .ok (.getfield 25, 3) := by decide +kernel
theorem dX6_undo_18 : decode cX6_undo 18 = .ok (.aload_n 0, 1) := by decide +kernel
theorem dX6_undo_19 : decode cX6_undo 19 = .ok (.getfield 10, 3) := by decide +kernel
theorem dX6_undo_22 : decode cX6_undo 22 = .ok (.invokevirtual 269, 3) := by decide +kernel
theorem dX6_undo_25 : decode cX6_undo 25 = .ok (.aload_n 0, 1) := by decide +kernel
theorem dX6_undo_26 : decode cX6_undo 26 = .ok (.getfield 25, 3) := by decide +kernel
theorem dX6_undo_29 : decode cX6_undo 29 = .ok (.getfield 264, 3) := by decide +kernel
theorem dX6_undo_32 : decode cX6_undo 32 = .ok (.ireturn, 1) := by decide +kernel
theorem dX6_unfold_0 : decode cX6_unfold 0 = .ok (.aload_n 0, 1) := by decide +kernel
theorem dX6_unfold_1 : decode cX6_unfold 1 = .ok (.getfield 10, 3) := by decide +kernel
theorem dX6_unfold_4 : decode cX6_unfold 4 = .ok (.iload_n 1, 1) := by decide +kernel
theorem dX6_unfold_5 : decode cX6_unfold 5 = .ok (.invokevirtual 94, 3) := by decide +kernel
theorem dX6_unfold_8 : decode cX6_unfold 8 = .ok (.astore_n 2, 1) := by decide +kernel
theorem dX6_unfold_9 : decode cX6_unfold 9 = .ok (.aload_n 2, 1) := by decide +kernel
theorem dX6_unfold_10 : decode cX6_unfold 10 = .ok (.ifnonnull 7, 3) := by decide +kernel
theorem dX6_unfold_13 : decode cX6_unfold 13 = .ok (.sipush (-1001), 3) := by decide +kernel
theorem dX6_unfold_16 : decode cX6_unfold 16 = .ok (.ireturn, 1) := by decide +kernel
theorem dX6_unfold_17 : decode cX6_unfold 17 = .ok (.aload_n 2, 1) := by decide +kernel
theorem dX6_unfold_18 : decode cX6_unfold 18 = .ok (.getfield 104, 3) := by decide +kernel
theorem dX6_unfold_21 : decode cX6_unfold 21 = .ok (.ifCond .ne 10, 3) := by decide +kernel
theorem dX6_unfold_24 : decode cX6_unfold 24 = .ok (.aload_n 0, 1) := by decide +kernel
theorem dX6_unfold_25 : decode cX6_unfold 25 = .ok (.iconst 2, 1) := by decide +kernel
theorem dX6_unfold_26 : decode cX6_unfold 26 = .ok (.iload_n 1, 1) := by decide +kernel
theorem dX6_unfold_27 : decode cX6_unfold 27 = .ok (.invokevirtual 68, 3) := by decide +kernel
theorem dX6_unfold_30 : decode cX6_unfold 30 = .ok (.ireturn, 1) := by decide +kernel
theorem dX6_unfold_31 : decode cX6_unfold 31 = .ok (.aload_n 0, 1) := by decide +kernel
theorem dX6_unfold_32 : decode cX6_unfold 32 = .ok (.getfield 25, 3) := by decide +kernel
theorem dX6_unfold_35 : decode cX6_unfold 35 = .ok (.aload_n 0, 1) := by decide +kernel
theorem dX6_unfold_36 : decode cX6_unfold 36 = .ok (.getfield 10, 3) := by decide +kernel
theorem dX6_unfold_39 : decode cX6_unfold 39 = .ok (.invokevirtual 72, 3) := by decide +kernel
theorem dX6_unfold_42 : decode cX6_unfold 42 = .ok (.aload_n 2, 1) := by decide +kernel
theorem dX6_unfold_43 : decode cX6_unfold 43 = .ok (.iconst 0, 1) := by decide +kernel
theorem dX6_unfold_44 : decode cX6_unfold 44 = .ok (.putfield 104, 3) := by decide +kernel
theorem dX6_unfold_47 : decode cX6_unfold 47 = .ok (.aload_n 0, 1) := by decide +kernel
theorem dX6_unfold_48 : decode cX6_unfold 48 = .ok (.getfield 10, 3) := by decide +kernel
theorem dX6_unfold_51 : decode cX6_unfold 51 = .ok (.getfield 76, 3) := by decide +kernel
theorem dX6_unfold_54 : decode cX6_unfold 54 = .ok (.aload_n 0, 1) := by decide +kernel
theorem dX6_unfold_55 : decode cX6_unfold 55 = .ok (.getfield 10, 3) := by decide +kernel
theorem dX6_unfold_58 : decode cX6_unfold 58 = .ok (.invokevirtual 64, 3) := by decide +kernel
theorem dX6_unfold_61 : decode cX6_unfold 61 = .ok (.isub, 1) := by decide +kernel
theorem dX6_unfold_62 : decode cX6_unfold 62 = .ok (.ireturn, 1) := by decide +kernel
theorem dX6_ways_0 : decode cX6_ways 0 = .ok (.aload_n 0, 1) := by decide +kernel
theorem dX6_ways_1 : decode cX6_ways 1 = .ok (.getfield 10, 3) := by decide +kernel
theorem dX6_ways_4 : decode cX6_ways 4 = .ok (.iload_n 1, 1) := by decide +kernel
theorem dX6_ways_5 : decode cX6_ways 5 = .ok (.invokevirtual 94, 3) := by decide +kernel
theorem dX6_ways_8 : decode cX6_ways 8 = .ok (.astore_n 2, 1) := by decide +kernel
theorem dX6_ways_9 : decode cX6_ways 9 = .ok (.aload_n 2, 1) := by decide +kernel
theorem dX6_ways_10 : decode cX6_ways 10 = .ok (.ifnonnull 9, 3) := by decide +kernel
theorem dX6_ways_13 : decode cX6_ways 13 = .ok (.sipush (-1001), 3) := by decide +kernel
theorem dX6_ways_16 : decode cX6_ways 16 = .ok (.goto 11, 3) := by decide +kernel
theorem dX6_ways_19 : decode cX6_ways 19 = .ok (.aload_n 0, 1) := by decide +kernel
theorem dX6_ways_20 : decode cX6_ways 20 = .ok (.getfield 39, 3) := by decide +kernel
theorem dX6_ways_23 : decode cX6_ways 23 = .ok (.aload_n 2, 1) := by decide +kernel
theorem dX6_ways_24 : decode cX6_ways 24 = .ok (.invokevirtual 197, 3) := by decide +kernel
theorem dX6_ways_27 : decode cX6_ways 27 = .ok (.ireturn, 1) := by decide +kernel
theorem dX6_why_0 : decode cX6_why 0 = .ok (.aload_n 0, 1) := by decide +kernel
theorem dX6_why_1 : decode cX6_why 1 = .ok (.getfield 10, 3) := by decide +kernel
theorem dX6_why_4 : decode cX6_why 4 = .ok (.iload_n 1, 1) := by decide +kernel
theorem dX6_why_5 : decode cX6_why 5 = .ok (.invokevirtual 94, 3) := by decide +kernel
theorem dX6_why_8 : decode cX6_why 8 = .ok (.astore_n 2, 1) := by decide +kernel
theorem dX6_why_9 : decode cX6_why 9 = .ok (.aload_n 2, 1) := by decide +kernel
theorem dX6_why_10 : decode cX6_why 10 = .ok (.ifnonnull 9, 3) := by decide +kernel
theorem dX6_why_13 : decode cX6_why 13 = .ok (.sipush (-1001), 3) := by decide +kernel
theorem dX6_why_16 : decode cX6_why 16 = .ok (.goto 11, 3) := by decide +kernel
theorem dX6_why_19 : decode cX6_why 19 = .ok (.aload_n 0, 1) := by decide +kernel
theorem dX6_why_20 : decode cX6_why 20 = .ok (.getfield 39, 3) := by decide +kernel
theorem dX6_why_23 : decode cX6_why 23 = .ok (.aload_n 2, 1) := by decide +kernel
theorem dX6_why_24 : decode cX6_why 24 = .ok (.invokevirtual 166, 3) := by decide +kernel
theorem dX6_why_27 : decode cX6_why 27 = .ok (.ireturn, 1) := by decide +kernel
theorem dX6_withCreasesAsTold_0 : decode cX6_withCreasesAsTold 0 = .ok (.aload_n 0, 1) := by decide +kernel
theorem dX6_withCreasesAsTold_1 : decode cX6_withCreasesAsTold 1 = .ok (.getfield 10, 3) := by decide +kernel
theorem dX6_withCreasesAsTold_4 : decode cX6_withCreasesAsTold 4 = .ok (.iload_n 1, 1) := by decide +kernel
theorem dX6_withCreasesAsTold_5 : decode cX6_withCreasesAsTold 5 = .ok (.invokevirtual 94, 3) := by decide +kernel
theorem dX6_withCreasesAsTold_8 : decode cX6_withCreasesAsTold 8 = .ok (.astore_n 2, 1) := by decide +kernel
theorem dX6_withCreasesAsTold_9 : decode cX6_withCreasesAsTold 9 = .ok (.aload_n 2, 1) := by decide +kernel
theorem dX6_withCreasesAsTold_10 : decode cX6_withCreasesAsTold 10 = .ok (.ifnonnull 5, 3) := by decide +kernel
theorem dX6_withCreasesAsTold_13 : decode cX6_withCreasesAsTold 13 = .ok (.iload_n 1, 1) := by decide +kernel
theorem dX6_withCreasesAsTold_14 : decode cX6_withCreasesAsTold 14 = .ok (.ireturn, 1) := by decide +kernel
theorem dX6_withCreasesAsTold_15 : decode cX6_withCreasesAsTold 15 = .ok (.aload_n 2, 1) := by decide +kernel
theorem dX6_withCreasesAsTold_16 : decode cX6_withCreasesAsTold 16 = .ok (.invokevirtual 123, 3) := by decide +kernel
theorem dX6_withCreasesAsTold_19 : decode cX6_withCreasesAsTold 19 = .ok (.aload_n 0, 1) := by decide +kernel
theorem dX6_withCreasesAsTold_20 : decode cX6_withCreasesAsTold 20 = .ok (.getfield 32, 3) := by decide +kernel
theorem dX6_withCreasesAsTold_23 : decode cX6_withCreasesAsTold 23 = .ok (.getfield 309, 3) := by decide +kernel
theorem dX6_withCreasesAsTold_26 : decode cX6_withCreasesAsTold 26 = .ok (.if_icmp .ne 7, 3) := by decide +kernel
theorem dX6_withCreasesAsTold_29 : decode cX6_withCreasesAsTold 29 = .ok (.iload_n 1, 1) := by decide +kernel
theorem dX6_withCreasesAsTold_30 : decode cX6_withCreasesAsTold 30 = .ok (.goto 6, 3) := by decide +kernel
theorem dX6_withCreasesAsTold_33 : decode cX6_withCreasesAsTold 33 = .ok (.sipush (-1002), 3) := by decide +kernel
theorem dX6_withCreasesAsTold_36 : decode cX6_withCreasesAsTold 36 = .ok (.ireturn, 1) := by decide +kernel
theorem dX7_account_0 : decode cX7_account 0 = .ok (.iload_n 1, 1) := by decide +kernel
theorem dX7_account_1 : decode cX7_account 1 = .ok (.tableswitch 159 0 12 #[67, 74, 87, 93, 100, 107, 119, 124, 130, 136, 142, 149, 154], 67) := by decide +kernel
theorem dX7_account_68 : decode cX7_account 68 = .ok (.aload_n 0, 1) := by decide +kernel
theorem dX7_account_69 : decode cX7_account 69 = .ok (.getfield 9, 3) := by decide +kernel
theorem dX7_account_72 : decode cX7_account 72 = .ok (.iconst 0, 1) := by decide +kernel
theorem dX7_account_73 : decode cX7_account 73 = .ok (.iaload, 1) := by decide +kernel
theorem dX7_account_74 : decode cX7_account 74 = .ok (.ireturn, 1) := by decide +kernel
theorem dX7_account_75 : decode cX7_account 75 = .ok (.aload_n 0, 1) := by decide +kernel
theorem dX7_account_76 : decode cX7_account 76 = .ok (.getfield 9, 3) := by decide +kernel
theorem dX7_account_79 : decode cX7_account 79 = .ok (.iconst 0, 1) := by decide +kernel
theorem dX7_account_80 : decode cX7_account 80 = .ok (.iaload, 1) := by decide +kernel
theorem dX7_account_81 : decode cX7_account 81 = .ok (.aload_n 0, 1) := by decide +kernel
theorem dX7_account_82 : decode cX7_account 82 = .ok (.iconst 0, 1) := by decide +kernel
theorem dX7_account_83 : decode cX7_account 83 = .ok (.invokevirtual 351, 3) := by decide +kernel
theorem dX7_account_86 : decode cX7_account 86 = .ok (.isub, 1) := by decide +kernel
theorem dX7_account_87 : decode cX7_account 87 = .ok (.ireturn, 1) := by decide +kernel
theorem dX7_account_88 : decode cX7_account 88 = .ok (.aload_n 0, 1) := by decide +kernel
theorem dX7_account_89 : decode cX7_account 89 = .ok (.iconst 0, 1) := by decide +kernel
theorem dX7_account_90 : decode cX7_account 90 = .ok (.invokevirtual 351, 3) := by decide +kernel
theorem dX7_account_93 : decode cX7_account 93 = .ok (.ireturn, 1) := by decide +kernel
theorem dX7_account_94 : decode cX7_account 94 = .ok (.aload_n 0, 1) := by decide +kernel
theorem dX7_account_95 : decode cX7_account 95 = .ok (.bipush 7, 2) := by decide +kernel
theorem dX7_account_97 : decode cX7_account 97 = .ok (.invokevirtual 351, 3) := by decide +kernel
theorem dX7_account_100 : decode cX7_account 100 = .ok (.ireturn, 1) := by decide +kernel
theorem dX7_account_101 : decode cX7_account 101 = .ok (.aload_n 0, 1) := by decide +kernel
theorem dX7_account_102 : decode cX7_account 102 = .ok (.getfield 9, 3) := by decide +kernel
theorem dX7_account_105 : decode cX7_account 105 = .ok (.iconst 1, 1) := by decide +kernel
theorem dX7_account_106 : decode cX7_account 106 = .ok (.iaload, 1) := by decide +kernel
theorem dX7_account_107 : decode cX7_account 107 = .ok (.ireturn, 1) := by decide +kernel
theorem dX7_account_108 : decode cX7_account 108 = .ok (.aload_n 0, 1) := by decide +kernel
theorem dX7_account_109 : decode cX7_account 109 = .ok (.getfield 9, 3) := by decide +kernel
theorem dX7_account_112 : decode cX7_account 112 = .ok (.iconst 1, 1) := by decide +kernel
theorem dX7_account_113 : decode cX7_account 113 = .ok (.iaload, 1) := by decide +kernel
theorem dX7_account_114 : decode cX7_account 114 = .ok (.aload_n 0, 1) := by decide +kernel
theorem dX7_account_115 : decode cX7_account 115 = .ok (.invokevirtual 231, 3) := by decide +kernel
theorem dX7_account_118 : decode cX7_account 118 = .ok (.isub, 1) := by decide +kernel
theorem dX7_account_119 : decode cX7_account 119 = .ok (.ireturn, 1) := by decide +kernel
theorem dX7_account_120 : decode cX7_account 120 = .ok (.aload_n 0, 1) := by decide +kernel
theorem dX7_account_121 : decode cX7_account 121 = .ok (.invokevirtual 354, 3) := by decide +kernel
theorem dX7_account_124 : decode cX7_account 124 = .ok (.ireturn, 1) := by decide +kernel
theorem dX7_account_125 : decode cX7_account 125 = .ok (.aload_n 0, 1) := by decide +kernel
theorem dX7_account_126 : decode cX7_account 126 = .ok (.iconst 3, 1) := by decide +kernel
theorem dX7_account_127 : decode cX7_account 127 = .ok (.invokevirtual 351, 3) := by decide +kernel
theorem dX7_account_130 : decode cX7_account 130 = .ok (.ireturn, 1) := by decide +kernel
theorem dX7_account_131 : decode cX7_account 131 = .ok (.aload_n 0, 1) := by decide +kernel
theorem dX7_account_132 : decode cX7_account 132 = .ok (.iconst 4, 1) := by decide +kernel
theorem dX7_account_133 : decode cX7_account 133 = .ok (.invokevirtual 351, 3) := by decide +kernel
theorem dX7_account_136 : decode cX7_account 136 = .ok (.ireturn, 1) := by decide +kernel
theorem dX7_account_137 : decode cX7_account 137 = .ok (.aload_n 0, 1) := by decide +kernel
theorem dX7_account_138 : decode cX7_account 138 = .ok (.iconst 5, 1) := by decide +kernel
theorem dX7_account_139 : decode cX7_account 139 = .ok (.invokevirtual 351, 3) := by decide +kernel
theorem dX7_account_142 : decode cX7_account 142 = .ok (.ireturn, 1) := by decide +kernel
theorem dX7_account_143 : decode cX7_account 143 = .ok (.aload_n 0, 1) := by decide +kernel
theorem dX7_account_144 : decode cX7_account 144 = .ok (.getfield 9, 3) := by decide +kernel
theorem dX7_account_147 : decode cX7_account 147 = .ok (.iconst 2, 1) := by decide +kernel
theorem dX7_account_148 : decode cX7_account 148 = .ok (.iaload, 1) := by decide +kernel
theorem dX7_account_149 : decode cX7_account 149 = .ok (.ireturn, 1) := by decide +kernel
theorem dX7_account_150 : decode cX7_account 150 = .ok (.aload_n 0, 1) := by decide +kernel
theorem dX7_account_151 : decode cX7_account 151 = .ok (.getfield 291, 3) := by decide +kernel
theorem dX7_account_154 : decode cX7_account 154 = .ok (.ireturn, 1) := by decide +kernel
theorem dX7_account_155 : decode cX7_account 155 = .ok (.aload_n 0, 1) := by decide +kernel
theorem dX7_account_156 : decode cX7_account 156 = .ok (.getfield 58, 3) := by decide +kernel
theorem dX7_account_159 : decode cX7_account 159 = .ok (.ireturn, 1) := by decide +kernel
theorem dX7_account_160 : decode cX7_account 160 = .ok (.sipush (-1002), 3) := by decide +kernel
theorem dX7_account_163 : decode cX7_account 163 = .ok (.ireturn, 1) := by decide +kernel
theorem dX7_add_0 : decode cX7_add 0 = .ok (.aload_n 0, 1) := by decide +kernel
theorem dX7_add_1 : decode cX7_add 1 = .ok (.invokevirtual 117, 3) := by decide +kernel
theorem dX7_add_4 : decode cX7_add 4 = .ok (.aload_n 0, 1) := by decide +kernel
theorem dX7_add_5 : decode cX7_add 5 = .ok (.aload_n 0, 1) := by decide +kernel
theorem dX7_add_6 : decode cX7_add 6 = .ok (.iload_n 1, 1) := by decide +kernel
theorem dX7_add_7 : decode cX7_add 7 = .ok (.iload_n 2, 1) := by decide +kernel
theorem dX7_add_8 : decode cX7_add 8 = .ok (.iload_n 3, 1) := by decide +kernel
theorem dX7_add_9 : decode cX7_add 9 = .ok (.invokevirtual 120, 3) := by decide +kernel
theorem dX7_add_12 : decode cX7_add 12 = .ok (.invokevirtual 124, 3) := by decide +kernel
theorem dX7_add_15 : decode cX7_add 15 = .ok (.ireturn, 1) := by decide +kernel
theorem dX7_adds_0 : decode cX7_adds 0 = .ok (.aload_n 0, 1) := by decide +kernel
theorem dX7_adds_1 : decode cX7_adds 1 = .ok (.getfield 9, 3) := by decide +kernel
theorem dX7_adds_4 : decode cX7_adds 4 = .ok (.iconst 0, 1) := by decide +kernel
theorem dX7_adds_5 : decode cX7_adds 5 = .ok (.iaload, 1) := by decide +kernel
theorem dX7_adds_6 : decode cX7_adds 6 = .ok (.bipush 8, 2) := by decide +kernel
theorem dX7_adds_8 : decode cX7_adds 8 = .ok (.if_icmp .ne 11, 3) := by decide +kernel
theorem dX7_adds_11 : decode cX7_adds 11 = .ok (.aload_n 0, 1) := by decide +kernel
theorem dX7_adds_12 : decode cX7_adds 12 = .ok (.iconst 1, 1) := by decide +kernel
theorem dX7_adds_13 : decode cX7_adds 13 = .ok (.bipush 8, 2) := by decide +kernel
theorem dX7_adds_15 : decode cX7_adds 15 = .ok (.invokevirtual 101, 3) := by decide +kernel
theorem dX7_adds_18 : decode cX7_adds 18 = .ok (.ireturn, 1) := by decide +kernel
theorem dX7_adds_19 : decode cX7_adds 19 = .ok (.aload_n 0, 1) := by decide +kernel
theorem dX7_adds_20 : decode cX7_adds 20 = .ok (.getfield 9, 3) := by decide +kernel
theorem dX7_adds_23 : decode cX7_adds 23 = .ok (.iconst 0, 1) := by decide +kernel
theorem dX7_adds_24 : decode cX7_adds 24 = .ok (.iaload, 1) := by decide +kernel
theorem dX7_adds_25 : decode cX7_adds 25 = .ok (.istore_n 3, 1) := by decide +kernel
theorem dX7_adds_26 : decode cX7_adds 26 = .ok (.aload_n 0, 1) := by decide +kernel
theorem dX7_adds_27 : decode cX7_adds 27 = .ok (.getfield 9, 3) := by decide +kernel
theorem dX7_adds_30 : decode cX7_adds 30 = .ok (.iconst 0, 1) := by decide +kernel
theorem dX7_adds_31 : decode cX7_adds 31 = .ok (.dup2, 1) := by decide +kernel
theorem dX7_adds_32 : decode cX7_adds 32 = .ok (.iaload, 1) := by decide +kernel
theorem dX7_adds_33 : decode cX7_adds 33 = .ok (.iconst 1, 1) := by decide +kernel
theorem dX7_adds_34 : decode cX7_adds 34 = .ok (.iadd, 1) := by decide +kernel
theorem dX7_adds_35 : decode cX7_adds 35 = .ok (.iastore, 1) := by decide +kernel
theorem dX7_adds_36 : decode cX7_adds 36 = .ok (.aload_n 0, 1) := by decide +kernel
theorem dX7_adds_37 : decode cX7_adds 37 = .ok (.getfield 9, 3) := by decide +kernel
theorem dX7_adds_40 : decode cX7_adds 40 = .ok (.iload_n 3, 1) := by decide +kernel
theorem dX7_adds_41 : decode cX7_adds 41 = .ok (.iconst 0, 1) := by decide +kernel
theorem dX7_adds_42 : decode cX7_adds 42 = .ok (.invokestatic 74, 3) := by decide +kernel
theorem dX7_adds_45 : decode cX7_adds 45 = .ok (.iload_n 1, 1) := by decide +kernel
theorem dX7_adds_46 : decode cX7_adds 46 = .ok (.iastore, 1) := by decide +kernel
theorem dX7_adds_47 : decode cX7_adds 47 = .ok (.aload_n 0, 1) := by decide +kernel
theorem dX7_adds_48 : decode cX7_adds 48 = .ok (.getfield 9, 3) := by decide +kernel
theorem dX7_adds_51 : decode cX7_adds 51 = .ok (.iload_n 3, 1) := by decide +kernel
theorem dX7_adds_52 : decode cX7_adds 52 = .ok (.iconst 1, 1) := by decide +kernel
theorem dX7_adds_53 : decode cX7_adds 53 = .ok (.invokestatic 74, 3) := by decide +kernel
theorem dX7_adds_56 : decode cX7_adds 56 = .ok (.iload_n 2, 1) := by decide +kernel
theorem dX7_adds_57 : decode cX7_adds 57 = .ok (.iastore, 1) := by decide +kernel
theorem dX7_adds_58 : decode cX7_adds 58 = .ok (.aload_n 0, 1) := by decide +kernel
theorem dX7_adds_59 : decode cX7_adds 59 = .ok (.getfield 9, 3) := by decide +kernel
theorem dX7_adds_62 : decode cX7_adds 62 = .ok (.iload_n 3, 1) := by decide +kernel
theorem dX7_adds_63 : decode cX7_adds 63 = .ok (.iconst 2, 1) := by decide +kernel
theorem dX7_adds_64 : decode cX7_adds 64 = .ok (.invokestatic 74, 3) := by decide +kernel
theorem dX7_adds_67 : decode cX7_adds 67 = .ok (.iconst 0, 1) := by decide +kernel
theorem dX7_adds_68 : decode cX7_adds 68 = .ok (.iastore, 1) := by decide +kernel
theorem dX7_adds_69 : decode cX7_adds 69 = .ok (.iconst 0, 1) := by decide +kernel
theorem dX7_adds_70 : decode cX7_adds 70 = .ok (.istore 4, 2) := by decide +kernel
theorem dX7_adds_72 : decode cX7_adds 72 = .ok (.iload 4, 2) := by decide +kernel
theorem dX7_adds_74 : decode cX7_adds 74 = .ok (.bipush 8, 2) := by decide +kernel
theorem dX7_adds_76 : decode cX7_adds 76 = .ok (.if_icmp .ge 74, 3) := by decide +kernel
theorem dX7_adds_79 : decode cX7_adds 79 = .ok (.aload_n 0, 1) := by decide +kernel
theorem dX7_adds_80 : decode cX7_adds 80 = .ok (.getfield 9, 3) := by decide +kernel
theorem dX7_adds_83 : decode cX7_adds 83 = .ok (.iload_n 3, 1) := by decide +kernel
theorem dX7_adds_84 : decode cX7_adds 84 = .ok (.iconst 3, 1) := by decide +kernel
theorem dX7_adds_85 : decode cX7_adds 85 = .ok (.iload 4, 2) := by decide +kernel
theorem dX7_adds_87 : decode cX7_adds 87 = .ok (.iadd, 1) := by decide +kernel
theorem dX7_adds_88 : decode cX7_adds 88 = .ok (.invokestatic 74, 3) := by decide +kernel
theorem dX7_adds_91 : decode cX7_adds 91 = .ok (.iload 4, 2) := by decide +kernel
theorem dX7_adds_93 : decode cX7_adds 93 = .ok (.iload_n 2, 1) := by decide +kernel
theorem dX7_adds_94 : decode cX7_adds 94 = .ok (.if_icmp .ge 13, 3) := by decide +kernel
theorem dX7_adds_97 : decode cX7_adds 97 = .ok (.aload_n 0, 1) := by decide +kernel
theorem dX7_adds_98 : decode cX7_adds 98 = .ok (.getfield 22, 3) := by decide +kernel
theorem dX7_adds_101 : decode cX7_adds 101 = .ok (.iload 4, 2) := by decide +kernel
theorem dX7_adds_103 : decode cX7_adds 103 = .ok (.iaload, 1) := by decide +kernel
theorem dX7_adds_104 : decode cX7_adds 104 = .ok (.goto 4, 3) := by decide +kernel
theorem dX7_adds_107 : decode cX7_adds 107 = .ok (.iconst 0, 1) := by decide +kernel
theorem dX7_adds_108 : decode cX7_adds 108 = .ok (.iastore, 1) := by decide +kernel
theorem dX7_adds_109 : decode cX7_adds 109 = .ok (.aload_n 0, 1) := by decide +kernel
theorem dX7_adds_110 : decode cX7_adds 110 = .ok (.getfield 9, 3) := by decide +kernel
theorem dX7_adds_113 : decode cX7_adds 113 = .ok (.iload_n 3, 1) := by decide +kernel
theorem dX7_adds_114 : decode cX7_adds 114 = .ok (.bipush 11, 2) := by decide +kernel
theorem dX7_adds_116 : decode cX7_adds 116 = .ok (.iload 4, 2) := by decide +kernel
theorem dX7_adds_118 : decode cX7_adds 118 = .ok (.iadd, 1) := by decide +kernel
theorem dX7_adds_119 : decode cX7_adds 119 = .ok (.invokestatic 74, 3) := by decide +kernel
theorem dX7_adds_122 : decode cX7_adds 122 = .ok (.iload 4, 2) := by decide +kernel
theorem dX7_adds_124 : decode cX7_adds 124 = .ok (.aload_n 0, 1) := by decide +kernel
theorem dX7_adds_125 : decode cX7_adds 125 = .ok (.iload_n 3, 1) := by decide +kernel
theorem dX7_adds_126 : decode cX7_adds 126 = .ok (.invokevirtual 88, 3) := by decide +kernel
theorem dX7_adds_129 : decode cX7_adds 129 = .ok (.if_icmp .ge 13, 3) := by decide +kernel
theorem dX7_adds_132 : decode cX7_adds 132 = .ok (.aload_n 0, 1) := by decide +kernel
theorem dX7_adds_133 : decode cX7_adds 133 = .ok (.getfield 25, 3) := by decide +kernel
theorem dX7_adds_136 : decode cX7_adds 136 = .ok (.iload 4, 2) := by decide +kernel
theorem dX7_adds_138 : decode cX7_adds 138 = .ok (.iaload, 1) := by decide +kernel
theorem dX7_adds_139 : decode cX7_adds 139 = .ok (.goto 4, 3) := by decide +kernel
theorem dX7_adds_142 : decode cX7_adds 142 = .ok (.iconst 0, 1) := by decide +kernel
theorem dX7_adds_143 : decode cX7_adds 143 = .ok (.iastore, 1) := by decide +kernel
theorem dX7_adds_144 : decode cX7_adds 144 = .ok (.iinc 4 1, 3) := by decide +kernel
theorem dX7_adds_147 : decode cX7_adds 147 = .ok (.goto (-75), 3) := by decide +kernel
theorem dX7_adds_150 : decode cX7_adds 150 = .ok (.iload_n 3, 1) := by decide +kernel
theorem dX7_adds_151 : decode cX7_adds 151 = .ok (.ireturn, 1) := by decide +kernel
theorem dX7_addsSigned_0 : decode cX7_addsSigned 0 = .ok (.aload_n 0, 1) := by decide +kernel
theorem dX7_addsSigned_1 : decode cX7_addsSigned 1 = .ok (.getfield 321, 3) := by decide +kernel
theorem dX7_addsSigned_4 : decode cX7_addsSigned 4 = .ok (.bipush 115, 2) := by decide +kernel
theorem dX7_addsSigned_6 : decode cX7_addsSigned 6 = .ok (.if_icmp .ne 7, 3) := by decide +kernel
theorem dX7_addsSigned_9 : decode cX7_addsSigned 9 = .ok (.iconst 0, 1) := by decide +kernel
theorem dX7_addsSigned_10 : decode cX7_addsSigned 10 = .ok (.goto 4, 3) := by decide +kernel
theorem dX7_addsSigned_13 : decode cX7_addsSigned 13 = .ok (.iconst 1, 1) := by decide +kernel
theorem dX7_addsSigned_14 : decode cX7_addsSigned 14 = .ok (.istore_n 1, 1) := by decide +kernel
theorem dX7_addsSigned_15 : decode cX7_addsSigned 15 = .ok (.aload_n 0, 1) := by decide +kernel
theorem dX7_addsSigned_16 : decode cX7_addsSigned 16 = .ok (.aload_n 0, 1) := by decide +kernel
theorem dX7_addsSigned_17 : decode cX7_addsSigned 17 = .ok (.getfield 300, 3) := by decide +kernel
theorem dX7_addsSigned_20 : decode cX7_addsSigned 20 = .ok (.invokevirtual 104, 3) := by decide +kernel
theorem dX7_addsSigned_23 : decode cX7_addsSigned 23 = .ok (.istore_n 2, 1) := by decide +kernel
theorem dX7_addsSigned_24 : decode cX7_addsSigned 24 = .ok (.aload_n 0, 1) := by decide +kernel
theorem dX7_addsSigned_25 : decode cX7_addsSigned 25 = .ok (.iload_n 1, 1) := by decide +kernel
theorem dX7_addsSigned_26 : decode cX7_addsSigned 26 = .ok (.iload_n 2, 1) := by decide +kernel
theorem dX7_addsSigned_27 : decode cX7_addsSigned 27 = .ok (.invokevirtual 107, 3) := by decide +kernel
theorem dX7_addsSigned_30 : decode cX7_addsSigned 30 = .ok (.ifCond .eq 15, 3) := by decide +kernel
theorem dX7_addsSigned_33 : decode cX7_addsSigned 33 = .ok (.aload_n 0, 1) := by decide +kernel
theorem dX7_addsSigned_34 : decode cX7_addsSigned 34 = .ok (.getfield 306, 3) := by decide +kernel
theorem dX7_addsSigned_37 : decode cX7_addsSigned 37 = .ok (.iload_n 2, 1) := by decide +kernel
theorem dX7_addsSigned_38 : decode cX7_addsSigned 38 = .ok (.iconst 1, 1) := by decide +kernel
theorem dX7_addsSigned_39 : decode cX7_addsSigned 39 = .ok (.isub, 1) := by decide +kernel
theorem dX7_addsSigned_40 : decode cX7_addsSigned 40 = .ok (.iload_n 1, 1) := by decide +kernel
theorem dX7_addsSigned_41 : decode cX7_addsSigned 41 = .ok (.iadd, 1) := by decide +kernel
theorem dX7_addsSigned_42 : decode cX7_addsSigned 42 = .ok (.if_icmp .eq 7, 3) := by decide +kernel
theorem dX7_addsSigned_45 : decode cX7_addsSigned 45 = .ok (.sipush (-1002), 3) := by decide +kernel
theorem dX7_addsSigned_48 : decode cX7_addsSigned 48 = .ok (.ireturn, 1) := by decide +kernel
theorem dX7_addsSigned_49 : decode cX7_addsSigned 49 = .ok (.aload_n 0, 1) := by decide +kernel
theorem dX7_addsSigned_50 : decode cX7_addsSigned 50 = .ok (.iload_n 1, 1) := by decide +kernel
theorem dX7_addsSigned_51 : decode cX7_addsSigned 51 = .ok (.aload_n 0, 1) := by decide +kernel
theorem dX7_addsSigned_52 : decode cX7_addsSigned 52 = .ok (.getfield 300, 3) := by decide +kernel
theorem dX7_addsSigned_55 : decode cX7_addsSigned 55 = .ok (.aload_n 0, 1) := by decide +kernel
theorem dX7_addsSigned_56 : decode cX7_addsSigned 56 = .ok (.getfield 303, 3) := by decide +kernel
theorem dX7_addsSigned_59 : decode cX7_addsSigned 59 = .ok (.invokevirtual 120, 3) := by decide +kernel
theorem dX7_addsSigned_62 : decode cX7_addsSigned 62 = .ok (.ireturn, 1) := by decide +kernel
theorem dX7_addsTold_0 : decode cX7_addsTold 0 = .ok (.iload_n 1, 1) := by decide +kernel
theorem dX7_addsTold_1 : decode cX7_addsTold 1 = .ok (.iconst 0, 1) := by decide +kernel
theorem dX7_addsTold_2 : decode cX7_addsTold 2 = .ok (.iconst 1, 1) := by decide +kernel
theorem dX7_addsTold_3 : decode cX7_addsTold 3 = .ok (.invokestatic 61, 3) := by decide +kernel
theorem dX7_addsTold_6 : decode cX7_addsTold 6 = .ok (.ifCond .eq 11, 3) := by decide +kernel
theorem dX7_addsTold_9 : decode cX7_addsTold 9 = .ok (.aload_n 0, 1) := by decide +kernel
theorem dX7_addsTold_10 : decode cX7_addsTold 10 = .ok (.iload_n 2, 1) := by decide +kernel
theorem dX7_addsTold_11 : decode cX7_addsTold 11 = .ok (.invokevirtual 104, 3) := by decide +kernel
theorem dX7_addsTold_14 : decode cX7_addsTold 14 = .ok (.goto 4, 3) := by decide +kernel
theorem dX7_addsTold_17 : decode cX7_addsTold 17 = .ok (.iconst 0, 1) := by decide +kernel
theorem dX7_addsTold_18 : decode cX7_addsTold 18 = .ok (.istore 4, 2) := by decide +kernel
theorem dX7_addsTold_20 : decode cX7_addsTold 20 = .ok (.iload 4, 2) := by decide +kernel
theorem dX7_addsTold_22 : decode cX7_addsTold 22 = .ok (.ifCond .eq 34, 3) := by decide +kernel
theorem dX7_addsTold_25 : decode cX7_addsTold 25 = .ok (.aload_n 0, 1) := by decide +kernel
theorem dX7_addsTold_26 : decode cX7_addsTold 26 = .ok (.iload_n 1, 1) := by decide +kernel
theorem dX7_addsTold_27 : decode cX7_addsTold 27 = .ok (.iload 4, 2) := by decide +kernel
theorem dX7_addsTold_29 : decode cX7_addsTold 29 = .ok (.invokevirtual 107, 3) := by decide +kernel
theorem dX7_addsTold_32 : decode cX7_addsTold 32 = .ok (.ifCond .eq 24, 3) := by decide +kernel
theorem dX7_addsTold_35 : decode cX7_addsTold 35 = .ok (.aload_n 0, 1) := by decide +kernel
theorem dX7_addsTold_36 : decode cX7_addsTold 36 = .ok (.iload_n 3, 1) := by decide +kernel
theorem dX7_addsTold_37 : decode cX7_addsTold 37 = .ok (.iload_n 1, 1) := by decide +kernel
theorem dX7_addsTold_38 : decode cX7_addsTold 38 = .ok (.ifCond .ne 10, 3) := by decide +kernel
theorem dX7_addsTold_41 : decode cX7_addsTold 41 = .ok (.iload 4, 2) := by decide +kernel
theorem dX7_addsTold_43 : decode cX7_addsTold 43 = .ok (.iconst 1, 1) := by decide +kernel
theorem dX7_addsTold_44 : decode cX7_addsTold 44 = .ok (.isub, 1) := by decide +kernel
theorem dX7_addsTold_45 : decode cX7_addsTold 45 = .ok (.goto 5, 3) := by decide +kernel
theorem dX7_addsTold_48 : decode cX7_addsTold 48 = .ok (.iload 4, 2) := by decide +kernel
theorem dX7_addsTold_50 : decode cX7_addsTold 50 = .ok (.invokevirtual 111, 3) := by decide +kernel
theorem dX7_addsTold_53 : decode cX7_addsTold 53 = .ok (.ifCond .ne 7, 3) := by decide +kernel
theorem dX7_addsTold_56 : decode cX7_addsTold 56 = .ok (.sipush (-1002), 3) := by decide +kernel
theorem dX7_addsTold_59 : decode cX7_addsTold 59 = .ok (.ireturn, 1) := by decide +kernel
theorem dX7_addsTold_60 : decode cX7_addsTold 60 = .ok (.aload_n 0, 1) := by decide +kernel
theorem dX7_addsTold_61 : decode cX7_addsTold 61 = .ok (.iload_n 1, 1) := by decide +kernel
theorem dX7_addsTold_62 : decode cX7_addsTold 62 = .ok (.iload 4, 2) := by decide +kernel
theorem dX7_addsTold_64 : decode cX7_addsTold 64 = .ok (.invokevirtual 114, 3) := by decide +kernel
theorem dX7_addsTold_67 : decode cX7_addsTold 67 = .ok (.ireturn, 1) := by decide +kernel
theorem dX7_allOf_0 : decode cX7_allOf 0 = .ok (.iconst 0, 1) := by decide +kernel
theorem dX7_allOf_1 : decode cX7_allOf 1 = .ok (.istore_n 2, 1) := by decide +kernel
theorem dX7_allOf_2 : decode cX7_allOf 2 = .ok (.iconst 0, 1) := by decide +kernel
theorem dX7_allOf_3 : decode cX7_allOf 3 = .ok (.istore_n 3, 1) := by decide +kernel
theorem dX7_allOf_4 : decode cX7_allOf 4 = .ok (.iload_n 3, 1) := by decide +kernel
theorem dX7_allOf_5 : decode cX7_allOf 5 = .ok (.aload_n 0, 1) := by decide +kernel
theorem dX7_allOf_6 : decode cX7_allOf 6 = .ok (.getfield 9, 3) := by decide +kernel
theorem dX7_allOf_9 : decode cX7_allOf 9 = .ok (.iconst 0, 1) := by decide +kernel
theorem dX7_allOf_10 : decode cX7_allOf 10 = .ok (.iaload, 1) := by decide +kernel
theorem dX7_allOf_11 : decode cX7_allOf 11 = .ok (.if_icmp .ge 18, 3) := by decide +kernel
theorem dX7_allOf_14 : decode cX7_allOf 14 = .ok (.iload_n 2, 1) := by decide +kernel
theorem dX7_allOf_15 : decode cX7_allOf 15 = .ok (.aload_n 0, 1) := by decide +kernel
theorem dX7_allOf_16 : decode cX7_allOf 16 = .ok (.iload_n 3, 1) := by decide +kernel
theorem dX7_allOf_17 : decode cX7_allOf 17 = .ok (.iload_n 1, 1) := by decide +kernel
theorem dX7_allOf_18 : decode cX7_allOf 18 = .ok (.invokevirtual 348, 3) := by decide +kernel
theorem dX7_allOf_21 : decode cX7_allOf 21 = .ok (.iadd, 1) := by decide +kernel
theorem dX7_allOf_22 : decode cX7_allOf 22 = .ok (.istore_n 2, 1) := by decide +kernel
theorem dX7_allOf_23 : decode cX7_allOf 23 = .ok (.iinc 3 1, 3) := by decide +kernel
theorem dX7_allOf_26 : decode cX7_allOf 26 = .ok (.goto (-22), 3) := by decide +kernel
theorem dX7_allOf_29 : decode cX7_allOf 29 = .ok (.iload_n 2, 1) := by decide +kernel
theorem dX7_allOf_30 : decode cX7_allOf 30 = .ok (.ireturn, 1) := by decide +kernel
theorem dX7_append_0 : decode cX7_append 0 = .ok (.iload_n 1, 1) := by decide +kernel
theorem dX7_append_1 : decode cX7_append 1 = .ok (.bipush 32, 2) := by decide +kernel
theorem dX7_append_3 : decode cX7_append 3 = .ok (.bipush 126, 2) := by decide +kernel
theorem dX7_append_5 : decode cX7_append 5 = .ok (.invokestatic 61, 3) := by decide +kernel
theorem dX7_append_8 : decode cX7_append 8 = .ok (.ifCond .eq 12, 3) := by decide +kernel
theorem dX7_append_11 : decode cX7_append 11 = .ok (.aload_n 0, 1) := by decide +kernel
theorem dX7_append_12 : decode cX7_append 12 = .ok (.getfield 291, 3) := by decide +kernel
theorem dX7_append_15 : decode cX7_append 15 = .ok (.bipush 80, 2) := by decide +kernel
theorem dX7_append_17 : decode cX7_append 17 = .ok (.if_icmp .ne 7, 3) := by decide +kernel
theorem dX7_append_20 : decode cX7_append 20 = .ok (.sipush (-1002), 3) := by decide +kernel
theorem dX7_append_23 : decode cX7_append 23 = .ok (.ireturn, 1) := by decide +kernel
theorem dX7_append_24 : decode cX7_append 24 = .ok (.aload_n 0, 1) := by decide +kernel
theorem dX7_append_25 : decode cX7_append 25 = .ok (.getfield 47, 3) := by decide +kernel
theorem dX7_append_28 : decode cX7_append 28 = .ok (.aload_n 0, 1) := by decide +kernel
theorem dX7_append_29 : decode cX7_append 29 = .ok (.getfield 291, 3) := by decide +kernel
theorem dX7_append_32 : decode cX7_append 32 = .ok (.iload_n 1, 1) := by decide +kernel
theorem dX7_append_33 : decode cX7_append 33 = .ok (.iastore, 1) := by decide +kernel
theorem dX7_append_34 : decode cX7_append 34 = .ok (.aload_n 0, 1) := by decide +kernel
theorem dX7_append_35 : decode cX7_append 35 = .ok (.dup, 1) := by decide +kernel
theorem dX7_append_36 : decode cX7_append 36 = .ok (.getfield 291, 3) := by decide +kernel
theorem dX7_append_39 : decode cX7_append 39 = .ok (.iconst 1, 1) := by decide +kernel
theorem dX7_append_40 : decode cX7_append 40 = .ok (.iadd, 1) := by decide +kernel
theorem dX7_append_41 : decode cX7_append 41 = .ok (.putfield 291, 3) := by decide +kernel
theorem dX7_append_44 : decode cX7_append 44 = .ok (.aload_n 0, 1) := by decide +kernel
theorem dX7_append_45 : decode cX7_append 45 = .ok (.getfield 291, 3) := by decide +kernel
theorem dX7_append_48 : decode cX7_append 48 = .ok (.ireturn, 1) := by decide +kernel
theorem dX7_areSizes_0 : decode cX7_areSizes 0 = .ok (.iload_n 1, 1) := by decide +kernel
theorem dX7_areSizes_1 : decode cX7_areSizes 1 = .ok (.ifCond .ne 13, 3) := by decide +kernel
theorem dX7_areSizes_4 : decode cX7_areSizes 4 = .ok (.iload_n 2, 1) := by decide +kernel
theorem dX7_areSizes_5 : decode cX7_areSizes 5 = .ok (.iconst 2, 1) := by decide +kernel
theorem dX7_areSizes_6 : decode cX7_areSizes 6 = .ok (.bipush 7, 2) := by decide +kernel
theorem dX7_areSizes_8 : decode cX7_areSizes 8 = .ok (.invokestatic 61, 3) := by decide +kernel
theorem dX7_areSizes_11 : decode cX7_areSizes 11 = .ok (.goto 35, 3) := by decide +kernel
theorem dX7_areSizes_14 : decode cX7_areSizes 14 = .ok (.iload_n 2, 1) := by decide +kernel
theorem dX7_areSizes_15 : decode cX7_areSizes 15 = .ok (.iconst 4, 1) := by decide +kernel
theorem dX7_areSizes_16 : decode cX7_areSizes 16 = .ok (.if_icmp .eq 15, 3) := by decide +kernel
theorem dX7_areSizes_19 : decode cX7_areSizes 19 = .ok (.iload_n 2, 1) := by decide +kernel
theorem dX7_areSizes_20 : decode cX7_areSizes 20 = .ok (.bipush 6, 2) := by decide +kernel
theorem dX7_areSizes_22 : decode cX7_areSizes 22 = .ok (.if_icmp .eq 9, 3) := by decide +kernel
theorem dX7_areSizes_25 : decode cX7_areSizes 25 = .ok (.iload_n 2, 1) := by decide +kernel
theorem dX7_areSizes_26 : decode cX7_areSizes 26 = .ok (.bipush 8, 2) := by decide +kernel
theorem dX7_areSizes_28 : decode cX7_areSizes 28 = .ok (.if_icmp .ne 17, 3) := by decide +kernel
theorem dX7_areSizes_31 : decode cX7_areSizes 31 = .ok (.aload_n 0, 1) := by decide +kernel
theorem dX7_areSizes_32 : decode cX7_areSizes 32 = .ok (.iload_n 2, 1) := by decide +kernel
theorem dX7_areSizes_33 : decode cX7_areSizes 33 = .ok (.invokevirtual 98, 3) := by decide +kernel
theorem dX7_areSizes_36 : decode cX7_areSizes 36 = .ok (.bipush 24, 2) := by decide +kernel
theorem dX7_areSizes_38 : decode cX7_areSizes 38 = .ok (.if_icmp .ne 7, 3) := by decide +kernel
theorem dX7_areSizes_41 : decode cX7_areSizes 41 = .ok (.iconst 1, 1) := by decide +kernel
theorem dX7_areSizes_42 : decode cX7_areSizes 42 = .ok (.goto 4, 3) := by decide +kernel
theorem dX7_areSizes_45 : decode cX7_areSizes 45 = .ok (.iconst 0, 1) := by decide +kernel
theorem dX7_areSizes_46 : decode cX7_areSizes 46 = .ok (.ireturn, 1) := by decide +kernel
theorem dX7_at_0 : decode cX7_at 0 = .ok (.iconst 3, 1) := by decide +kernel
theorem dX7_at_1 : decode cX7_at 1 = .ok (.bipush 19, 2) := by decide +kernel
theorem dX7_at_3 : decode cX7_at 3 = .ok (.iload_n 0, 1) := by decide +kernel
theorem dX7_at_4 : decode cX7_at 4 = .ok (.imul, 1) := by decide +kernel
theorem dX7_at_5 : decode cX7_at 5 = .ok (.iadd, 1) := by decide +kernel
theorem dX7_at_6 : decode cX7_at 6 = .ok (.iload_n 1, 1) := by decide +kernel
theorem dX7_at_7 : decode cX7_at 7 = .ok (.iadd, 1) := by decide +kernel
theorem dX7_at_8 : decode cX7_at 8 = .ok (.ireturn, 1) := by decide +kernel
theorem dX7_changed_0 : decode cX7_changed 0 = .ok (.aload_n 0, 1) := by decide +kernel
theorem dX7_changed_1 : decode cX7_changed 1 = .ok (.getfield 58, 3) := by decide +kernel
theorem dX7_changed_4 : decode cX7_changed 4 = .ok (.bipush 8, 2) := by decide +kernel
theorem dX7_changed_6 : decode cX7_changed 6 = .ok (.if_icmp .ne 50, 3) := by decide +kernel
theorem dX7_changed_9 : decode cX7_changed 9 = .ok (.iconst 1, 1) := by decide +kernel
theorem dX7_changed_10 : decode cX7_changed 10 = .ok (.istore_n 1, 1) := by decide +kernel
theorem dX7_changed_11 : decode cX7_changed 11 = .ok (.iload_n 1, 1) := by decide +kernel
theorem dX7_changed_12 : decode cX7_changed 12 = .ok (.bipush 8, 2) := by decide +kernel
theorem dX7_changed_14 : decode cX7_changed 14 = .ok (.if_icmp .ge 32, 3) := by decide +kernel
theorem dX7_changed_17 : decode cX7_changed 17 = .ok (.aload_n 0, 1) := by decide +kernel
theorem dX7_changed_18 : decode cX7_changed 18 = .ok (.getfield 19, 3) := by decide +kernel
theorem dX7_changed_21 : decode cX7_changed 21 = .ok (.sipush 155, 3) := by decide +kernel
theorem dX7_changed_24 : decode cX7_changed 24 = .ok (.iload_n 1, 1) := by decide +kernel
theorem dX7_changed_25 : decode cX7_changed 25 = .ok (.imul, 1) := by decide +kernel
theorem dX7_changed_26 : decode cX7_changed 26 = .ok (.aload_n 0, 1) := by decide +kernel
theorem dX7_changed_27 : decode cX7_changed 27 = .ok (.getfield 19, 3) := by decide +kernel
theorem dX7_changed_30 : decode cX7_changed 30 = .ok (.sipush 155, 3) := by decide +kernel
theorem dX7_changed_33 : decode cX7_changed 33 = .ok (.iload_n 1, 1) := by decide +kernel
theorem dX7_changed_34 : decode cX7_changed 34 = .ok (.iconst 1, 1) := by decide +kernel
theorem dX7_changed_35 : decode cX7_changed 35 = .ok (.isub, 1) := by decide +kernel
theorem dX7_changed_36 : decode cX7_changed 36 = .ok (.imul, 1) := by decide +kernel
theorem dX7_changed_37 : decode cX7_changed 37 = .ok (.invokestatic 54, 3) := by decide +kernel
theorem dX7_changed_40 : decode cX7_changed 40 = .ok (.iinc 1 1, 3) := by decide +kernel
theorem dX7_changed_43 : decode cX7_changed 43 = .ok (.goto (-32), 3) := by decide +kernel
theorem dX7_changed_46 : decode cX7_changed 46 = .ok (.aload_n 0, 1) := by decide +kernel
theorem dX7_changed_47 : decode cX7_changed 47 = .ok (.dup, 1) := by decide +kernel
theorem dX7_changed_48 : decode cX7_changed 48 = .ok (.getfield 58, 3) := by decide +kernel
theorem dX7_changed_51 : decode cX7_changed 51 = .ok (.iconst 1, 1) := by decide +kernel
theorem dX7_changed_52 : decode cX7_changed 52 = .ok (.isub, 1) := by decide +kernel
theorem dX7_changed_53 : decode cX7_changed 53 = .ok (.putfield 58, 3) := by decide +kernel
theorem dX7_changed_56 : decode cX7_changed 56 = .ok (.aload_n 0, 1) := by decide +kernel
theorem dX7_changed_57 : decode cX7_changed 57 = .ok (.getfield 13, 3) := by decide +kernel
theorem dX7_changed_60 : decode cX7_changed 60 = .ok (.iconst 0, 1) := by decide +kernel
theorem dX7_changed_61 : decode cX7_changed 61 = .ok (.aload_n 0, 1) := by decide +kernel
theorem dX7_changed_62 : decode cX7_changed 62 = .ok (.getfield 19, 3) := by decide +kernel
theorem dX7_changed_65 : decode cX7_changed 65 = .ok (.sipush 155, 3) := by decide +kernel
theorem dX7_changed_68 : decode cX7_changed 68 = .ok (.aload_n 0, 1) := by decide +kernel
theorem dX7_changed_69 : decode cX7_changed 69 = .ok (.getfield 58, 3) := by decide +kernel
theorem dX7_changed_72 : decode cX7_changed 72 = .ok (.imul, 1) := by decide +kernel
theorem dX7_changed_73 : decode cX7_changed 73 = .ok (.invokestatic 54, 3) := by decide +kernel
theorem dX7_changed_76 : decode cX7_changed 76 = .ok (.aload_n 0, 1) := by decide +kernel
theorem dX7_changed_77 : decode cX7_changed 77 = .ok (.dup, 1) := by decide +kernel
theorem dX7_changed_78 : decode cX7_changed 78 = .ok (.getfield 58, 3) := by decide +kernel
theorem dX7_changed_81 : decode cX7_changed 81 = .ok (.iconst 1, 1) := by decide +kernel
theorem dX7_changed_82 : decode cX7_changed 82 = .ok (.iadd, 1) := by decide +kernel
theorem dX7_changed_83 : decode cX7_changed 83 = .ok (.putfield 58, 3) := by decide +kernel
theorem dX7_changed_86 : decode cX7_changed 86 = .ok (.return_, 1) := by decide +kernel
theorem dX7_collides_0 : decode cX7_collides 0 = .ok (.iconst 0, 1) := by decide +kernel
theorem dX7_collides_1 : decode cX7_collides 1 = .ok (.istore_n 2, 1) := by decide +kernel
theorem dX7_collides_2 : decode cX7_collides 2 = .ok (.iload_n 2, 1) := by decide +kernel
theorem dX7_collides_3 : decode cX7_collides 3 = .ok (.aload_n 0, 1) := by decide +kernel
theorem dX7_collides_4 : decode cX7_collides 4 = .ok (.getfield 255, 3) := by decide +kernel
theorem dX7_collides_7 : decode cX7_collides 7 = .ok (.if_icmp .ge 48, 3) := by decide +kernel
theorem dX7_collides_10 : decode cX7_collides 10 = .ok (.iload_n 2, 1) := by decide +kernel
theorem dX7_collides_11 : decode cX7_collides 11 = .ok (.iload_n 1, 1) := by decide +kernel
theorem dX7_collides_12 : decode cX7_collides 12 = .ok (.if_icmp .eq 37, 3) := by decide +kernel
theorem dX7_collides_15 : decode cX7_collides 15 = .ok (.iload_n 2, 1) := by decide +kernel
theorem dX7_collides_16 : decode cX7_collides 16 = .ok (.iload_n 1, 1) := by decide +kernel
theorem dX7_collides_17 : decode cX7_collides 17 = .ok (.iconst 1, 1) := by decide +kernel
theorem dX7_collides_18 : decode cX7_collides 18 = .ok (.iadd, 1) := by decide +kernel
theorem dX7_collides_19 : decode cX7_collides 19 = .ok (.if_icmp .eq 30, 3) := by decide +kernel
theorem dX7_collides_22 : decode cX7_collides 22 = .ok (.aload_n 0, 1) := by decide +kernel
theorem dX7_collides_23 : decode cX7_collides 23 = .ok (.iload_n 2, 1) := by decide +kernel
theorem dX7_collides_24 : decode cX7_collides 24 = .ok (.aload_n 0, 1) := by decide +kernel
theorem dX7_collides_25 : decode cX7_collides 25 = .ok (.getfield 40, 3) := by decide +kernel
theorem dX7_collides_28 : decode cX7_collides 28 = .ok (.iload_n 1, 1) := by decide +kernel
theorem dX7_collides_29 : decode cX7_collides 29 = .ok (.iconst 1, 1) := by decide +kernel
theorem dX7_collides_30 : decode cX7_collides 30 = .ok (.iadd, 1) := by decide +kernel
theorem dX7_collides_31 : decode cX7_collides 31 = .ok (.iaload, 1) := by decide +kernel
theorem dX7_collides_32 : decode cX7_collides 32 = .ok (.invokevirtual 258, 3) := by decide +kernel
theorem dX7_collides_35 : decode cX7_collides 35 = .ok (.ifCond .eq 14, 3) := by decide +kernel
theorem dX7_collides_38 : decode cX7_collides 38 = .ok (.aload_n 0, 1) := by decide +kernel
theorem dX7_collides_39 : decode cX7_collides 39 = .ok (.iload_n 2, 1) := by decide +kernel
theorem dX7_collides_40 : decode cX7_collides 40 = .ok (.iload_n 1, 1) := by decide +kernel
theorem dX7_collides_41 : decode cX7_collides 41 = .ok (.invokevirtual 261, 3) := by decide +kernel
theorem dX7_collides_44 : decode cX7_collides 44 = .ok (.ifCond .eq 5, 3) := by decide +kernel
theorem dX7_collides_47 : decode cX7_collides 47 = .ok (.iconst 1, 1) := by decide +kernel
theorem dX7_collides_48 : decode cX7_collides 48 = .ok (.ireturn, 1) := by decide +kernel
theorem dX7_collides_49 : decode cX7_collides 49 = .ok (.iinc 2 1, 3) := by decide +kernel
theorem dX7_collides_52 : decode cX7_collides 52 = .ok (.goto (-50), 3) := by decide +kernel
theorem dX7_collides_55 : decode cX7_collides 55 = .ok (.iload_n 1, 1) := by decide +kernel
theorem dX7_collides_56 : decode cX7_collides 56 = .ok (.iconst 2, 1) := by decide +kernel
theorem dX7_collides_57 : decode cX7_collides 57 = .ok (.irem, 1) := by decide +kernel
theorem dX7_collides_58 : decode cX7_collides 58 = .ok (.istore_n 2, 1) := by decide +kernel
theorem dX7_collides_59 : decode cX7_collides 59 = .ok (.iload_n 2, 1) := by decide +kernel
theorem dX7_collides_60 : decode cX7_collides 60 = .ok (.aload_n 0, 1) := by decide +kernel
theorem dX7_collides_61 : decode cX7_collides 61 = .ok (.getfield 255, 3) := by decide +kernel
theorem dX7_collides_64 : decode cX7_collides 64 = .ok (.iconst 1, 1) := by decide +kernel
theorem dX7_collides_65 : decode cX7_collides 65 = .ok (.isub, 1) := by decide +kernel
theorem dX7_collides_66 : decode cX7_collides 66 = .ok (.if_icmp .ge 62, 3) := by decide +kernel
theorem dX7_collides_69 : decode cX7_collides 69 = .ok (.iload_n 2, 1) := by decide +kernel
theorem dX7_collides_70 : decode cX7_collides 70 = .ok (.iload_n 1, 1) := by decide +kernel
theorem dX7_collides_71 : decode cX7_collides 71 = .ok (.if_icmp .eq 26, 3) := by decide +kernel
theorem dX7_collides_74 : decode cX7_collides 74 = .ok (.aload_n 0, 1) := by decide +kernel
theorem dX7_collides_75 : decode cX7_collides 75 = .ok (.getfield 40, 3) := by decide +kernel
theorem dX7_collides_78 : decode cX7_collides 78 = .ok (.iload_n 2, 1) := by decide +kernel
theorem dX7_collides_79 : decode cX7_collides 79 = .ok (.iconst 1, 1) := by decide +kernel
theorem dX7_collides_80 : decode cX7_collides 80 = .ok (.iadd, 1) := by decide +kernel
theorem dX7_collides_81 : decode cX7_collides 81 = .ok (.iaload, 1) := by decide +kernel
theorem dX7_collides_82 : decode cX7_collides 82 = .ok (.aload_n 0, 1) := by decide +kernel
theorem dX7_collides_83 : decode cX7_collides 83 = .ok (.getfield 40, 3) := by decide +kernel
theorem dX7_collides_86 : decode cX7_collides 86 = .ok (.iload_n 1, 1) := by decide +kernel
theorem dX7_collides_87 : decode cX7_collides 87 = .ok (.iconst 1, 1) := by decide +kernel
theorem dX7_collides_88 : decode cX7_collides 88 = .ok (.iadd, 1) := by decide +kernel
theorem dX7_collides_89 : decode cX7_collides 89 = .ok (.iaload, 1) := by decide +kernel
theorem dX7_collides_90 : decode cX7_collides 90 = .ok (.if_icmp .ne 7, 3) := by decide +kernel
theorem dX7_collides_93 : decode cX7_collides 93 = .ok (.iconst 1, 1) := by decide +kernel
theorem dX7_collides_94 : decode cX7_collides 94 = .ok (.goto 4, 3) := by decide +kernel
theorem dX7_collides_97 : decode cX7_collides 97 = .ok (.iconst 0, 1) := by decide +kernel
theorem dX7_collides_98 : decode cX7_collides 98 = .ok (.istore_n 3, 1) := by decide +kernel
theorem dX7_collides_99 : decode cX7_collides 99 = .ok (.iload_n 3, 1) := by decide +kernel
theorem dX7_collides_100 : decode cX7_collides 100 = .ok (.ifCond .eq 22, 3) := by decide +kernel
theorem dX7_collides_103 : decode cX7_collides 103 = .ok (.aload_n 0, 1) := by decide +kernel
theorem dX7_collides_104 : decode cX7_collides 104 = .ok (.iload_n 2, 1) := by decide +kernel
theorem dX7_collides_105 : decode cX7_collides 105 = .ok (.iload_n 1, 1) := by decide +kernel
theorem dX7_collides_106 : decode cX7_collides 106 = .ok (.invokevirtual 261, 3) := by decide +kernel
theorem dX7_collides_109 : decode cX7_collides 109 = .ok (.aload_n 0, 1) := by decide +kernel
theorem dX7_collides_110 : decode cX7_collides 110 = .ok (.iload_n 2, 1) := by decide +kernel
theorem dX7_collides_111 : decode cX7_collides 111 = .ok (.iconst 1, 1) := by decide +kernel
theorem dX7_collides_112 : decode cX7_collides 112 = .ok (.iadd, 1) := by decide +kernel
theorem dX7_collides_113 : decode cX7_collides 113 = .ok (.iload_n 1, 1) := by decide +kernel
theorem dX7_collides_114 : decode cX7_collides 114 = .ok (.invokevirtual 261, 3) := by decide +kernel
theorem dX7_collides_117 : decode cX7_collides 117 = .ok (.if_icmp .eq 5, 3) := by decide +kernel
theorem dX7_collides_120 : decode cX7_collides 120 = .ok (.iconst 1, 1) := by decide +kernel
theorem dX7_collides_121 : decode cX7_collides 121 = .ok (.ireturn, 1) := by decide +kernel
theorem dX7_collides_122 : decode cX7_collides 122 = .ok (.iinc 2 2, 3) := by decide +kernel
theorem dX7_collides_125 : decode cX7_collides 125 = .ok (.goto (-66), 3) := by decide +kernel
theorem dX7_collides_128 : decode cX7_collides 128 = .ok (.iconst 0, 1) := by decide +kernel
theorem dX7_collides_129 : decode cX7_collides 129 = .ok (.ireturn, 1) := by decide +kernel
theorem dX7_copies_0 : decode cX7_copies 0 = .ok (.iconst 0, 1) := by decide +kernel
theorem dX7_copies_1 : decode cX7_copies 1 = .ok (.istore 4, 2) := by decide +kernel
theorem dX7_copies_3 : decode cX7_copies 3 = .ok (.iload 4, 2) := by decide +kernel
theorem dX7_copies_5 : decode cX7_copies 5 = .ok (.sipush 155, 3) := by decide +kernel
theorem dX7_copies_8 : decode cX7_copies 8 = .ok (.if_icmp .ge 21, 3) := by decide +kernel
theorem dX7_copies_11 : decode cX7_copies 11 = .ok (.aload_n 2, 1) := by decide +kernel
theorem dX7_copies_12 : decode cX7_copies 12 = .ok (.iload_n 3, 1) := by decide +kernel
theorem dX7_copies_13 : decode cX7_copies 13 = .ok (.iload 4, 2) := by decide +kernel
theorem dX7_copies_15 : decode cX7_copies 15 = .ok (.iadd, 1) := by decide +kernel
theorem dX7_copies_16 : decode cX7_copies 16 = .ok (.aload_n 0, 1) := by decide +kernel
theorem dX7_copies_17 : decode cX7_copies 17 = .ok (.iload_n 1, 1) := by decide +kernel
theorem dX7_copies_18 : decode cX7_copies 18 = .ok (.iload 4, 2) := by decide +kernel
theorem dX7_copies_20 : decode cX7_copies 20 = .ok (.iadd, 1) := by decide +kernel
theorem dX7_copies_21 : decode cX7_copies 21 = .ok (.iaload, 1) := by decide +kernel
theorem dX7_copies_22 : decode cX7_copies 22 = .ok (.iastore, 1) := by decide +kernel
theorem dX7_copies_23 : decode cX7_copies 23 = .ok (.iinc 4 1, 3) := by decide +kernel
theorem dX7_copies_26 : decode cX7_copies 26 = .ok (.goto (-23), 3) := by decide +kernel
theorem dX7_copies_29 : decode cX7_copies 29 = .ok (.return_, 1) := by decide +kernel
theorem dX7_countOf_0 : decode cX7_countOf 0 = .ok (.iconst 0, 1) := by decide +kernel
theorem dX7_countOf_1 : decode cX7_countOf 1 = .ok (.istore_n 3, 1) := by decide +kernel
theorem dX7_countOf_2 : decode cX7_countOf 2 = .ok (.iconst 0, 1) := by decide +kernel
theorem dX7_countOf_3 : decode cX7_countOf 3 = .ok (.istore 4, 2) := by decide +kernel
theorem dX7_countOf_5 : decode cX7_countOf 5 = .ok (.iload 4, 2) := by decide +kernel
theorem dX7_countOf_7 : decode cX7_countOf 7 = .ok (.aload_n 0, 1) := by decide +kernel
theorem dX7_countOf_8 : decode cX7_countOf 8 = .ok (.iload_n 1, 1) := by decide +kernel
theorem dX7_countOf_9 : decode cX7_countOf 9 = .ok (.invokevirtual 88, 3) := by decide +kernel
theorem dX7_countOf_12 : decode cX7_countOf 12 = .ok (.if_icmp .ge 28, 3) := by decide +kernel
theorem dX7_countOf_15 : decode cX7_countOf 15 = .ok (.iload_n 3, 1) := by decide +kernel
theorem dX7_countOf_16 : decode cX7_countOf 16 = .ok (.aload_n 0, 1) := by decide +kernel
theorem dX7_countOf_17 : decode cX7_countOf 17 = .ok (.iload_n 1, 1) := by decide +kernel
theorem dX7_countOf_18 : decode cX7_countOf 18 = .ok (.iload 4, 2) := by decide +kernel
theorem dX7_countOf_20 : decode cX7_countOf 20 = .ok (.invokevirtual 92, 3) := by decide +kernel
theorem dX7_countOf_23 : decode cX7_countOf 23 = .ok (.iload_n 2, 1) := by decide +kernel
theorem dX7_countOf_24 : decode cX7_countOf 24 = .ok (.if_icmp .ne 7, 3) := by decide +kernel
theorem dX7_countOf_27 : decode cX7_countOf 27 = .ok (.iconst 1, 1) := by decide +kernel
theorem dX7_countOf_28 : decode cX7_countOf 28 = .ok (.goto 4, 3) := by decide +kernel
theorem dX7_countOf_31 : decode cX7_countOf 31 = .ok (.iconst 0, 1) := by decide +kernel
theorem dX7_countOf_32 : decode cX7_countOf 32 = .ok (.iadd, 1) := by decide +kernel
theorem dX7_countOf_33 : decode cX7_countOf 33 = .ok (.istore_n 3, 1) := by decide +kernel
theorem dX7_countOf_34 : decode cX7_countOf 34 = .ok (.iinc 4 1, 3) := by decide +kernel
theorem dX7_countOf_37 : decode cX7_countOf 37 = .ok (.goto (-32), 3) := by decide +kernel
theorem dX7_countOf_40 : decode cX7_countOf 40 = .ok (.iload_n 3, 1) := by decide +kernel
theorem dX7_countOf_41 : decode cX7_countOf 41 = .ok (.ireturn, 1) := by decide +kernel
theorem dX7_crease_0 : decode cX7_crease 0 = .ok (.aload_n 0, 1) := by decide +kernel
theorem dX7_crease_1 : decode cX7_crease 1 = .ok (.iload_n 1, 1) := by decide +kernel
theorem dX7_crease_2 : decode cX7_crease 2 = .ok (.iload_n 2, 1) := by decide +kernel
theorem dX7_crease_3 : decode cX7_crease 3 = .ok (.invokevirtual 127, 3) := by decide +kernel
theorem dX7_crease_6 : decode cX7_crease 6 = .ok (.ifCond .eq 12, 3) := by decide +kernel
theorem dX7_crease_9 : decode cX7_crease 9 = .ok (.aload_n 0, 1) := by decide +kernel
theorem dX7_crease_10 : decode cX7_crease 10 = .ok (.iload_n 1, 1) := by decide +kernel
theorem dX7_crease_11 : decode cX7_crease 11 = .ok (.iload_n 2, 1) := by decide +kernel
theorem dX7_crease_12 : decode cX7_crease 12 = .ok (.invokevirtual 92, 3) := by decide +kernel
theorem dX7_crease_15 : decode cX7_crease 15 = .ok (.goto 6, 3) := by decide +kernel
theorem dX7_crease_18 : decode cX7_crease 18 = .ok (.sipush (-1001), 3) := by decide +kernel
theorem dX7_crease_21 : decode cX7_crease 21 = .ok (.ireturn, 1) := by decide +kernel
theorem dX7_creaseOf_0 : decode cX7_creaseOf 0 = .ok (.aload_n 0, 1) := by decide +kernel
theorem dX7_creaseOf_1 : decode cX7_creaseOf 1 = .ok (.iload_n 1, 1) := by decide +kernel
theorem dX7_creaseOf_2 : decode cX7_creaseOf 2 = .ok (.bipush 11, 2) := by decide +kernel
theorem dX7_creaseOf_4 : decode cX7_creaseOf 4 = .ok (.iload_n 2, 1) := by decide +kernel
theorem dX7_creaseOf_5 : decode cX7_creaseOf 5 = .ok (.iadd, 1) := by decide +kernel
theorem dX7_creaseOf_6 : decode cX7_creaseOf 6 = .ok (.invokevirtual 78, 3) := by decide +kernel
theorem dX7_creaseOf_9 : decode cX7_creaseOf 9 = .ok (.ireturn, 1) := by decide +kernel
theorem dX7_creases_0 : decode cX7_creases 0 = .ok (.aload_n 0, 1) := by decide +kernel
theorem dX7_creases_1 : decode cX7_creases 1 = .ok (.iload_n 1, 1) := by decide +kernel
theorem dX7_creases_2 : decode cX7_creases 2 = .ok (.iconst 1, 1) := by decide +kernel
theorem dX7_creases_3 : decode cX7_creases 3 = .ok (.invokevirtual 78, 3) := by decide +kernel
theorem dX7_creases_6 : decode cX7_creases 6 = .ok (.aload_n 0, 1) := by decide +kernel
theorem dX7_creases_7 : decode cX7_creases 7 = .ok (.iload_n 1, 1) := by decide +kernel
theorem dX7_creases_8 : decode cX7_creases 8 = .ok (.invokevirtual 81, 3) := by decide +kernel
theorem dX7_creases_11 : decode cX7_creases 11 = .ok (.ifCond .eq 7, 3) := by decide +kernel
theorem dX7_creases_14 : decode cX7_creases 14 = .ok (.iconst 0, 1) := by decide +kernel
theorem dX7_creases_15 : decode cX7_creases 15 = .ok (.goto 4, 3) := by decide +kernel
theorem dX7_creases_18 : decode cX7_creases 18 = .ok (.iconst 1, 1) := by decide +kernel
theorem dX7_creases_19 : decode cX7_creases 19 = .ok (.isub, 1) := by decide +kernel
theorem dX7_creases_20 : decode cX7_creases 20 = .ok (.ireturn, 1) := by decide +kernel
theorem dX7_crimped_0 : decode cX7_crimped 0 = .ok (.aload_n 0, 1) := by decide +kernel
theorem dX7_crimped_1 : decode cX7_crimped 1 = .ok (.getfield 161, 3) := by decide +kernel
theorem dX7_crimped_4 : decode cX7_crimped 4 = .ok (.ifCond .eq 13, 3) := by decide +kernel
theorem dX7_crimped_7 : decode cX7_crimped 7 = .ok (.aload_n 0, 1) := by decide +kernel
theorem dX7_crimped_8 : decode cX7_crimped 8 = .ok (.getfield 165, 3) := by decide +kernel
theorem dX7_crimped_11 : decode cX7_crimped 11 = .ok (.iconst 2, 1) := by decide +kernel
theorem dX7_crimped_12 : decode cX7_crimped 12 = .ok (.if_icmp .gt 5, 3) := by decide +kernel
theorem dX7_crimped_15 : decode cX7_crimped 15 = .ok (.iconst (-1), 1) := by decide +kernel
theorem dX7_crimped_16 : decode cX7_crimped 16 = .ok (.ireturn, 1) := by decide +kernel
theorem dX7_crimped_17 : decode cX7_crimped 17 = .ok (.aload_n 0, 1) := by decide +kernel
theorem dX7_crimped_18 : decode cX7_crimped 18 = .ok (.getfield 161, 3) := by decide +kernel
theorem dX7_crimped_21 : decode cX7_crimped 21 = .ok (.ifCond .eq 7, 3) := by decide +kernel
theorem dX7_crimped_24 : decode cX7_crimped 24 = .ok (.iconst 0, 1) := by decide +kernel
theorem dX7_crimped_25 : decode cX7_crimped 25 = .ok (.goto 4, 3) := by decide +kernel
theorem dX7_crimped_28 : decode cX7_crimped 28 = .ok (.iconst 1, 1) := by decide +kernel
theorem dX7_crimped_29 : decode cX7_crimped 29 = .ok (.istore_n 1, 1) := by decide +kernel
theorem dX7_crimped_30 : decode cX7_crimped 30 = .ok (.iload_n 1, 1) := by decide +kernel
theorem dX7_crimped_31 : decode cX7_crimped 31 = .ok (.aload_n 0, 1) := by decide +kernel
theorem dX7_crimped_32 : decode cX7_crimped 32 = .ok (.getfield 161, 3) := by decide +kernel
theorem dX7_crimped_35 : decode cX7_crimped 35 = .ok (.ifCond .eq 10, 3) := by decide +kernel
theorem dX7_crimped_38 : decode cX7_crimped 38 = .ok (.aload_n 0, 1) := by decide +kernel
theorem dX7_crimped_39 : decode cX7_crimped 39 = .ok (.getfield 165, 3) := by decide +kernel
theorem dX7_crimped_42 : decode cX7_crimped 42 = .ok (.goto 9, 3) := by decide +kernel
theorem dX7_crimped_45 : decode cX7_crimped 45 = .ok (.aload_n 0, 1) := by decide +kernel
theorem dX7_crimped_46 : decode cX7_crimped 46 = .ok (.getfield 165, 3) := by decide +kernel
theorem dX7_crimped_49 : decode cX7_crimped 49 = .ok (.iconst 1, 1) := by decide +kernel
theorem dX7_crimped_50 : decode cX7_crimped 50 = .ok (.isub, 1) := by decide +kernel
theorem dX7_crimped_51 : decode cX7_crimped 51 = .ok (.if_icmp .ge 140, 3) := by decide +kernel
theorem dX7_crimped_54 : decode cX7_crimped 54 = .ok (.iload_n 1, 1) := by decide +kernel
theorem dX7_crimped_55 : decode cX7_crimped 55 = .ok (.aload_n 0, 1) := by decide +kernel
theorem dX7_crimped_56 : decode cX7_crimped 56 = .ok (.getfield 165, 3) := by decide +kernel
theorem dX7_crimped_59 : decode cX7_crimped 59 = .ok (.iadd, 1) := by decide +kernel
theorem dX7_crimped_60 : decode cX7_crimped 60 = .ok (.iconst 1, 1) := by decide +kernel
theorem dX7_crimped_61 : decode cX7_crimped 61 = .ok (.isub, 1) := by decide +kernel
theorem dX7_crimped_62 : decode cX7_crimped 62 = .ok (.aload_n 0, 1) := by decide +kernel
theorem dX7_crimped_63 : decode cX7_crimped 63 = .ok (.getfield 165, 3) := by decide +kernel
theorem dX7_crimped_66 : decode cX7_crimped 66 = .ok (.irem, 1) := by decide +kernel
theorem dX7_crimped_67 : decode cX7_crimped 67 = .ok (.istore_n 2, 1) := by decide +kernel
theorem dX7_crimped_68 : decode cX7_crimped 68 = .ok (.iload_n 1, 1) := by decide +kernel
theorem dX7_crimped_69 : decode cX7_crimped 69 = .ok (.iconst 1, 1) := by decide +kernel
theorem dX7_crimped_70 : decode cX7_crimped 70 = .ok (.iadd, 1) := by decide +kernel
theorem dX7_crimped_71 : decode cX7_crimped 71 = .ok (.aload_n 0, 1) := by decide +kernel
theorem dX7_crimped_72 : decode cX7_crimped 72 = .ok (.getfield 165, 3) := by decide +kernel
theorem dX7_crimped_75 : decode cX7_crimped 75 = .ok (.irem, 1) := by decide +kernel
theorem dX7_crimped_76 : decode cX7_crimped 76 = .ok (.istore_n 3, 1) := by decide +kernel
theorem dX7_crimped_77 : decode cX7_crimped 77 = .ok (.aload_n 0, 1) := by decide +kernel
theorem dX7_crimped_78 : decode cX7_crimped 78 = .ok (.getfield 161, 3) := by decide +kernel
theorem dX7_crimped_81 : decode cX7_crimped 81 = .ok (.ifCond .eq 12, 3) := by decide +kernel
theorem dX7_crimped_84 : decode cX7_crimped 84 = .ok (.aload_n 0, 1) := by decide +kernel
theorem dX7_crimped_85 : decode cX7_crimped 85 = .ok (.getfield 31, 3) := by decide +kernel
theorem dX7_crimped_88 : decode cX7_crimped 88 = .ok (.iload_n 1, 1) := by decide +kernel
theorem dX7_crimped_89 : decode cX7_crimped 89 = .ok (.iaload, 1) := by decide +kernel
theorem dX7_crimped_90 : decode cX7_crimped 90 = .ok (.goto 11, 3) := by decide +kernel
theorem dX7_crimped_93 : decode cX7_crimped 93 = .ok (.aload_n 0, 1) := by decide +kernel
theorem dX7_crimped_94 : decode cX7_crimped 94 = .ok (.getfield 31, 3) := by decide +kernel
theorem dX7_crimped_97 : decode cX7_crimped 97 = .ok (.iload_n 1, 1) := by decide +kernel
theorem dX7_crimped_98 : decode cX7_crimped 98 = .ok (.iconst 1, 1) := by decide +kernel
theorem dX7_crimped_99 : decode cX7_crimped 99 = .ok (.isub, 1) := by decide +kernel
theorem dX7_crimped_100 : decode cX7_crimped 100 = .ok (.iaload, 1) := by decide +kernel
theorem dX7_crimped_101 : decode cX7_crimped 101 = .ok (.istore 4, 2) := by decide +kernel
theorem dX7_crimped_103 : decode cX7_crimped 103 = .ok (.aload_n 0, 1) := by decide +kernel
theorem dX7_crimped_104 : decode cX7_crimped 104 = .ok (.getfield 161, 3) := by decide +kernel
theorem dX7_crimped_107 : decode cX7_crimped 107 = .ok (.ifCond .eq 12, 3) := by decide +kernel
theorem dX7_crimped_110 : decode cX7_crimped 110 = .ok (.aload_n 0, 1) := by decide +kernel
theorem dX7_crimped_111 : decode cX7_crimped 111 = .ok (.getfield 31, 3) := by decide +kernel
theorem dX7_crimped_114 : decode cX7_crimped 114 = .ok (.iload_n 3, 1) := by decide +kernel
theorem dX7_crimped_115 : decode cX7_crimped 115 = .ok (.iaload, 1) := by decide +kernel
theorem dX7_crimped_116 : decode cX7_crimped 116 = .ok (.goto 9, 3) := by decide +kernel
theorem dX7_crimped_119 : decode cX7_crimped 119 = .ok (.aload_n 0, 1) := by decide +kernel
theorem dX7_crimped_120 : decode cX7_crimped 120 = .ok (.getfield 31, 3) := by decide +kernel
theorem dX7_crimped_123 : decode cX7_crimped 123 = .ok (.iload_n 1, 1) := by decide +kernel
theorem dX7_crimped_124 : decode cX7_crimped 124 = .ok (.iaload, 1) := by decide +kernel
theorem dX7_crimped_125 : decode cX7_crimped 125 = .ok (.istore 5, 2) := by decide +kernel
theorem dX7_crimped_127 : decode cX7_crimped 127 = .ok (.aload_n 0, 1) := by decide +kernel
theorem dX7_crimped_128 : decode cX7_crimped 128 = .ok (.getfield 28, 3) := by decide +kernel
theorem dX7_crimped_131 : decode cX7_crimped 131 = .ok (.iload_n 1, 1) := by decide +kernel
theorem dX7_crimped_132 : decode cX7_crimped 132 = .ok (.iaload, 1) := by decide +kernel
theorem dX7_crimped_133 : decode cX7_crimped 133 = .ok (.aload_n 0, 1) := by decide +kernel
theorem dX7_crimped_134 : decode cX7_crimped 134 = .ok (.getfield 28, 3) := by decide +kernel
theorem dX7_crimped_137 : decode cX7_crimped 137 = .ok (.iload_n 2, 1) := by decide +kernel
theorem dX7_crimped_138 : decode cX7_crimped 138 = .ok (.iaload, 1) := by decide +kernel
theorem dX7_crimped_139 : decode cX7_crimped 139 = .ok (.if_icmp .gt 46, 3) := by decide +kernel
theorem dX7_crimped_142 : decode cX7_crimped 142 = .ok (.aload_n 0, 1) := by decide +kernel
theorem dX7_crimped_143 : decode cX7_crimped 143 = .ok (.getfield 28, 3) := by decide +kernel
theorem dX7_crimped_146 : decode cX7_crimped 146 = .ok (.iload_n 1, 1) := by decide +kernel
theorem dX7_crimped_147 : decode cX7_crimped 147 = .ok (.iaload, 1) := by decide +kernel
theorem dX7_crimped_148 : decode cX7_crimped 148 = .ok (.aload_n 0, 1) := by decide +kernel
theorem dX7_crimped_149 : decode cX7_crimped 149 = .ok (.getfield 28, 3) := by decide +kernel
theorem dX7_crimped_152 : decode cX7_crimped 152 = .ok (.iload_n 3, 1) := by decide +kernel
theorem dX7_crimped_153 : decode cX7_crimped 153 = .ok (.iaload, 1) := by decide +kernel
theorem dX7_crimped_154 : decode cX7_crimped 154 = .ok (.if_icmp .gt 31, 3) := by decide +kernel
theorem dX7_crimped_157 : decode cX7_crimped 157 = .ok (.iload 4, 2) := by decide +kernel
theorem dX7_crimped_159 : decode cX7_crimped 159 = .ok (.iload 5, 2) := by decide +kernel
theorem dX7_crimped_161 : decode cX7_crimped 161 = .ok (.iadd, 1) := by decide +kernel
theorem dX7_crimped_162 : decode cX7_crimped 162 = .ok (.iconst 3, 1) := by decide +kernel
theorem dX7_crimped_163 : decode cX7_crimped 163 = .ok (.if_icmp .ne 22, 3) := by decide +kernel
theorem dX7_crimped_166 : decode cX7_crimped 166 = .ok (.iload 4, 2) := by decide +kernel
theorem dX7_crimped_168 : decode cX7_crimped 168 = .ok (.iload 5, 2) := by decide +kernel
theorem dX7_crimped_170 : decode cX7_crimped 170 = .ok (.if_icmp .eq 15, 3) := by decide +kernel
theorem dX7_crimped_173 : decode cX7_crimped 173 = .ok (.iload 4, 2) := by decide +kernel
theorem dX7_crimped_175 : decode cX7_crimped 175 = .ok (.ifCond .eq 10, 3) := by decide +kernel
theorem dX7_crimped_178 : decode cX7_crimped 178 = .ok (.iload 5, 2) := by decide +kernel
theorem dX7_crimped_180 : decode cX7_crimped 180 = .ok (.ifCond .eq 5, 3) := by decide +kernel
theorem dX7_crimped_183 : decode cX7_crimped 183 = .ok (.iload_n 1, 1) := by decide +kernel
theorem dX7_crimped_184 : decode cX7_crimped 184 = .ok (.ireturn, 1) := by decide +kernel
theorem dX7_crimped_185 : decode cX7_crimped 185 = .ok (.iinc 1 1, 3) := by decide +kernel
theorem dX7_crimped_188 : decode cX7_crimped 188 = .ok (.goto (-158), 3) := by decide +kernel
theorem dX7_crimped_191 : decode cX7_crimped 191 = .ok (.iconst (-1), 1) := by decide +kernel
theorem dX7_crimped_192 : decode cX7_crimped 192 = .ok (.ireturn, 1) := by decide +kernel
theorem dX7_crimpsCorner_0 : decode cX7_crimpsCorner 0 = .ok (.iload_n 1, 1) := by decide +kernel
theorem dX7_crimpsCorner_1 : decode cX7_crimpsCorner 1 = .ok (.aload_n 0, 1) := by decide +kernel
theorem dX7_crimpsCorner_2 : decode cX7_crimpsCorner 2 = .ok (.getfield 165, 3) := by decide +kernel
theorem dX7_crimpsCorner_5 : decode cX7_crimpsCorner 5 = .ok (.iadd, 1) := by decide +kernel
theorem dX7_crimpsCorner_6 : decode cX7_crimpsCorner 6 = .ok (.iconst 1, 1) := by decide +kernel
theorem dX7_crimpsCorner_7 : decode cX7_crimpsCorner 7 = .ok (.isub, 1) := by decide +kernel
theorem dX7_crimpsCorner_8 : decode cX7_crimpsCorner 8 = .ok (.aload_n 0, 1) := by decide +kernel
theorem dX7_crimpsCorner_9 : decode cX7_crimpsCorner 9 = .ok (.getfield 165, 3) := by decide +kernel
theorem dX7_crimpsCorner_12 : decode cX7_crimpsCorner 12 = .ok (.irem, 1) := by decide +kernel
theorem dX7_crimpsCorner_13 : decode cX7_crimpsCorner 13 = .ok (.istore_n 2, 1) := by decide +kernel
theorem dX7_crimpsCorner_14 : decode cX7_crimpsCorner 14 = .ok (.iload_n 1, 1) := by decide +kernel
theorem dX7_crimpsCorner_15 : decode cX7_crimpsCorner 15 = .ok (.iconst 1, 1) := by decide +kernel
theorem dX7_crimpsCorner_16 : decode cX7_crimpsCorner 16 = .ok (.iadd, 1) := by decide +kernel
theorem dX7_crimpsCorner_17 : decode cX7_crimpsCorner 17 = .ok (.aload_n 0, 1) := by decide +kernel
theorem dX7_crimpsCorner_18 : decode cX7_crimpsCorner 18 = .ok (.getfield 165, 3) := by decide +kernel
theorem dX7_crimpsCorner_21 : decode cX7_crimpsCorner 21 = .ok (.irem, 1) := by decide +kernel
theorem dX7_crimpsCorner_22 : decode cX7_crimpsCorner 22 = .ok (.istore_n 3, 1) := by decide +kernel
theorem dX7_crimpsCorner_23 : decode cX7_crimpsCorner 23 = .ok (.aload_n 0, 1) := by decide +kernel
theorem dX7_crimpsCorner_24 : decode cX7_crimpsCorner 24 = .ok (.getfield 28, 3) := by decide +kernel
theorem dX7_crimpsCorner_27 : decode cX7_crimpsCorner 27 = .ok (.iload_n 2, 1) := by decide +kernel
theorem dX7_crimpsCorner_28 : decode cX7_crimpsCorner 28 = .ok (.aload_n 0, 1) := by decide +kernel
theorem dX7_crimpsCorner_29 : decode cX7_crimpsCorner 29 = .ok (.getfield 28, 3) := by decide +kernel
theorem dX7_crimpsCorner_32 : decode cX7_crimpsCorner 32 = .ok (.iload_n 2, 1) := by decide +kernel
theorem dX7_crimpsCorner_33 : decode cX7_crimpsCorner 33 = .ok (.iaload, 1) := by decide +kernel
theorem dX7_crimpsCorner_34 : decode cX7_crimpsCorner 34 = .ok (.aload_n 0, 1) := by decide +kernel
theorem dX7_crimpsCorner_35 : decode cX7_crimpsCorner 35 = .ok (.getfield 28, 3) := by decide +kernel
theorem dX7_crimpsCorner_38 : decode cX7_crimpsCorner 38 = .ok (.iload_n 3, 1) := by decide +kernel
theorem dX7_crimpsCorner_39 : decode cX7_crimpsCorner 39 = .ok (.iaload, 1) := by decide +kernel
theorem dX7_crimpsCorner_40 : decode cX7_crimpsCorner 40 = .ok (.iadd, 1) := by decide +kernel
theorem dX7_crimpsCorner_41 : decode cX7_crimpsCorner 41 = .ok (.aload_n 0, 1) := by decide +kernel
theorem dX7_crimpsCorner_42 : decode cX7_crimpsCorner 42 = .ok (.getfield 28, 3) := by decide +kernel
theorem dX7_crimpsCorner_45 : decode cX7_crimpsCorner 45 = .ok (.iload_n 1, 1) := by decide +kernel
theorem dX7_crimpsCorner_46 : decode cX7_crimpsCorner 46 = .ok (.iaload, 1) := by decide +kernel
theorem dX7_crimpsCorner_47 : decode cX7_crimpsCorner 47 = .ok (.isub, 1) := by decide +kernel
theorem dX7_crimpsCorner_48 : decode cX7_crimpsCorner 48 = .ok (.iastore, 1) := by decide +kernel
theorem dX7_crimpsCorner_49 : decode cX7_crimpsCorner 49 = .ok (.iload_n 1, 1) := by decide +kernel
theorem dX7_crimpsCorner_50 : decode cX7_crimpsCorner 50 = .ok (.iload_n 3, 1) := by decide +kernel
theorem dX7_crimpsCorner_51 : decode cX7_crimpsCorner 51 = .ok (.invokestatic 178, 3) := by decide +kernel
theorem dX7_crimpsCorner_54 : decode cX7_crimpsCorner 54 = .ok (.istore 4, 2) := by decide +kernel
theorem dX7_crimpsCorner_56 : decode cX7_crimpsCorner 56 = .ok (.iload_n 1, 1) := by decide +kernel
theorem dX7_crimpsCorner_57 : decode cX7_crimpsCorner 57 = .ok (.iload_n 3, 1) := by decide +kernel
theorem dX7_crimpsCorner_58 : decode cX7_crimpsCorner 58 = .ok (.invokestatic 155, 3) := by decide +kernel
theorem dX7_crimpsCorner_61 : decode cX7_crimpsCorner 61 = .ok (.istore 5, 2) := by decide +kernel
theorem dX7_crimpsCorner_63 : decode cX7_crimpsCorner 63 = .ok (.aload_n 0, 1) := by decide +kernel
theorem dX7_crimpsCorner_64 : decode cX7_crimpsCorner 64 = .ok (.iload 4, 2) := by decide +kernel
theorem dX7_crimpsCorner_66 : decode cX7_crimpsCorner 66 = .ok (.invokevirtual 175, 3) := by decide +kernel
theorem dX7_crimpsCorner_69 : decode cX7_crimpsCorner 69 = .ok (.aload_n 0, 1) := by decide +kernel
theorem dX7_crimpsCorner_70 : decode cX7_crimpsCorner 70 = .ok (.iload 4, 2) := by decide +kernel
theorem dX7_crimpsCorner_72 : decode cX7_crimpsCorner 72 = .ok (.invokevirtual 172, 3) := by decide +kernel
theorem dX7_crimpsCorner_75 : decode cX7_crimpsCorner 75 = .ok (.aload_n 0, 1) := by decide +kernel
theorem dX7_crimpsCorner_76 : decode cX7_crimpsCorner 76 = .ok (.dup, 1) := by decide +kernel
theorem dX7_crimpsCorner_77 : decode cX7_crimpsCorner 77 = .ok (.getfield 165, 3) := by decide +kernel
theorem dX7_crimpsCorner_80 : decode cX7_crimpsCorner 80 = .ok (.iconst 1, 1) := by decide +kernel
theorem dX7_crimpsCorner_81 : decode cX7_crimpsCorner 81 = .ok (.isub, 1) := by decide +kernel
theorem dX7_crimpsCorner_82 : decode cX7_crimpsCorner 82 = .ok (.putfield 165, 3) := by decide +kernel
theorem dX7_crimpsCorner_85 : decode cX7_crimpsCorner 85 = .ok (.aload_n 0, 1) := by decide +kernel
theorem dX7_crimpsCorner_86 : decode cX7_crimpsCorner 86 = .ok (.iload 5, 2) := by decide +kernel
theorem dX7_crimpsCorner_88 : decode cX7_crimpsCorner 88 = .ok (.invokevirtual 175, 3) := by decide +kernel
theorem dX7_crimpsCorner_91 : decode cX7_crimpsCorner 91 = .ok (.aload_n 0, 1) := by decide +kernel
theorem dX7_crimpsCorner_92 : decode cX7_crimpsCorner 92 = .ok (.iload 5, 2) := by decide +kernel
theorem dX7_crimpsCorner_94 : decode cX7_crimpsCorner 94 = .ok (.invokevirtual 172, 3) := by decide +kernel
theorem dX7_crimpsCorner_97 : decode cX7_crimpsCorner 97 = .ok (.aload_n 0, 1) := by decide +kernel
theorem dX7_crimpsCorner_98 : decode cX7_crimpsCorner 98 = .ok (.dup, 1) := by decide +kernel
theorem dX7_crimpsCorner_99 : decode cX7_crimpsCorner 99 = .ok (.getfield 165, 3) := by decide +kernel
theorem dX7_crimpsCorner_102 : decode cX7_crimpsCorner 102 = .ok (.iconst 1, 1) := by decide +kernel
theorem dX7_crimpsCorner_103 : decode cX7_crimpsCorner 103 = .ok (.isub, 1) := by decide +kernel
theorem dX7_crimpsCorner_104 : decode cX7_crimpsCorner 104 = .ok (.putfield 165, 3) := by decide +kernel
theorem dX7_crimpsCorner_107 : decode cX7_crimpsCorner 107 = .ok (.return_, 1) := by decide +kernel
theorem dX7_crimpsStrip_0 : decode cX7_crimpsStrip 0 = .ok (.aload_n 0, 1) := by decide +kernel
theorem dX7_crimpsStrip_1 : decode cX7_crimpsStrip 1 = .ok (.getfield 28, 3) := by decide +kernel
theorem dX7_crimpsStrip_4 : decode cX7_crimpsStrip 4 = .ok (.iload_n 1, 1) := by decide +kernel
theorem dX7_crimpsStrip_5 : decode cX7_crimpsStrip 5 = .ok (.iconst 1, 1) := by decide +kernel
theorem dX7_crimpsStrip_6 : decode cX7_crimpsStrip 6 = .ok (.isub, 1) := by decide +kernel
theorem dX7_crimpsStrip_7 : decode cX7_crimpsStrip 7 = .ok (.aload_n 0, 1) := by decide +kernel
theorem dX7_crimpsStrip_8 : decode cX7_crimpsStrip 8 = .ok (.getfield 28, 3) := by decide +kernel
theorem dX7_crimpsStrip_11 : decode cX7_crimpsStrip 11 = .ok (.iload_n 1, 1) := by decide +kernel
theorem dX7_crimpsStrip_12 : decode cX7_crimpsStrip 12 = .ok (.iconst 1, 1) := by decide +kernel
theorem dX7_crimpsStrip_13 : decode cX7_crimpsStrip 13 = .ok (.isub, 1) := by decide +kernel
theorem dX7_crimpsStrip_14 : decode cX7_crimpsStrip 14 = .ok (.iaload, 1) := by decide +kernel
theorem dX7_crimpsStrip_15 : decode cX7_crimpsStrip 15 = .ok (.aload_n 0, 1) := by decide +kernel
theorem dX7_crimpsStrip_16 : decode cX7_crimpsStrip 16 = .ok (.getfield 28, 3) := by decide +kernel
theorem dX7_crimpsStrip_19 : decode cX7_crimpsStrip 19 = .ok (.iload_n 1, 1) := by decide +kernel
theorem dX7_crimpsStrip_20 : decode cX7_crimpsStrip 20 = .ok (.iconst 1, 1) := by decide +kernel
theorem dX7_crimpsStrip_21 : decode cX7_crimpsStrip 21 = .ok (.iadd, 1) := by decide +kernel
theorem dX7_crimpsStrip_22 : decode cX7_crimpsStrip 22 = .ok (.iaload, 1) := by decide +kernel
theorem dX7_crimpsStrip_23 : decode cX7_crimpsStrip 23 = .ok (.iadd, 1) := by decide +kernel
theorem dX7_crimpsStrip_24 : decode cX7_crimpsStrip 24 = .ok (.aload_n 0, 1) := by decide +kernel
theorem dX7_crimpsStrip_25 : decode cX7_crimpsStrip 25 = .ok (.getfield 28, 3) := by decide +kernel
theorem dX7_crimpsStrip_28 : decode cX7_crimpsStrip 28 = .ok (.iload_n 1, 1) := by decide +kernel
theorem dX7_crimpsStrip_29 : decode cX7_crimpsStrip 29 = .ok (.iaload, 1) := by decide +kernel
theorem dX7_crimpsStrip_30 : decode cX7_crimpsStrip 30 = .ok (.isub, 1) := by decide +kernel
theorem dX7_crimpsStrip_31 : decode cX7_crimpsStrip 31 = .ok (.iastore, 1) := by decide +kernel
theorem dX7_crimpsStrip_32 : decode cX7_crimpsStrip 32 = .ok (.aload_n 0, 1) := by decide +kernel
theorem dX7_crimpsStrip_33 : decode cX7_crimpsStrip 33 = .ok (.iload_n 1, 1) := by decide +kernel
theorem dX7_crimpsStrip_34 : decode cX7_crimpsStrip 34 = .ok (.invokevirtual 172, 3) := by decide +kernel
theorem dX7_crimpsStrip_37 : decode cX7_crimpsStrip 37 = .ok (.aload_n 0, 1) := by decide +kernel
theorem dX7_crimpsStrip_38 : decode cX7_crimpsStrip 38 = .ok (.dup, 1) := by decide +kernel
theorem dX7_crimpsStrip_39 : decode cX7_crimpsStrip 39 = .ok (.getfield 165, 3) := by decide +kernel
theorem dX7_crimpsStrip_42 : decode cX7_crimpsStrip 42 = .ok (.iconst 1, 1) := by decide +kernel
theorem dX7_crimpsStrip_43 : decode cX7_crimpsStrip 43 = .ok (.isub, 1) := by decide +kernel
theorem dX7_crimpsStrip_44 : decode cX7_crimpsStrip 44 = .ok (.putfield 165, 3) := by decide +kernel
theorem dX7_crimpsStrip_47 : decode cX7_crimpsStrip 47 = .ok (.aload_n 0, 1) := by decide +kernel
theorem dX7_crimpsStrip_48 : decode cX7_crimpsStrip 48 = .ok (.iload_n 1, 1) := by decide +kernel
theorem dX7_crimpsStrip_49 : decode cX7_crimpsStrip 49 = .ok (.invokevirtual 172, 3) := by decide +kernel
theorem dX7_crimpsStrip_52 : decode cX7_crimpsStrip 52 = .ok (.aload_n 0, 1) := by decide +kernel
theorem dX7_crimpsStrip_53 : decode cX7_crimpsStrip 53 = .ok (.dup, 1) := by decide +kernel
theorem dX7_crimpsStrip_54 : decode cX7_crimpsStrip 54 = .ok (.getfield 165, 3) := by decide +kernel
theorem dX7_crimpsStrip_57 : decode cX7_crimpsStrip 57 = .ok (.iconst 1, 1) := by decide +kernel
theorem dX7_crimpsStrip_58 : decode cX7_crimpsStrip 58 = .ok (.isub, 1) := by decide +kernel
theorem dX7_crimpsStrip_59 : decode cX7_crimpsStrip 59 = .ok (.putfield 165, 3) := by decide +kernel
theorem dX7_crimpsStrip_62 : decode cX7_crimpsStrip 62 = .ok (.aload_n 0, 1) := by decide +kernel
theorem dX7_crimpsStrip_63 : decode cX7_crimpsStrip 63 = .ok (.iload_n 1, 1) := by decide +kernel
theorem dX7_crimpsStrip_64 : decode cX7_crimpsStrip 64 = .ok (.iconst 1, 1) := by decide +kernel
theorem dX7_crimpsStrip_65 : decode cX7_crimpsStrip 65 = .ok (.isub, 1) := by decide +kernel
theorem dX7_crimpsStrip_66 : decode cX7_crimpsStrip 66 = .ok (.invokevirtual 175, 3) := by decide +kernel
theorem dX7_crimpsStrip_69 : decode cX7_crimpsStrip 69 = .ok (.aload_n 0, 1) := by decide +kernel
theorem dX7_crimpsStrip_70 : decode cX7_crimpsStrip 70 = .ok (.iload_n 1, 1) := by decide +kernel
theorem dX7_crimpsStrip_71 : decode cX7_crimpsStrip 71 = .ok (.iconst 1, 1) := by decide +kernel
theorem dX7_crimpsStrip_72 : decode cX7_crimpsStrip 72 = .ok (.isub, 1) := by decide +kernel
theorem dX7_crimpsStrip_73 : decode cX7_crimpsStrip 73 = .ok (.invokevirtual 175, 3) := by decide +kernel
theorem dX7_crimpsStrip_76 : decode cX7_crimpsStrip 76 = .ok (.return_, 1) := by decide +kernel
theorem dX7_cut_0 : decode cX7_cut 0 = .ok (.aload_n 0, 1) := by decide +kernel
theorem dX7_cut_1 : decode cX7_cut 1 = .ok (.invokevirtual 117, 3) := by decide +kernel
theorem dX7_cut_4 : decode cX7_cut 4 = .ok (.aload_n 0, 1) := by decide +kernel
theorem dX7_cut_5 : decode cX7_cut 5 = .ok (.aload_n 0, 1) := by decide +kernel
theorem dX7_cut_6 : decode cX7_cut 6 = .ok (.iload_n 1, 1) := by decide +kernel
theorem dX7_cut_7 : decode cX7_cut 7 = .ok (.iload_n 2, 1) := by decide +kernel
theorem dX7_cut_8 : decode cX7_cut 8 = .ok (.invokevirtual 158, 3) := by decide +kernel
theorem dX7_cut_11 : decode cX7_cut 11 = .ok (.invokevirtual 124, 3) := by decide +kernel
theorem dX7_cut_14 : decode cX7_cut 14 = .ok (.ireturn, 1) := by decide +kernel
theorem dX7_cuts_0 : decode cX7_cuts 0 = .ok (.aload_n 0, 1) := by decide +kernel
theorem dX7_cuts_1 : decode cX7_cuts 1 = .ok (.iload_n 1, 1) := by decide +kernel
theorem dX7_cuts_2 : decode cX7_cuts 2 = .ok (.iload_n 2, 1) := by decide +kernel
theorem dX7_cuts_3 : decode cX7_cuts 3 = .ok (.invokevirtual 127, 3) := by decide +kernel
theorem dX7_cuts_6 : decode cX7_cuts 6 = .ok (.ifCond .ne 7, 3) := by decide +kernel
theorem dX7_cuts_9 : decode cX7_cuts 9 = .ok (.sipush (-1001), 3) := by decide +kernel
theorem dX7_cuts_12 : decode cX7_cuts 12 = .ok (.ireturn, 1) := by decide +kernel
theorem dX7_cuts_13 : decode cX7_cuts 13 = .ok (.aload_n 0, 1) := by decide +kernel
theorem dX7_cuts_14 : decode cX7_cuts 14 = .ok (.getfield 9, 3) := by decide +kernel
theorem dX7_cuts_17 : decode cX7_cuts 17 = .ok (.iconst 0, 1) := by decide +kernel
theorem dX7_cuts_18 : decode cX7_cuts 18 = .ok (.iaload, 1) := by decide +kernel
theorem dX7_cuts_19 : decode cX7_cuts 19 = .ok (.bipush 8, 2) := by decide +kernel
theorem dX7_cuts_21 : decode cX7_cuts 21 = .ok (.if_icmp .ne 11, 3) := by decide +kernel
theorem dX7_cuts_24 : decode cX7_cuts 24 = .ok (.aload_n 0, 1) := by decide +kernel
theorem dX7_cuts_25 : decode cX7_cuts 25 = .ok (.iconst 1, 1) := by decide +kernel
theorem dX7_cuts_26 : decode cX7_cuts 26 = .ok (.bipush 8, 2) := by decide +kernel
theorem dX7_cuts_28 : decode cX7_cuts 28 = .ok (.invokevirtual 101, 3) := by decide +kernel
theorem dX7_cuts_31 : decode cX7_cuts 31 = .ok (.ireturn, 1) := by decide +kernel
theorem dX7_cuts_32 : decode cX7_cuts 32 = .ok (.aload_n 0, 1) := by decide +kernel
theorem dX7_cuts_33 : decode cX7_cuts 33 = .ok (.iload_n 1, 1) := by decide +kernel
theorem dX7_cuts_34 : decode cX7_cuts 34 = .ok (.invokevirtual 130, 3) := by decide +kernel
theorem dX7_cuts_37 : decode cX7_cuts 37 = .ok (.ifCond .eq 10, 3) := by decide +kernel
theorem dX7_cuts_40 : decode cX7_cuts 40 = .ok (.aload_n 0, 1) := by decide +kernel
theorem dX7_cuts_41 : decode cX7_cuts 41 = .ok (.iconst 2, 1) := by decide +kernel
theorem dX7_cuts_42 : decode cX7_cuts 42 = .ok (.iload_n 1, 1) := by decide +kernel
theorem dX7_cuts_43 : decode cX7_cuts 43 = .ok (.invokevirtual 101, 3) := by decide +kernel
theorem dX7_cuts_46 : decode cX7_cuts 46 = .ok (.ireturn, 1) := by decide +kernel
theorem dX7_cuts_47 : decode cX7_cuts 47 = .ok (.aload_n 0, 1) := by decide +kernel
theorem dX7_cuts_48 : decode cX7_cuts 48 = .ok (.iload_n 1, 1) := by decide +kernel
theorem dX7_cuts_49 : decode cX7_cuts 49 = .ok (.invokevirtual 81, 3) := by decide +kernel
theorem dX7_cuts_52 : decode cX7_cuts 52 = .ok (.ifCond .eq 10, 3) := by decide +kernel
theorem dX7_cuts_55 : decode cX7_cuts 55 = .ok (.aload_n 0, 1) := by decide +kernel
theorem dX7_cuts_56 : decode cX7_cuts 56 = .ok (.iconst 3, 1) := by decide +kernel
theorem dX7_cuts_57 : decode cX7_cuts 57 = .ok (.iload_n 1, 1) := by decide +kernel
theorem dX7_cuts_58 : decode cX7_cuts 58 = .ok (.invokevirtual 101, 3) := by decide +kernel
theorem dX7_cuts_61 : decode cX7_cuts 61 = .ok (.ireturn, 1) := by decide +kernel
theorem dX7_cuts_62 : decode cX7_cuts 62 = .ok (.aload_n 0, 1) := by decide +kernel
theorem dX7_cuts_63 : decode cX7_cuts 63 = .ok (.iload_n 1, 1) := by decide +kernel
theorem dX7_cuts_64 : decode cX7_cuts 64 = .ok (.iconst 1, 1) := by decide +kernel
theorem dX7_cuts_65 : decode cX7_cuts 65 = .ok (.invokevirtual 78, 3) := by decide +kernel
theorem dX7_cuts_68 : decode cX7_cuts 68 = .ok (.istore_n 3, 1) := by decide +kernel
theorem dX7_cuts_69 : decode cX7_cuts 69 = .ok (.iload_n 2, 1) := by decide +kernel
theorem dX7_cuts_70 : decode cX7_cuts 70 = .ok (.iconst 1, 1) := by decide +kernel
theorem dX7_cuts_71 : decode cX7_cuts 71 = .ok (.iadd, 1) := by decide +kernel
theorem dX7_cuts_72 : decode cX7_cuts 72 = .ok (.istore 4, 2) := by decide +kernel
theorem dX7_cuts_74 : decode cX7_cuts 74 = .ok (.iload_n 3, 1) := by decide +kernel
theorem dX7_cuts_75 : decode cX7_cuts 75 = .ok (.iload 4, 2) := by decide +kernel
theorem dX7_cuts_77 : decode cX7_cuts 77 = .ok (.isub, 1) := by decide +kernel
theorem dX7_cuts_78 : decode cX7_cuts 78 = .ok (.istore 5, 2) := by decide +kernel
theorem dX7_cuts_80 : decode cX7_cuts 80 = .ok (.iload 4, 2) := by decide +kernel
theorem dX7_cuts_82 : decode cX7_cuts 82 = .ok (.iload 5, 2) := by decide +kernel
theorem dX7_cuts_84 : decode cX7_cuts 84 = .ok (.invokestatic 155, 3) := by decide +kernel
theorem dX7_cuts_87 : decode cX7_cuts 87 = .ok (.iconst 2, 1) := by decide +kernel
theorem dX7_cuts_88 : decode cX7_cuts 88 = .ok (.if_icmp .ge 17, 3) := by decide +kernel
theorem dX7_cuts_91 : decode cX7_cuts 91 = .ok (.aload_n 0, 1) := by decide +kernel
theorem dX7_cuts_92 : decode cX7_cuts 92 = .ok (.bipush 6, 2) := by decide +kernel
theorem dX7_cuts_94 : decode cX7_cuts 94 = .ok (.iload 4, 2) := by decide +kernel
theorem dX7_cuts_96 : decode cX7_cuts 96 = .ok (.iload 5, 2) := by decide +kernel
theorem dX7_cuts_98 : decode cX7_cuts 98 = .ok (.invokestatic 155, 3) := by decide +kernel
theorem dX7_cuts_101 : decode cX7_cuts 101 = .ok (.invokevirtual 101, 3) := by decide +kernel
theorem dX7_cuts_104 : decode cX7_cuts 104 = .ok (.ireturn, 1) := by decide +kernel
theorem dX7_cuts_105 : decode cX7_cuts 105 = .ok (.iconst 0, 1) := by decide +kernel
theorem dX7_cuts_106 : decode cX7_cuts 106 = .ok (.istore 6, 2) := by decide +kernel
theorem dX7_cuts_108 : decode cX7_cuts 108 = .ok (.iload 6, 2) := by decide +kernel
theorem dX7_cuts_110 : decode cX7_cuts 110 = .ok (.iload 5, 2) := by decide +kernel
theorem dX7_cuts_112 : decode cX7_cuts 112 = .ok (.if_icmp .ge 56, 3) := by decide +kernel
theorem dX7_cuts_115 : decode cX7_cuts 115 = .ok (.aload_n 0, 1) := by decide +kernel
theorem dX7_cuts_116 : decode cX7_cuts 116 = .ok (.getfield 22, 3) := by decide +kernel
theorem dX7_cuts_119 : decode cX7_cuts 119 = .ok (.iload 6, 2) := by decide +kernel
theorem dX7_cuts_121 : decode cX7_cuts 121 = .ok (.aload_n 0, 1) := by decide +kernel
theorem dX7_cuts_122 : decode cX7_cuts 122 = .ok (.iload_n 1, 1) := by decide +kernel
theorem dX7_cuts_123 : decode cX7_cuts 123 = .ok (.iload 4, 2) := by decide +kernel
theorem dX7_cuts_125 : decode cX7_cuts 125 = .ok (.iload 6, 2) := by decide +kernel
theorem dX7_cuts_127 : decode cX7_cuts 127 = .ok (.iadd, 1) := by decide +kernel
theorem dX7_cuts_128 : decode cX7_cuts 128 = .ok (.invokevirtual 142, 3) := by decide +kernel
theorem dX7_cuts_131 : decode cX7_cuts 131 = .ok (.iastore, 1) := by decide +kernel
theorem dX7_cuts_132 : decode cX7_cuts 132 = .ok (.aload_n 0, 1) := by decide +kernel
theorem dX7_cuts_133 : decode cX7_cuts 133 = .ok (.getfield 25, 3) := by decide +kernel
theorem dX7_cuts_136 : decode cX7_cuts 136 = .ok (.iload 6, 2) := by decide +kernel
theorem dX7_cuts_138 : decode cX7_cuts 138 = .ok (.iload 6, 2) := by decide +kernel
theorem dX7_cuts_140 : decode cX7_cuts 140 = .ok (.iload 5, 2) := by decide +kernel
theorem dX7_cuts_142 : decode cX7_cuts 142 = .ok (.iconst 1, 1) := by decide +kernel
theorem dX7_cuts_143 : decode cX7_cuts 143 = .ok (.isub, 1) := by decide +kernel
theorem dX7_cuts_144 : decode cX7_cuts 144 = .ok (.if_icmp .ge 16, 3) := by decide +kernel
theorem dX7_cuts_147 : decode cX7_cuts 147 = .ok (.aload_n 0, 1) := by decide +kernel
theorem dX7_cuts_148 : decode cX7_cuts 148 = .ok (.iload_n 1, 1) := by decide +kernel
theorem dX7_cuts_149 : decode cX7_cuts 149 = .ok (.iload 4, 2) := by decide +kernel
theorem dX7_cuts_151 : decode cX7_cuts 151 = .ok (.iload 6, 2) := by decide +kernel
theorem dX7_cuts_153 : decode cX7_cuts 153 = .ok (.iadd, 1) := by decide +kernel
theorem dX7_cuts_154 : decode cX7_cuts 154 = .ok (.invokevirtual 92, 3) := by decide +kernel
theorem dX7_cuts_157 : decode cX7_cuts 157 = .ok (.goto 4, 3) := by decide +kernel
theorem dX7_cuts_160 : decode cX7_cuts 160 = .ok (.iconst 0, 1) := by decide +kernel
theorem dX7_cuts_161 : decode cX7_cuts 161 = .ok (.iastore, 1) := by decide +kernel
theorem dX7_cuts_162 : decode cX7_cuts 162 = .ok (.iinc 6 1, 3) := by decide +kernel
theorem dX7_cuts_165 : decode cX7_cuts 165 = .ok (.goto (-57), 3) := by decide +kernel
theorem dX7_cuts_168 : decode cX7_cuts 168 = .ok (.aload_n 0, 1) := by decide +kernel
theorem dX7_cuts_169 : decode cX7_cuts 169 = .ok (.getfield 9, 3) := by decide +kernel
theorem dX7_cuts_172 : decode cX7_cuts 172 = .ok (.iload_n 1, 1) := by decide +kernel
theorem dX7_cuts_173 : decode cX7_cuts 173 = .ok (.iconst 1, 1) := by decide +kernel
theorem dX7_cuts_174 : decode cX7_cuts 174 = .ok (.invokestatic 74, 3) := by decide +kernel
theorem dX7_cuts_177 : decode cX7_cuts 177 = .ok (.iload 4, 2) := by decide +kernel
theorem dX7_cuts_179 : decode cX7_cuts 179 = .ok (.iastore, 1) := by decide +kernel
theorem dX7_cuts_180 : decode cX7_cuts 180 = .ok (.aload_n 0, 1) := by decide +kernel
theorem dX7_cuts_181 : decode cX7_cuts 181 = .ok (.iconst 0, 1) := by decide +kernel
theorem dX7_cuts_182 : decode cX7_cuts 182 = .ok (.iload 5, 2) := by decide +kernel
theorem dX7_cuts_184 : decode cX7_cuts 184 = .ok (.invokevirtual 114, 3) := by decide +kernel
theorem dX7_cuts_187 : decode cX7_cuts 187 = .ok (.ireturn, 1) := by decide +kernel
theorem dX7_digit_0 : decode cX7_digit 0 = .ok (.aload_n 0, 1) := by decide +kernel
theorem dX7_digit_1 : decode cX7_digit 1 = .ok (.invokevirtual 297, 3) := by decide +kernel
theorem dX7_digit_4 : decode cX7_digit 4 = .ok (.bipush 48, 2) := by decide +kernel
theorem dX7_digit_6 : decode cX7_digit 6 = .ok (.bipush 57, 2) := by decide +kernel
theorem dX7_digit_8 : decode cX7_digit 8 = .ok (.invokestatic 61, 3) := by decide +kernel
theorem dX7_digit_11 : decode cX7_digit 11 = .ok (.ifCond .ne 5, 3) := by decide +kernel
theorem dX7_digit_14 : decode cX7_digit 14 = .ok (.iconst (-1), 1) := by decide +kernel
theorem dX7_digit_15 : decode cX7_digit 15 = .ok (.ireturn, 1) := by decide +kernel
theorem dX7_digit_16 : decode cX7_digit 16 = .ok (.aload_n 0, 1) := by decide +kernel
theorem dX7_digit_17 : decode cX7_digit 17 = .ok (.dup, 1) := by decide +kernel
theorem dX7_digit_18 : decode cX7_digit 18 = .ok (.getfield 294, 3) := by decide +kernel
theorem dX7_digit_21 : decode cX7_digit 21 = .ok (.iconst 1, 1) := by decide +kernel
theorem dX7_digit_22 : decode cX7_digit 22 = .ok (.iadd, 1) := by decide +kernel
theorem dX7_digit_23 : decode cX7_digit 23 = .ok (.putfield 294, 3) := by decide +kernel
theorem dX7_digit_26 : decode cX7_digit 26 = .ok (.aload_n 0, 1) := by decide +kernel
theorem dX7_digit_27 : decode cX7_digit 27 = .ok (.getfield 47, 3) := by decide +kernel
theorem dX7_digit_30 : decode cX7_digit 30 = .ok (.aload_n 0, 1) := by decide +kernel
theorem dX7_digit_31 : decode cX7_digit 31 = .ok (.getfield 294, 3) := by decide +kernel
theorem dX7_digit_34 : decode cX7_digit 34 = .ok (.iconst 1, 1) := by decide +kernel
theorem dX7_digit_35 : decode cX7_digit 35 = .ok (.isub, 1) := by decide +kernel
theorem dX7_digit_36 : decode cX7_digit 36 = .ok (.iaload, 1) := by decide +kernel
theorem dX7_digit_37 : decode cX7_digit 37 = .ok (.bipush 48, 2) := by decide +kernel
theorem dX7_digit_39 : decode cX7_digit 39 = .ok (.isub, 1) := by decide +kernel
theorem dX7_digit_40 : decode cX7_digit 40 = .ok (.ireturn, 1) := by decide +kernel
theorem dX7_digits_0 : decode cX7_digits 0 = .ok (.iconst 0, 1) := by decide +kernel
theorem dX7_digits_1 : decode cX7_digits 1 = .ok (.istore_n 1, 1) := by decide +kernel
theorem dX7_digits_2 : decode cX7_digits 2 = .ok (.iload_n 0, 1) := by decide +kernel
theorem dX7_digits_3 : decode cX7_digits 3 = .ok (.istore_n 2, 1) := by decide +kernel
theorem dX7_digits_4 : decode cX7_digits 4 = .ok (.iload_n 2, 1) := by decide +kernel
theorem dX7_digits_5 : decode cX7_digits 5 = .ok (.ifCond .le 14, 3) := by decide +kernel
theorem dX7_digits_8 : decode cX7_digits 8 = .ok (.iinc 1 1, 3) := by decide +kernel
theorem dX7_digits_11 : decode cX7_digits 11 = .ok (.iload_n 2, 1) := by decide +kernel
theorem dX7_digits_12 : decode cX7_digits 12 = .ok (.bipush 10, 2) := by decide +kernel
theorem dX7_digits_14 : decode cX7_digits 14 = .ok (.idiv, 1) := by decide +kernel
theorem dX7_digits_15 : decode cX7_digits 15 = .ok (.istore_n 2, 1) := by decide +kernel
theorem dX7_digits_16 : decode cX7_digits 16 = .ok (.goto (-12), 3) := by decide +kernel
theorem dX7_digits_19 : decode cX7_digits 19 = .ok (.iload_n 1, 1) := by decide +kernel
theorem dX7_digits_20 : decode cX7_digits 20 = .ok (.ireturn, 1) := by decide +kernel
theorem dX7_does_0 : decode cX7_does 0 = .ok (.aload_n 0, 1) := by decide +kernel
theorem dX7_does_1 : decode cX7_does 1 = .ok (.getfield 321, 3) := by decide +kernel
theorem dX7_does_4 : decode cX7_does 4 = .ok (.lookupswitch 105 #[(102, 78), (109, 52), (116, 69), (117, 87), (120, 96)], 52) := by decide +kernel
theorem dX7_does_56 : decode cX7_does 56 = .ok (.aload_n 0, 1) := by decide +kernel
theorem dX7_does_57 : decode cX7_does 57 = .ok (.aload_n 0, 1) := by decide +kernel
theorem dX7_does_58 : decode cX7_does 58 = .ok (.getfield 300, 3) := by decide +kernel
theorem dX7_does_61 : decode cX7_does 61 = .ok (.aload_n 0, 1) := by decide +kernel
theorem dX7_does_62 : decode cX7_does 62 = .ok (.getfield 303, 3) := by decide +kernel
theorem dX7_does_65 : decode cX7_does 65 = .ok (.aload_n 0, 1) := by decide +kernel
theorem dX7_does_66 : decode cX7_does 66 = .ok (.getfield 318, 3) := by decide +kernel
theorem dX7_does_69 : decode cX7_does 69 = .ok (.invokevirtual 133, 3) := by decide +kernel
theorem dX7_does_72 : decode cX7_does 72 = .ok (.ireturn, 1) := by decide +kernel
theorem dX7_does_73 : decode cX7_does 73 = .ok (.aload_n 0, 1) := by decide +kernel
theorem dX7_does_74 : decode cX7_does 74 = .ok (.aload_n 0, 1) := by decide +kernel
theorem dX7_does_75 : decode cX7_does 75 = .ok (.getfield 300, 3) := by decide +kernel
theorem dX7_does_78 : decode cX7_does 78 = .ok (.invokevirtual 139, 3) := by decide +kernel
theorem dX7_does_81 : decode cX7_does 81 = .ok (.ireturn, 1) := by decide +kernel
theorem dX7_does_82 : decode cX7_does 82 = .ok (.aload_n 0, 1) := by decide +kernel
theorem dX7_does_83 : decode cX7_does 83 = .ok (.aload_n 0, 1) := by decide +kernel
theorem dX7_does_84 : decode cX7_does 84 = .ok (.getfield 300, 3) := by decide +kernel
theorem dX7_does_87 : decode cX7_does 87 = .ok (.invokevirtual 240, 3) := by decide +kernel
theorem dX7_does_90 : decode cX7_does 90 = .ok (.ireturn, 1) := by decide +kernel
theorem dX7_does_91 : decode cX7_does 91 = .ok (.aload_n 0, 1) := by decide +kernel
theorem dX7_does_92 : decode cX7_does 92 = .ok (.aload_n 0, 1) := by decide +kernel
theorem dX7_does_93 : decode cX7_does 93 = .ok (.getfield 300, 3) := by decide +kernel
theorem dX7_does_96 : decode cX7_does 96 = .ok (.invokevirtual 243, 3) := by decide +kernel
theorem dX7_does_99 : decode cX7_does 99 = .ok (.ireturn, 1) := by decide +kernel
theorem dX7_does_100 : decode cX7_does 100 = .ok (.aload_n 0, 1) := by decide +kernel
theorem dX7_does_101 : decode cX7_does 101 = .ok (.aload_n 0, 1) := by decide +kernel
theorem dX7_does_102 : decode cX7_does 102 = .ok (.getfield 300, 3) := by decide +kernel
theorem dX7_does_105 : decode cX7_does 105 = .ok (.invokevirtual 246, 3) := by decide +kernel
theorem dX7_does_108 : decode cX7_does 108 = .ok (.ireturn, 1) := by decide +kernel
theorem dX7_does_109 : decode cX7_does 109 = .ok (.aload_n 0, 1) := by decide +kernel
theorem dX7_does_110 : decode cX7_does 110 = .ok (.invokevirtual 336, 3) := by decide +kernel
theorem dX7_does_113 : decode cX7_does 113 = .ok (.ireturn, 1) := by decide +kernel
theorem dX7_doesAll_0 : decode cX7_doesAll 0 = .ok (.iconst 0, 1) := by decide +kernel
theorem dX7_doesAll_1 : decode cX7_doesAll 1 = .ok (.istore_n 1, 1) := by decide +kernel
theorem dX7_doesAll_2 : decode cX7_doesAll 2 = .ok (.aload_n 0, 1) := by decide +kernel
theorem dX7_doesAll_3 : decode cX7_doesAll 3 = .ok (.iconst 0, 1) := by decide +kernel
theorem dX7_doesAll_4 : decode cX7_doesAll 4 = .ok (.putfield 294, 3) := by decide +kernel
theorem dX7_doesAll_7 : decode cX7_doesAll 7 = .ok (.aload_n 0, 1) := by decide +kernel
theorem dX7_doesAll_8 : decode cX7_doesAll 8 = .ok (.getfield 294, 3) := by decide +kernel
theorem dX7_doesAll_11 : decode cX7_doesAll 11 = .ok (.aload_n 0, 1) := by decide +kernel
theorem dX7_doesAll_12 : decode cX7_doesAll 12 = .ok (.getfield 291, 3) := by decide +kernel
theorem dX7_doesAll_15 : decode cX7_doesAll 15 = .ok (.if_icmp .ge 78, 3) := by decide +kernel
theorem dX7_doesAll_18 : decode cX7_doesAll 18 = .ok (.aload_n 0, 1) := by decide +kernel
theorem dX7_doesAll_19 : decode cX7_doesAll 19 = .ok (.invokevirtual 333, 3) := by decide +kernel
theorem dX7_doesAll_22 : decode cX7_doesAll 22 = .ok (.istore_n 2, 1) := by decide +kernel
theorem dX7_doesAll_23 : decode cX7_doesAll 23 = .ok (.aload_n 0, 1) := by decide +kernel
theorem dX7_doesAll_24 : decode cX7_doesAll 24 = .ok (.invokevirtual 339, 3) := by decide +kernel
theorem dX7_doesAll_27 : decode cX7_doesAll 27 = .ok (.istore_n 3, 1) := by decide +kernel
theorem dX7_doesAll_28 : decode cX7_doesAll 28 = .ok (.iload_n 3, 1) := by decide +kernel
theorem dX7_doesAll_29 : decode cX7_doesAll 29 = .ok (.sipush (-1004), 3) := by decide +kernel
theorem dX7_doesAll_32 : decode cX7_doesAll 32 = .ok (.sipush (-1001), 3) := by decide +kernel
theorem dX7_doesAll_35 : decode cX7_doesAll 35 = .ok (.invokestatic 61, 3) := by decide +kernel
theorem dX7_doesAll_38 : decode cX7_doesAll 38 = .ok (.ifCond .eq 39, 3) := by decide +kernel
theorem dX7_doesAll_41 : decode cX7_doesAll 41 = .ok (.aload_n 0, 1) := by decide +kernel
theorem dX7_doesAll_42 : decode cX7_doesAll 42 = .ok (.iload_n 3, 1) := by decide +kernel
theorem dX7_doesAll_43 : decode cX7_doesAll 43 = .ok (.sipush (-1003), 3) := by decide +kernel
theorem dX7_doesAll_46 : decode cX7_doesAll 46 = .ok (.if_icmp .ne 7, 3) := by decide +kernel
theorem dX7_doesAll_49 : decode cX7_doesAll 49 = .ok (.iload_n 1, 1) := by decide +kernel
theorem dX7_doesAll_50 : decode cX7_doesAll 50 = .ok (.goto 7, 3) := by decide +kernel
theorem dX7_doesAll_53 : decode cX7_doesAll 53 = .ok (.aload_n 0, 1) := by decide +kernel
theorem dX7_doesAll_54 : decode cX7_doesAll 54 = .ok (.getfield 50, 3) := by decide +kernel
theorem dX7_doesAll_57 : decode cX7_doesAll 57 = .ok (.putfield 50, 3) := by decide +kernel
theorem dX7_doesAll_60 : decode cX7_doesAll 60 = .ok (.iload_n 3, 1) := by decide +kernel
theorem dX7_doesAll_61 : decode cX7_doesAll 61 = .ok (.sipush (-1003), 3) := by decide +kernel
theorem dX7_doesAll_64 : decode cX7_doesAll 64 = .ok (.if_icmp .ne 9, 3) := by decide +kernel
theorem dX7_doesAll_67 : decode cX7_doesAll 67 = .ok (.sipush (-1003), 3) := by decide +kernel
theorem dX7_doesAll_70 : decode cX7_doesAll 70 = .ok (.goto 6, 3) := by decide +kernel
theorem dX7_doesAll_73 : decode cX7_doesAll 73 = .ok (.sipush (-1002), 3) := by decide +kernel
theorem dX7_doesAll_76 : decode cX7_doesAll 76 = .ok (.ireturn, 1) := by decide +kernel
theorem dX7_doesAll_77 : decode cX7_doesAll 77 = .ok (.aload_n 0, 1) := by decide +kernel
theorem dX7_doesAll_78 : decode cX7_doesAll 78 = .ok (.dup, 1) := by decide +kernel
theorem dX7_doesAll_79 : decode cX7_doesAll 79 = .ok (.getfield 294, 3) := by decide +kernel
theorem dX7_doesAll_82 : decode cX7_doesAll 82 = .ok (.iconst 1, 1) := by decide +kernel
theorem dX7_doesAll_83 : decode cX7_doesAll 83 = .ok (.iadd, 1) := by decide +kernel
theorem dX7_doesAll_84 : decode cX7_doesAll 84 = .ok (.putfield 294, 3) := by decide +kernel
theorem dX7_doesAll_87 : decode cX7_doesAll 87 = .ok (.iinc 1 1, 3) := by decide +kernel
theorem dX7_doesAll_90 : decode cX7_doesAll 90 = .ok (.goto (-83), 3) := by decide +kernel
theorem dX7_doesAll_93 : decode cX7_doesAll 93 = .ok (.iload_n 1, 1) := by decide +kernel
theorem dX7_doesAll_94 : decode cX7_doesAll 94 = .ok (.ireturn, 1) := by decide +kernel
theorem dX7_drop_0 : decode cX7_drop 0 = .ok (.aload_n 0, 1) := by decide +kernel
theorem dX7_drop_1 : decode cX7_drop 1 = .ok (.invokevirtual 117, 3) := by decide +kernel
theorem dX7_drop_4 : decode cX7_drop 4 = .ok (.aload_n 0, 1) := by decide +kernel
theorem dX7_drop_5 : decode cX7_drop 5 = .ok (.aload_n 0, 1) := by decide +kernel
theorem dX7_drop_6 : decode cX7_drop 6 = .ok (.iload_n 1, 1) := by decide +kernel
theorem dX7_drop_7 : decode cX7_drop 7 = .ok (.invokevirtual 246, 3) := by decide +kernel
theorem dX7_drop_10 : decode cX7_drop 10 = .ok (.invokevirtual 124, 3) := by decide +kernel
theorem dX7_drop_13 : decode cX7_drop 13 = .ok (.ireturn, 1) := by decide +kernel
theorem dX7_drops_0 : decode cX7_drops 0 = .ok (.aload_n 0, 1) := by decide +kernel
theorem dX7_drops_1 : decode cX7_drops 1 = .ok (.iload_n 1, 1) := by decide +kernel
theorem dX7_drops_2 : decode cX7_drops 2 = .ok (.invokevirtual 85, 3) := by decide +kernel
theorem dX7_drops_5 : decode cX7_drops 5 = .ok (.ifCond .ne 7, 3) := by decide +kernel
theorem dX7_drops_8 : decode cX7_drops 8 = .ok (.sipush (-1001), 3) := by decide +kernel
theorem dX7_drops_11 : decode cX7_drops 11 = .ok (.ireturn, 1) := by decide +kernel
theorem dX7_drops_12 : decode cX7_drops 12 = .ok (.aload_n 0, 1) := by decide +kernel
theorem dX7_drops_13 : decode cX7_drops 13 = .ok (.iload_n 1, 1) := by decide +kernel
theorem dX7_drops_14 : decode cX7_drops 14 = .ok (.invokevirtual 148, 3) := by decide +kernel
theorem dX7_drops_17 : decode cX7_drops 17 = .ok (.aload_n 0, 1) := by decide +kernel
theorem dX7_drops_18 : decode cX7_drops 18 = .ok (.getfield 9, 3) := by decide +kernel
theorem dX7_drops_21 : decode cX7_drops 21 = .ok (.iconst 0, 1) := by decide +kernel
theorem dX7_drops_22 : decode cX7_drops 22 = .ok (.iaload, 1) := by decide +kernel
theorem dX7_drops_23 : decode cX7_drops 23 = .ok (.ireturn, 1) := by decide +kernel
theorem dX7_dropsCrease_0 : decode cX7_dropsCrease 0 = .ok (.iload_n 1, 1) := by decide +kernel
theorem dX7_dropsCrease_1 : decode cX7_dropsCrease 1 = .ok (.istore_n 2, 1) := by decide +kernel
theorem dX7_dropsCrease_2 : decode cX7_dropsCrease 2 = .ok (.iload_n 2, 1) := by decide +kernel
theorem dX7_dropsCrease_3 : decode cX7_dropsCrease 3 = .ok (.iconst 1, 1) := by decide +kernel
theorem dX7_dropsCrease_4 : decode cX7_dropsCrease 4 = .ok (.iadd, 1) := by decide +kernel
theorem dX7_dropsCrease_5 : decode cX7_dropsCrease 5 = .ok (.bipush 8, 2) := by decide +kernel
theorem dX7_dropsCrease_7 : decode cX7_dropsCrease 7 = .ok (.if_icmp .ge 23, 3) := by decide +kernel
theorem dX7_dropsCrease_10 : decode cX7_dropsCrease 10 = .ok (.aload_n 0, 1) := by decide +kernel
theorem dX7_dropsCrease_11 : decode cX7_dropsCrease 11 = .ok (.getfield 31, 3) := by decide +kernel
theorem dX7_dropsCrease_14 : decode cX7_dropsCrease 14 = .ok (.iload_n 2, 1) := by decide +kernel
theorem dX7_dropsCrease_15 : decode cX7_dropsCrease 15 = .ok (.aload_n 0, 1) := by decide +kernel
theorem dX7_dropsCrease_16 : decode cX7_dropsCrease 16 = .ok (.getfield 31, 3) := by decide +kernel
theorem dX7_dropsCrease_19 : decode cX7_dropsCrease 19 = .ok (.iload_n 2, 1) := by decide +kernel
theorem dX7_dropsCrease_20 : decode cX7_dropsCrease 20 = .ok (.iconst 1, 1) := by decide +kernel
theorem dX7_dropsCrease_21 : decode cX7_dropsCrease 21 = .ok (.iadd, 1) := by decide +kernel
theorem dX7_dropsCrease_22 : decode cX7_dropsCrease 22 = .ok (.iaload, 1) := by decide +kernel
theorem dX7_dropsCrease_23 : decode cX7_dropsCrease 23 = .ok (.iastore, 1) := by decide +kernel
theorem dX7_dropsCrease_24 : decode cX7_dropsCrease 24 = .ok (.iinc 2 1, 3) := by decide +kernel
theorem dX7_dropsCrease_27 : decode cX7_dropsCrease 27 = .ok (.goto (-25), 3) := by decide +kernel
theorem dX7_dropsCrease_30 : decode cX7_dropsCrease 30 = .ok (.return_, 1) := by decide +kernel
theorem dX7_dropsSize_0 : decode cX7_dropsSize 0 = .ok (.iload_n 1, 1) := by decide +kernel
theorem dX7_dropsSize_1 : decode cX7_dropsSize 1 = .ok (.istore_n 2, 1) := by decide +kernel
theorem dX7_dropsSize_2 : decode cX7_dropsSize 2 = .ok (.iload_n 2, 1) := by decide +kernel
theorem dX7_dropsSize_3 : decode cX7_dropsSize 3 = .ok (.iconst 1, 1) := by decide +kernel
theorem dX7_dropsSize_4 : decode cX7_dropsSize 4 = .ok (.iadd, 1) := by decide +kernel
theorem dX7_dropsSize_5 : decode cX7_dropsSize 5 = .ok (.aload_n 0, 1) := by decide +kernel
theorem dX7_dropsSize_6 : decode cX7_dropsSize 6 = .ok (.getfield 165, 3) := by decide +kernel
theorem dX7_dropsSize_9 : decode cX7_dropsSize 9 = .ok (.if_icmp .ge 23, 3) := by decide +kernel
theorem dX7_dropsSize_12 : decode cX7_dropsSize 12 = .ok (.aload_n 0, 1) := by decide +kernel
theorem dX7_dropsSize_13 : decode cX7_dropsSize 13 = .ok (.getfield 28, 3) := by decide +kernel
theorem dX7_dropsSize_16 : decode cX7_dropsSize 16 = .ok (.iload_n 2, 1) := by decide +kernel
theorem dX7_dropsSize_17 : decode cX7_dropsSize 17 = .ok (.aload_n 0, 1) := by decide +kernel
theorem dX7_dropsSize_18 : decode cX7_dropsSize 18 = .ok (.getfield 28, 3) := by decide +kernel
theorem dX7_dropsSize_21 : decode cX7_dropsSize 21 = .ok (.iload_n 2, 1) := by decide +kernel
theorem dX7_dropsSize_22 : decode cX7_dropsSize 22 = .ok (.iconst 1, 1) := by decide +kernel
theorem dX7_dropsSize_23 : decode cX7_dropsSize 23 = .ok (.iadd, 1) := by decide +kernel
theorem dX7_dropsSize_24 : decode cX7_dropsSize 24 = .ok (.iaload, 1) := by decide +kernel
theorem dX7_dropsSize_25 : decode cX7_dropsSize 25 = .ok (.iastore, 1) := by decide +kernel
theorem dX7_dropsSize_26 : decode cX7_dropsSize 26 = .ok (.iinc 2 1, 3) := by decide +kernel
theorem dX7_dropsSize_29 : decode cX7_dropsSize 29 = .ok (.goto (-27), 3) := by decide +kernel
theorem dX7_dropsSize_32 : decode cX7_dropsSize 32 = .ok (.return_, 1) := by decide +kernel
theorem dX7_ends_0 : decode cX7_ends 0 = .ok (.aload_n 0, 1) := by decide +kernel
theorem dX7_ends_1 : decode cX7_ends 1 = .ok (.iload_n 1, 1) := by decide +kernel
theorem dX7_ends_2 : decode cX7_ends 2 = .ok (.sipush (-1003), 3) := by decide +kernel
theorem dX7_ends_5 : decode cX7_ends 5 = .ok (.if_icmp .ne 9, 3) := by decide +kernel
theorem dX7_ends_8 : decode cX7_ends 8 = .ok (.sipush (-1004), 3) := by decide +kernel
theorem dX7_ends_11 : decode cX7_ends 11 = .ok (.goto 7, 3) := by decide +kernel
theorem dX7_ends_14 : decode cX7_ends 14 = .ok (.aload_n 0, 1) := by decide +kernel
theorem dX7_ends_15 : decode cX7_ends 15 = .ok (.getfield 50, 3) := by decide +kernel
theorem dX7_ends_18 : decode cX7_ends 18 = .ok (.putfield 50, 3) := by decide +kernel
theorem dX7_ends_21 : decode cX7_ends 21 = .ok (.iload_n 1, 1) := by decide +kernel
theorem dX7_ends_22 : decode cX7_ends 22 = .ok (.sipush (-1004), 3) := by decide +kernel
theorem dX7_ends_25 : decode cX7_ends 25 = .ok (.sipush (-1001), 3) := by decide +kernel
theorem dX7_ends_28 : decode cX7_ends 28 = .ok (.invokestatic 61, 3) := by decide +kernel
theorem dX7_ends_31 : decode cX7_ends 31 = .ok (.ifCond .ne 7, 3) := by decide +kernel
theorem dX7_ends_34 : decode cX7_ends 34 = .ok (.aload_n 0, 1) := by decide +kernel
theorem dX7_ends_35 : decode cX7_ends 35 = .ok (.invokevirtual 65, 3) := by decide +kernel
theorem dX7_ends_38 : decode cX7_ends 38 = .ok (.iload_n 1, 1) := by decide +kernel
theorem dX7_ends_39 : decode cX7_ends 39 = .ok (.ireturn, 1) := by decide +kernel
theorem dX7_evenAngles_0 : decode cX7_evenAngles 0 = .ok (.iconst 0, 1) := by decide +kernel
theorem dX7_evenAngles_1 : decode cX7_evenAngles 1 = .ok (.istore_n 2, 1) := by decide +kernel
theorem dX7_evenAngles_2 : decode cX7_evenAngles 2 = .ok (.iconst 0, 1) := by decide +kernel
theorem dX7_evenAngles_3 : decode cX7_evenAngles 3 = .ok (.istore_n 3, 1) := by decide +kernel
theorem dX7_evenAngles_4 : decode cX7_evenAngles 4 = .ok (.iload_n 3, 1) := by decide +kernel
theorem dX7_evenAngles_5 : decode cX7_evenAngles 5 = .ok (.aload_n 0, 1) := by decide +kernel
theorem dX7_evenAngles_6 : decode cX7_evenAngles 6 = .ok (.iload_n 1, 1) := by decide +kernel
theorem dX7_evenAngles_7 : decode cX7_evenAngles 7 = .ok (.iconst 1, 1) := by decide +kernel
theorem dX7_evenAngles_8 : decode cX7_evenAngles 8 = .ok (.invokevirtual 78, 3) := by decide +kernel
theorem dX7_evenAngles_11 : decode cX7_evenAngles 11 = .ok (.if_icmp .ge 18, 3) := by decide +kernel
theorem dX7_evenAngles_14 : decode cX7_evenAngles 14 = .ok (.iload_n 2, 1) := by decide +kernel
theorem dX7_evenAngles_15 : decode cX7_evenAngles 15 = .ok (.aload_n 0, 1) := by decide +kernel
theorem dX7_evenAngles_16 : decode cX7_evenAngles 16 = .ok (.iload_n 1, 1) := by decide +kernel
theorem dX7_evenAngles_17 : decode cX7_evenAngles 17 = .ok (.iload_n 3, 1) := by decide +kernel
theorem dX7_evenAngles_18 : decode cX7_evenAngles 18 = .ok (.invokevirtual 142, 3) := by decide +kernel
theorem dX7_evenAngles_21 : decode cX7_evenAngles 21 = .ok (.iadd, 1) := by decide +kernel
theorem dX7_evenAngles_22 : decode cX7_evenAngles 22 = .ok (.istore_n 2, 1) := by decide +kernel
theorem dX7_evenAngles_23 : decode cX7_evenAngles 23 = .ok (.iinc 3 2, 3) := by decide +kernel
theorem dX7_evenAngles_26 : decode cX7_evenAngles 26 = .ok (.goto (-22), 3) := by decide +kernel
theorem dX7_evenAngles_29 : decode cX7_evenAngles 29 = .ok (.iload_n 2, 1) := by decide +kernel
theorem dX7_evenAngles_30 : decode cX7_evenAngles 30 = .ok (.ireturn, 1) := by decide +kernel
theorem dX7_fewest_0 : decode cX7_fewest 0 = .ok (.aload_n 0, 1) := by decide +kernel
theorem dX7_fewest_1 : decode cX7_fewest 1 = .ok (.iload_n 1, 1) := by decide +kernel
theorem dX7_fewest_2 : decode cX7_fewest 2 = .ok (.invokevirtual 85, 3) := by decide +kernel
theorem dX7_fewest_5 : decode cX7_fewest 5 = .ok (.ifCond .ne 7, 3) := by decide +kernel
theorem dX7_fewest_8 : decode cX7_fewest 8 = .ok (.sipush (-1001), 3) := by decide +kernel
theorem dX7_fewest_11 : decode cX7_fewest 11 = .ok (.ireturn, 1) := by decide +kernel
theorem dX7_fewest_12 : decode cX7_fewest 12 = .ok (.sipush (-1004), 3) := by decide +kernel
theorem dX7_fewest_15 : decode cX7_fewest 15 = .ok (.istore_n 2, 1) := by decide +kernel
theorem dX7_fewest_16 : decode cX7_fewest 16 = .ok (.iconst 0, 1) := by decide +kernel
theorem dX7_fewest_17 : decode cX7_fewest 17 = .ok (.istore_n 3, 1) := by decide +kernel
theorem dX7_fewest_18 : decode cX7_fewest 18 = .ok (.iload_n 3, 1) := by decide +kernel
theorem dX7_fewest_19 : decode cX7_fewest 19 = .ok (.iconst 1, 1) := by decide +kernel
theorem dX7_fewest_20 : decode cX7_fewest 20 = .ok (.aload_n 0, 1) := by decide +kernel
theorem dX7_fewest_21 : decode cX7_fewest 21 = .ok (.iload_n 1, 1) := by decide +kernel
theorem dX7_fewest_22 : decode cX7_fewest 22 = .ok (.invokevirtual 88, 3) := by decide +kernel
theorem dX7_fewest_25 : decode cX7_fewest 25 = .ok (.ishl, 1) := by decide +kernel
theorem dX7_fewest_26 : decode cX7_fewest 26 = .ok (.if_icmp .ge 42, 3) := by decide +kernel
theorem dX7_fewest_29 : decode cX7_fewest 29 = .ok (.aload_n 0, 1) := by decide +kernel
theorem dX7_fewest_30 : decode cX7_fewest 30 = .ok (.iload_n 1, 1) := by decide +kernel
theorem dX7_fewest_31 : decode cX7_fewest 31 = .ok (.iload_n 3, 1) := by decide +kernel
theorem dX7_fewest_32 : decode cX7_fewest 32 = .ok (.invokevirtual 219, 3) := by decide +kernel
theorem dX7_fewest_35 : decode cX7_fewest 35 = .ok (.istore 4, 2) := by decide +kernel
theorem dX7_fewest_37 : decode cX7_fewest 37 = .ok (.iload_n 2, 1) := by decide +kernel
theorem dX7_fewest_38 : decode cX7_fewest 38 = .ok (.sipush (-1004), 3) := by decide +kernel
theorem dX7_fewest_41 : decode cX7_fewest 41 = .ok (.if_icmp .eq 9, 3) := by decide +kernel
theorem dX7_fewest_44 : decode cX7_fewest 44 = .ok (.iload 4, 2) := by decide +kernel
theorem dX7_fewest_46 : decode cX7_fewest 46 = .ok (.iload_n 2, 1) := by decide +kernel
theorem dX7_fewest_47 : decode cX7_fewest 47 = .ok (.if_icmp .ge 15, 3) := by decide +kernel
theorem dX7_fewest_50 : decode cX7_fewest 50 = .ok (.aload_n 0, 1) := by decide +kernel
theorem dX7_fewest_51 : decode cX7_fewest 51 = .ok (.iload_n 1, 1) := by decide +kernel
theorem dX7_fewest_52 : decode cX7_fewest 52 = .ok (.iload_n 3, 1) := by decide +kernel
theorem dX7_fewest_53 : decode cX7_fewest 53 = .ok (.invokevirtual 222, 3) := by decide +kernel
theorem dX7_fewest_56 : decode cX7_fewest 56 = .ok (.ifCond .eq 6, 3) := by decide +kernel
theorem dX7_fewest_59 : decode cX7_fewest 59 = .ok (.iload 4, 2) := by decide +kernel
theorem dX7_fewest_61 : decode cX7_fewest 61 = .ok (.istore_n 2, 1) := by decide +kernel
theorem dX7_fewest_62 : decode cX7_fewest 62 = .ok (.iinc 3 1, 3) := by decide +kernel
theorem dX7_fewest_65 : decode cX7_fewest 65 = .ok (.goto (-47), 3) := by decide +kernel
theorem dX7_fewest_68 : decode cX7_fewest 68 = .ok (.iload_n 2, 1) := by decide +kernel
theorem dX7_fewest_69 : decode cX7_fewest 69 = .ok (.ireturn, 1) := by decide +kernel
theorem dX7_fold_0 : decode cX7_fold 0 = .ok (.aload_n 0, 1) := by decide +kernel
theorem dX7_fold_1 : decode cX7_fold 1 = .ok (.invokevirtual 117, 3) := by decide +kernel
theorem dX7_fold_4 : decode cX7_fold 4 = .ok (.aload_n 0, 1) := by decide +kernel
theorem dX7_fold_5 : decode cX7_fold 5 = .ok (.aload_n 0, 1) := by decide +kernel
theorem dX7_fold_6 : decode cX7_fold 6 = .ok (.iload_n 1, 1) := by decide +kernel
theorem dX7_fold_7 : decode cX7_fold 7 = .ok (.invokevirtual 240, 3) := by decide +kernel
theorem dX7_fold_10 : decode cX7_fold 10 = .ok (.invokevirtual 124, 3) := by decide +kernel
theorem dX7_fold_13 : decode cX7_fold 13 = .ok (.ireturn, 1) := by decide +kernel
theorem dX7_folds_0 : decode cX7_folds 0 = .ok (.aload_n 0, 1) := by decide +kernel
theorem dX7_folds_1 : decode cX7_folds 1 = .ok (.invokevirtual 193, 3) := by decide +kernel
theorem dX7_folds_4 : decode cX7_folds 4 = .ok (.istore_n 1, 1) := by decide +kernel
theorem dX7_folds_5 : decode cX7_folds 5 = .ok (.aload_n 0, 1) := by decide +kernel
theorem dX7_folds_6 : decode cX7_folds 6 = .ok (.getfield 161, 3) := by decide +kernel
theorem dX7_folds_9 : decode cX7_folds 9 = .ok (.ifCond .ne 17, 3) := by decide +kernel
theorem dX7_folds_12 : decode cX7_folds 12 = .ok (.aload_n 0, 1) := by decide +kernel
theorem dX7_folds_13 : decode cX7_folds 13 = .ok (.getfield 165, 3) := by decide +kernel
theorem dX7_folds_16 : decode cX7_folds 16 = .ok (.iconst 1, 1) := by decide +kernel
theorem dX7_folds_17 : decode cX7_folds 17 = .ok (.if_icmp .ne 7, 3) := by decide +kernel
theorem dX7_folds_20 : decode cX7_folds 20 = .ok (.iconst 1, 1) := by decide +kernel
theorem dX7_folds_21 : decode cX7_folds 21 = .ok (.goto 4, 3) := by decide +kernel
theorem dX7_folds_24 : decode cX7_folds 24 = .ok (.iconst 0, 1) := by decide +kernel
theorem dX7_folds_25 : decode cX7_folds 25 = .ok (.ireturn, 1) := by decide +kernel
theorem dX7_folds_26 : decode cX7_folds 26 = .ok (.aload_n 0, 1) := by decide +kernel
theorem dX7_folds_27 : decode cX7_folds 27 = .ok (.getfield 165, 3) := by decide +kernel
theorem dX7_folds_30 : decode cX7_folds 30 = .ok (.iconst 2, 1) := by decide +kernel
theorem dX7_folds_31 : decode cX7_folds 31 = .ok (.if_icmp .ne 46, 3) := by decide +kernel
theorem dX7_folds_34 : decode cX7_folds 34 = .ok (.aload_n 0, 1) := by decide +kernel
theorem dX7_folds_35 : decode cX7_folds 35 = .ok (.getfield 28, 3) := by decide +kernel
theorem dX7_folds_38 : decode cX7_folds 38 = .ok (.iconst 0, 1) := by decide +kernel
theorem dX7_folds_39 : decode cX7_folds 39 = .ok (.iaload, 1) := by decide +kernel
theorem dX7_folds_40 : decode cX7_folds 40 = .ok (.aload_n 0, 1) := by decide +kernel
theorem dX7_folds_41 : decode cX7_folds 41 = .ok (.getfield 28, 3) := by decide +kernel
theorem dX7_folds_44 : decode cX7_folds 44 = .ok (.iconst 1, 1) := by decide +kernel
theorem dX7_folds_45 : decode cX7_folds 45 = .ok (.iaload, 1) := by decide +kernel
theorem dX7_folds_46 : decode cX7_folds 46 = .ok (.if_icmp .ne 31, 3) := by decide +kernel
theorem dX7_folds_49 : decode cX7_folds 49 = .ok (.aload_n 0, 1) := by decide +kernel
theorem dX7_folds_50 : decode cX7_folds 50 = .ok (.getfield 31, 3) := by decide +kernel
theorem dX7_folds_53 : decode cX7_folds 53 = .ok (.iconst 0, 1) := by decide +kernel
theorem dX7_folds_54 : decode cX7_folds 54 = .ok (.iaload, 1) := by decide +kernel
theorem dX7_folds_55 : decode cX7_folds 55 = .ok (.aload_n 0, 1) := by decide +kernel
theorem dX7_folds_56 : decode cX7_folds 56 = .ok (.getfield 31, 3) := by decide +kernel
theorem dX7_folds_59 : decode cX7_folds 59 = .ok (.iconst 1, 1) := by decide +kernel
theorem dX7_folds_60 : decode cX7_folds 60 = .ok (.iaload, 1) := by decide +kernel
theorem dX7_folds_61 : decode cX7_folds 61 = .ok (.if_icmp .ne 16, 3) := by decide +kernel
theorem dX7_folds_64 : decode cX7_folds 64 = .ok (.aload_n 0, 1) := by decide +kernel
theorem dX7_folds_65 : decode cX7_folds 65 = .ok (.getfield 31, 3) := by decide +kernel
theorem dX7_folds_68 : decode cX7_folds 68 = .ok (.iconst 0, 1) := by decide +kernel
theorem dX7_folds_69 : decode cX7_folds 69 = .ok (.iaload, 1) := by decide +kernel
theorem dX7_folds_70 : decode cX7_folds 70 = .ok (.ifCond .eq 7, 3) := by decide +kernel
theorem dX7_folds_73 : decode cX7_folds 73 = .ok (.iconst 1, 1) := by decide +kernel
theorem dX7_folds_74 : decode cX7_folds 74 = .ok (.goto 4, 3) := by decide +kernel
theorem dX7_folds_77 : decode cX7_folds 77 = .ok (.iconst 0, 1) := by decide +kernel
theorem dX7_folds_78 : decode cX7_folds 78 = .ok (.ireturn, 1) := by decide +kernel
theorem dX7_foldsAgain_0 : decode cX7_foldsAgain 0 = .ok (.aload_n 0, 1) := by decide +kernel
theorem dX7_foldsAgain_1 : decode cX7_foldsAgain 1 = .ok (.iload_n 1, 1) := by decide +kernel
theorem dX7_foldsAgain_2 : decode cX7_foldsAgain 2 = .ok (.invokevirtual 279, 3) := by decide +kernel
theorem dX7_foldsAgain_5 : decode cX7_foldsAgain 5 = .ok (.istore_n 2, 1) := by decide +kernel
theorem dX7_foldsAgain_6 : decode cX7_foldsAgain 6 = .ok (.iload_n 2, 1) := by decide +kernel
theorem dX7_foldsAgain_7 : decode cX7_foldsAgain 7 = .ok (.ifCond .eq 7, 3) := by decide +kernel
theorem dX7_foldsAgain_10 : decode cX7_foldsAgain 10 = .ok (.iload_n 2, 1) := by decide +kernel
theorem dX7_foldsAgain_11 : decode cX7_foldsAgain 11 = .ok (.goto 16, 3) := by decide +kernel
theorem dX7_foldsAgain_14 : decode cX7_foldsAgain 14 = .ok (.aload_n 0, 1) := by decide +kernel
theorem dX7_foldsAgain_15 : decode cX7_foldsAgain 15 = .ok (.iload_n 1, 1) := by decide +kernel
theorem dX7_foldsAgain_16 : decode cX7_foldsAgain 16 = .ok (.invokevirtual 282, 3) := by decide +kernel
theorem dX7_foldsAgain_19 : decode cX7_foldsAgain 19 = .ok (.ifCond .le 7, 3) := by decide +kernel
theorem dX7_foldsAgain_22 : decode cX7_foldsAgain 22 = .ok (.iconst 1, 1) := by decide +kernel
theorem dX7_foldsAgain_23 : decode cX7_foldsAgain 23 = .ok (.goto 4, 3) := by decide +kernel
theorem dX7_foldsAgain_26 : decode cX7_foldsAgain 26 = .ok (.iconst 0, 1) := by decide +kernel
theorem dX7_foldsAgain_27 : decode cX7_foldsAgain 27 = .ok (.ireturn, 1) := by decide +kernel
theorem dX7_foldsBy_0 : decode cX7_foldsBy 0 = .ok (.aload_n 0, 1) := by decide +kernel
theorem dX7_foldsBy_1 : decode cX7_foldsBy 1 = .ok (.iload_n 1, 1) := by decide +kernel
theorem dX7_foldsBy_2 : decode cX7_foldsBy 2 = .ok (.iload_n 2, 1) := by decide +kernel
theorem dX7_foldsBy_3 : decode cX7_foldsBy 3 = .ok (.invokevirtual 215, 3) := by decide +kernel
theorem dX7_foldsBy_6 : decode cX7_foldsBy 6 = .ok (.aload_n 0, 1) := by decide +kernel
theorem dX7_foldsBy_7 : decode cX7_foldsBy 7 = .ok (.invokevirtual 199, 3) := by decide +kernel
theorem dX7_foldsBy_10 : decode cX7_foldsBy 10 = .ok (.ireturn, 1) := by decide +kernel
theorem dX7_foldsNow_0 : decode cX7_foldsNow 0 = .ok (.aload_n 0, 1) := by decide +kernel
theorem dX7_foldsNow_1 : decode cX7_foldsNow 1 = .ok (.iload_n 1, 1) := by decide +kernel
theorem dX7_foldsNow_2 : decode cX7_foldsNow 2 = .ok (.invokevirtual 196, 3) := by decide +kernel
theorem dX7_foldsNow_5 : decode cX7_foldsNow 5 = .ok (.aload_n 0, 1) := by decide +kernel
theorem dX7_foldsNow_6 : decode cX7_foldsNow 6 = .ok (.invokevirtual 199, 3) := by decide +kernel
theorem dX7_foldsNow_9 : decode cX7_foldsNow 9 = .ok (.ireturn, 1) := by decide +kernel
theorem dX7_foldsOnStage_0 : decode cX7_foldsOnStage 0 = .ok (.aload_n 0, 1) := by decide +kernel
theorem dX7_foldsOnStage_1 : decode cX7_foldsOnStage 1 = .ok (.iload_n 1, 1) := by decide +kernel
theorem dX7_foldsOnStage_2 : decode cX7_foldsOnStage 2 = .ok (.invokevirtual 85, 3) := by decide +kernel
theorem dX7_foldsOnStage_5 : decode cX7_foldsOnStage 5 = .ok (.ifCond .ne 7, 3) := by decide +kernel
theorem dX7_foldsOnStage_8 : decode cX7_foldsOnStage 8 = .ok (.sipush (-1001), 3) := by decide +kernel
theorem dX7_foldsOnStage_11 : decode cX7_foldsOnStage 11 = .ok (.ireturn, 1) := by decide +kernel
theorem dX7_foldsOnStage_12 : decode cX7_foldsOnStage 12 = .ok (.aload_n 0, 1) := by decide +kernel
theorem dX7_foldsOnStage_13 : decode cX7_foldsOnStage 13 = .ok (.iload_n 1, 1) := by decide +kernel
theorem dX7_foldsOnStage_14 : decode cX7_foldsOnStage 14 = .ok (.invokevirtual 130, 3) := by decide +kernel
theorem dX7_foldsOnStage_17 : decode cX7_foldsOnStage 17 = .ok (.ifCond .eq 10, 3) := by decide +kernel
theorem dX7_foldsOnStage_20 : decode cX7_foldsOnStage 20 = .ok (.aload_n 0, 1) := by decide +kernel
theorem dX7_foldsOnStage_21 : decode cX7_foldsOnStage 21 = .ok (.iconst 2, 1) := by decide +kernel
theorem dX7_foldsOnStage_22 : decode cX7_foldsOnStage 22 = .ok (.iload_n 1, 1) := by decide +kernel
theorem dX7_foldsOnStage_23 : decode cX7_foldsOnStage 23 = .ok (.invokevirtual 101, 3) := by decide +kernel
theorem dX7_foldsOnStage_26 : decode cX7_foldsOnStage 26 = .ok (.ireturn, 1) := by decide +kernel
theorem dX7_foldsOnStage_27 : decode cX7_foldsOnStage 27 = .ok (.aload_n 0, 1) := by decide +kernel
theorem dX7_foldsOnStage_28 : decode cX7_foldsOnStage 28 = .ok (.iload_n 1, 1) := by decide +kernel
theorem dX7_foldsOnStage_29 : decode cX7_foldsOnStage 29 = .ok (.invokevirtual 212, 3) := by decide +kernel
theorem dX7_foldsOnStage_32 : decode cX7_foldsOnStage 32 = .ok (.istore_n 2, 1) := by decide +kernel
theorem dX7_foldsOnStage_33 : decode cX7_foldsOnStage 33 = .ok (.iload_n 2, 1) := by decide +kernel
theorem dX7_foldsOnStage_34 : decode cX7_foldsOnStage 34 = .ok (.iconst 4, 1) := by decide +kernel
theorem dX7_foldsOnStage_35 : decode cX7_foldsOnStage 35 = .ok (.if_icmp .ne 14, 3) := by decide +kernel
theorem dX7_foldsOnStage_38 : decode cX7_foldsOnStage 38 = .ok (.aload_n 0, 1) := by decide +kernel
theorem dX7_foldsOnStage_39 : decode cX7_foldsOnStage 39 = .ok (.iconst 4, 1) := by decide +kernel
theorem dX7_foldsOnStage_40 : decode cX7_foldsOnStage 40 = .ok (.aload_n 0, 1) := by decide +kernel
theorem dX7_foldsOnStage_41 : decode cX7_foldsOnStage 41 = .ok (.iload_n 1, 1) := by decide +kernel
theorem dX7_foldsOnStage_42 : decode cX7_foldsOnStage 42 = .ok (.invokevirtual 237, 3) := by decide +kernel
theorem dX7_foldsOnStage_45 : decode cX7_foldsOnStage 45 = .ok (.invokevirtual 101, 3) := by decide +kernel
theorem dX7_foldsOnStage_48 : decode cX7_foldsOnStage 48 = .ok (.ireturn, 1) := by decide +kernel
theorem dX7_foldsOnStage_49 : decode cX7_foldsOnStage 49 = .ok (.iload_n 2, 1) := by decide +kernel
theorem dX7_foldsOnStage_50 : decode cX7_foldsOnStage 50 = .ok (.ifCond .eq 10, 3) := by decide +kernel
theorem dX7_foldsOnStage_53 : decode cX7_foldsOnStage 53 = .ok (.aload_n 0, 1) := by decide +kernel
theorem dX7_foldsOnStage_54 : decode cX7_foldsOnStage 54 = .ok (.iconst 5, 1) := by decide +kernel
theorem dX7_foldsOnStage_55 : decode cX7_foldsOnStage 55 = .ok (.iload_n 2, 1) := by decide +kernel
theorem dX7_foldsOnStage_56 : decode cX7_foldsOnStage 56 = .ok (.invokevirtual 101, 3) := by decide +kernel
theorem dX7_foldsOnStage_59 : decode cX7_foldsOnStage 59 = .ok (.ireturn, 1) := by decide +kernel
theorem dX7_foldsOnStage_60 : decode cX7_foldsOnStage 60 = .ok (.aload_n 0, 1) := by decide +kernel
theorem dX7_foldsOnStage_61 : decode cX7_foldsOnStage 61 = .ok (.invokevirtual 231, 3) := by decide +kernel
theorem dX7_foldsOnStage_64 : decode cX7_foldsOnStage 64 = .ok (.aload_n 0, 1) := by decide +kernel
theorem dX7_foldsOnStage_65 : decode cX7_foldsOnStage 65 = .ok (.iload_n 1, 1) := by decide +kernel
theorem dX7_foldsOnStage_66 : decode cX7_foldsOnStage 66 = .ok (.invokevirtual 228, 3) := by decide +kernel
theorem dX7_foldsOnStage_69 : decode cX7_foldsOnStage 69 = .ok (.iadd, 1) := by decide +kernel
theorem dX7_foldsOnStage_70 : decode cX7_foldsOnStage 70 = .ok (.aload_n 0, 1) := by decide +kernel
theorem dX7_foldsOnStage_71 : decode cX7_foldsOnStage 71 = .ok (.getfield 9, 3) := by decide +kernel
theorem dX7_foldsOnStage_74 : decode cX7_foldsOnStage 74 = .ok (.iconst 1, 1) := by decide +kernel
theorem dX7_foldsOnStage_75 : decode cX7_foldsOnStage 75 = .ok (.iaload, 1) := by decide +kernel
theorem dX7_foldsOnStage_76 : decode cX7_foldsOnStage 76 = .ok (.isub, 1) := by decide +kernel
theorem dX7_foldsOnStage_77 : decode cX7_foldsOnStage 77 = .ok (.istore_n 3, 1) := by decide +kernel
theorem dX7_foldsOnStage_78 : decode cX7_foldsOnStage 78 = .ok (.iload_n 3, 1) := by decide +kernel
theorem dX7_foldsOnStage_79 : decode cX7_foldsOnStage 79 = .ok (.ifCond .le 11, 3) := by decide +kernel
theorem dX7_foldsOnStage_82 : decode cX7_foldsOnStage 82 = .ok (.aload_n 0, 1) := by decide +kernel
theorem dX7_foldsOnStage_83 : decode cX7_foldsOnStage 83 = .ok (.bipush 7, 2) := by decide +kernel
theorem dX7_foldsOnStage_85 : decode cX7_foldsOnStage 85 = .ok (.iload_n 3, 1) := by decide +kernel
theorem dX7_foldsOnStage_86 : decode cX7_foldsOnStage 86 = .ok (.invokevirtual 101, 3) := by decide +kernel
theorem dX7_foldsOnStage_89 : decode cX7_foldsOnStage 89 = .ok (.ireturn, 1) := by decide +kernel
theorem dX7_foldsOnStage_90 : decode cX7_foldsOnStage 90 = .ok (.aload_n 0, 1) := by decide +kernel
theorem dX7_foldsOnStage_91 : decode cX7_foldsOnStage 91 = .ok (.getfield 9, 3) := by decide +kernel
theorem dX7_foldsOnStage_94 : decode cX7_foldsOnStage 94 = .ok (.iload_n 1, 1) := by decide +kernel
theorem dX7_foldsOnStage_95 : decode cX7_foldsOnStage 95 = .ok (.iconst 2, 1) := by decide +kernel
theorem dX7_foldsOnStage_96 : decode cX7_foldsOnStage 96 = .ok (.invokestatic 74, 3) := by decide +kernel
theorem dX7_foldsOnStage_99 : decode cX7_foldsOnStage 99 = .ok (.iconst 1, 1) := by decide +kernel
theorem dX7_foldsOnStage_100 : decode cX7_foldsOnStage 100 = .ok (.iastore, 1) := by decide +kernel
theorem dX7_foldsOnStage_101 : decode cX7_foldsOnStage 101 = .ok (.aload_n 0, 1) := by decide +kernel
theorem dX7_foldsOnStage_102 : decode cX7_foldsOnStage 102 = .ok (.getfield 9, 3) := by decide +kernel
theorem dX7_foldsOnStage_105 : decode cX7_foldsOnStage 105 = .ok (.iconst 2, 1) := by decide +kernel
theorem dX7_foldsOnStage_106 : decode cX7_foldsOnStage 106 = .ok (.dup2, 1) := by decide +kernel
theorem dX7_foldsOnStage_107 : decode cX7_foldsOnStage 107 = .ok (.iaload, 1) := by decide +kernel
theorem dX7_foldsOnStage_108 : decode cX7_foldsOnStage 108 = .ok (.iconst 1, 1) := by decide +kernel
theorem dX7_foldsOnStage_109 : decode cX7_foldsOnStage 109 = .ok (.iadd, 1) := by decide +kernel
theorem dX7_foldsOnStage_110 : decode cX7_foldsOnStage 110 = .ok (.iastore, 1) := by decide +kernel
theorem dX7_foldsOnStage_111 : decode cX7_foldsOnStage 111 = .ok (.aload_n 0, 1) := by decide +kernel
theorem dX7_foldsOnStage_112 : decode cX7_foldsOnStage 112 = .ok (.iload_n 1, 1) := by decide +kernel
theorem dX7_foldsOnStage_113 : decode cX7_foldsOnStage 113 = .ok (.invokevirtual 228, 3) := by decide +kernel
theorem dX7_foldsOnStage_116 : decode cX7_foldsOnStage 116 = .ok (.ireturn, 1) := by decide +kernel
theorem dX7_gives_0 : decode cX7_gives 0 = .ok (.iload_n 1, 1) := by decide +kernel
theorem dX7_gives_1 : decode cX7_gives 1 = .ok (.aload_n 0, 1) := by decide +kernel
theorem dX7_gives_2 : decode cX7_gives 2 = .ok (.getfield 255, 3) := by decide +kernel
theorem dX7_gives_5 : decode cX7_gives 5 = .ok (.if_icmp .ne 56, 3) := by decide +kernel
theorem dX7_gives_8 : decode cX7_gives 8 = .ok (.aload_n 0, 1) := by decide +kernel
theorem dX7_gives_9 : decode cX7_gives 9 = .ok (.invokevirtual 267, 3) := by decide +kernel
theorem dX7_gives_12 : decode cX7_gives 12 = .ok (.ifCond .eq 48, 3) := by decide +kernel
theorem dX7_gives_15 : decode cX7_gives 15 = .ok (.iconst 0, 1) := by decide +kernel
theorem dX7_gives_16 : decode cX7_gives 16 = .ok (.istore_n 2, 1) := by decide +kernel
theorem dX7_gives_17 : decode cX7_gives 17 = .ok (.iload_n 2, 1) := by decide +kernel
theorem dX7_gives_18 : decode cX7_gives 18 = .ok (.aload_n 0, 1) := by decide +kernel
theorem dX7_gives_19 : decode cX7_gives 19 = .ok (.getfield 255, 3) := by decide +kernel
theorem dX7_gives_22 : decode cX7_gives 22 = .ok (.if_icmp .ge 28, 3) := by decide +kernel
theorem dX7_gives_25 : decode cX7_gives 25 = .ok (.aload_n 0, 1) := by decide +kernel
theorem dX7_gives_26 : decode cX7_gives 26 = .ok (.getfield 270, 3) := by decide +kernel
theorem dX7_gives_29 : decode cX7_gives 29 = .ok (.ifCond .ne 21, 3) := by decide +kernel
theorem dX7_gives_32 : decode cX7_gives 32 = .ok (.aload_n 0, 1) := by decide +kernel
theorem dX7_gives_33 : decode cX7_gives 33 = .ok (.getfield 37, 3) := by decide +kernel
theorem dX7_gives_36 : decode cX7_gives 36 = .ok (.iload_n 2, 1) := by decide +kernel
theorem dX7_gives_37 : decode cX7_gives 37 = .ok (.aload_n 0, 1) := by decide +kernel
theorem dX7_gives_38 : decode cX7_gives 38 = .ok (.getfield 34, 3) := by decide +kernel
theorem dX7_gives_41 : decode cX7_gives 41 = .ok (.iload_n 2, 1) := by decide +kernel
theorem dX7_gives_42 : decode cX7_gives 42 = .ok (.iaload, 1) := by decide +kernel
theorem dX7_gives_43 : decode cX7_gives 43 = .ok (.iastore, 1) := by decide +kernel
theorem dX7_gives_44 : decode cX7_gives 44 = .ok (.iinc 2 1, 3) := by decide +kernel
theorem dX7_gives_47 : decode cX7_gives 47 = .ok (.goto (-30), 3) := by decide +kernel
theorem dX7_gives_50 : decode cX7_gives 50 = .ok (.aload_n 0, 1) := by decide +kernel
theorem dX7_gives_51 : decode cX7_gives 51 = .ok (.dup, 1) := by decide +kernel
theorem dX7_gives_52 : decode cX7_gives 52 = .ok (.getfield 270, 3) := by decide +kernel
theorem dX7_gives_55 : decode cX7_gives 55 = .ok (.iconst 1, 1) := by decide +kernel
theorem dX7_gives_56 : decode cX7_gives 56 = .ok (.iadd, 1) := by decide +kernel
theorem dX7_gives_57 : decode cX7_gives 57 = .ok (.putfield 270, 3) := by decide +kernel
theorem dX7_gives_60 : decode cX7_gives 60 = .ok (.return_, 1) := by decide +kernel
theorem dX7_gives_61 : decode cX7_gives 61 = .ok (.iconst 0, 1) := by decide +kernel
theorem dX7_gives_62 : decode cX7_gives 62 = .ok (.istore_n 2, 1) := by decide +kernel
theorem dX7_gives_63 : decode cX7_gives 63 = .ok (.iload_n 2, 1) := by decide +kernel
theorem dX7_gives_64 : decode cX7_gives 64 = .ok (.aload_n 0, 1) := by decide +kernel
theorem dX7_gives_65 : decode cX7_gives 65 = .ok (.getfield 255, 3) := by decide +kernel
theorem dX7_gives_68 : decode cX7_gives 68 = .ok (.if_icmp .ge 80, 3) := by decide +kernel
theorem dX7_gives_71 : decode cX7_gives 71 = .ok (.aload_n 0, 1) := by decide +kernel
theorem dX7_gives_72 : decode cX7_gives 72 = .ok (.getfield 43, 3) := by decide +kernel
theorem dX7_gives_75 : decode cX7_gives 75 = .ok (.iload_n 2, 1) := by decide +kernel
theorem dX7_gives_76 : decode cX7_gives 76 = .ok (.baload, 1) := by decide +kernel
theorem dX7_gives_77 : decode cX7_gives 77 = .ok (.ifCond .ne 65, 3) := by decide +kernel
theorem dX7_gives_80 : decode cX7_gives 80 = .ok (.iload_n 1, 1) := by decide +kernel
theorem dX7_gives_81 : decode cX7_gives 81 = .ok (.ifCond .le 33, 3) := by decide +kernel
theorem dX7_gives_84 : decode cX7_gives 84 = .ok (.iload_n 2, 1) := by decide +kernel
theorem dX7_gives_85 : decode cX7_gives 85 = .ok (.aload_n 0, 1) := by decide +kernel
theorem dX7_gives_86 : decode cX7_gives 86 = .ok (.getfield 34, 3) := by decide +kernel
theorem dX7_gives_89 : decode cX7_gives 89 = .ok (.iload_n 1, 1) := by decide +kernel
theorem dX7_gives_90 : decode cX7_gives 90 = .ok (.iconst 1, 1) := by decide +kernel
theorem dX7_gives_91 : decode cX7_gives 91 = .ok (.isub, 1) := by decide +kernel
theorem dX7_gives_92 : decode cX7_gives 92 = .ok (.iaload, 1) := by decide +kernel
theorem dX7_gives_93 : decode cX7_gives 93 = .ok (.if_icmp .le 7, 3) := by decide +kernel
theorem dX7_gives_96 : decode cX7_gives 96 = .ok (.iconst 1, 1) := by decide +kernel
theorem dX7_gives_97 : decode cX7_gives 97 = .ok (.goto 4, 3) := by decide +kernel
theorem dX7_gives_100 : decode cX7_gives 100 = .ok (.iconst 0, 1) := by decide +kernel
theorem dX7_gives_101 : decode cX7_gives 101 = .ok (.aload_n 0, 1) := by decide +kernel
theorem dX7_gives_102 : decode cX7_gives 102 = .ok (.iload_n 1, 1) := by decide +kernel
theorem dX7_gives_103 : decode cX7_gives 103 = .ok (.iconst 1, 1) := by decide +kernel
theorem dX7_gives_104 : decode cX7_gives 104 = .ok (.isub, 1) := by decide +kernel
theorem dX7_gives_105 : decode cX7_gives 105 = .ok (.invokevirtual 273, 3) := by decide +kernel
theorem dX7_gives_108 : decode cX7_gives 108 = .ok (.if_icmp .eq 6, 3) := by decide +kernel
theorem dX7_gives_111 : decode cX7_gives 111 = .ok (.goto 31, 3) := by decide +kernel
theorem dX7_gives_114 : decode cX7_gives 114 = .ok (.aload_n 0, 1) := by decide +kernel
theorem dX7_gives_115 : decode cX7_gives 115 = .ok (.getfield 43, 3) := by decide +kernel
theorem dX7_gives_118 : decode cX7_gives 118 = .ok (.iload_n 2, 1) := by decide +kernel
theorem dX7_gives_119 : decode cX7_gives 119 = .ok (.iconst 1, 1) := by decide +kernel
theorem dX7_gives_120 : decode cX7_gives 120 = .ok (.bastore, 1) := by decide +kernel
theorem dX7_gives_121 : decode cX7_gives 121 = .ok (.aload_n 0, 1) := by decide +kernel
theorem dX7_gives_122 : decode cX7_gives 122 = .ok (.getfield 34, 3) := by decide +kernel
theorem dX7_gives_125 : decode cX7_gives 125 = .ok (.iload_n 1, 1) := by decide +kernel
theorem dX7_gives_126 : decode cX7_gives 126 = .ok (.iload_n 2, 1) := by decide +kernel
theorem dX7_gives_127 : decode cX7_gives 127 = .ok (.iastore, 1) := by decide +kernel
theorem dX7_gives_128 : decode cX7_gives 128 = .ok (.aload_n 0, 1) := by decide +kernel
theorem dX7_gives_129 : decode cX7_gives 129 = .ok (.iload_n 1, 1) := by decide +kernel
theorem dX7_gives_130 : decode cX7_gives 130 = .ok (.iconst 1, 1) := by decide +kernel
theorem dX7_gives_131 : decode cX7_gives 131 = .ok (.iadd, 1) := by decide +kernel
theorem dX7_gives_132 : decode cX7_gives 132 = .ok (.invokevirtual 276, 3) := by decide +kernel
theorem dX7_gives_135 : decode cX7_gives 135 = .ok (.aload_n 0, 1) := by decide +kernel
theorem dX7_gives_136 : decode cX7_gives 136 = .ok (.getfield 43, 3) := by decide +kernel
theorem dX7_gives_139 : decode cX7_gives 139 = .ok (.iload_n 2, 1) := by decide +kernel
theorem dX7_gives_140 : decode cX7_gives 140 = .ok (.iconst 0, 1) := by decide +kernel
theorem dX7_gives_141 : decode cX7_gives 141 = .ok (.bastore, 1) := by decide +kernel
theorem dX7_gives_142 : decode cX7_gives 142 = .ok (.iinc 2 1, 3) := by decide +kernel
theorem dX7_gives_145 : decode cX7_gives 145 = .ok (.goto (-82), 3) := by decide +kernel
theorem dX7_gives_148 : decode cX7_gives 148 = .ok (.return_, 1) := by decide +kernel
theorem dX7_goes_0 : decode cX7_goes 0 = .ok (.iload_n 1, 1) := by decide +kernel
theorem dX7_goes_1 : decode cX7_goes 1 = .ok (.iconst 0, 1) := by decide +kernel
theorem dX7_goes_2 : decode cX7_goes 2 = .ok (.invokestatic 74, 3) := by decide +kernel
theorem dX7_goes_5 : decode cX7_goes 5 = .ok (.istore_n 2, 1) := by decide +kernel
theorem dX7_goes_6 : decode cX7_goes 6 = .ok (.iload_n 2, 1) := by decide +kernel
theorem dX7_goes_7 : decode cX7_goes 7 = .ok (.aload_n 0, 1) := by decide +kernel
theorem dX7_goes_8 : decode cX7_goes 8 = .ok (.getfield 9, 3) := by decide +kernel
theorem dX7_goes_11 : decode cX7_goes 11 = .ok (.iconst 0, 1) := by decide +kernel
theorem dX7_goes_12 : decode cX7_goes 12 = .ok (.iaload, 1) := by decide +kernel
theorem dX7_goes_13 : decode cX7_goes 13 = .ok (.iconst 1, 1) := by decide +kernel
theorem dX7_goes_14 : decode cX7_goes 14 = .ok (.isub, 1) := by decide +kernel
theorem dX7_goes_15 : decode cX7_goes 15 = .ok (.iconst 0, 1) := by decide +kernel
theorem dX7_goes_16 : decode cX7_goes 16 = .ok (.invokestatic 74, 3) := by decide +kernel
theorem dX7_goes_19 : decode cX7_goes 19 = .ok (.if_icmp .ge 24, 3) := by decide +kernel
theorem dX7_goes_22 : decode cX7_goes 22 = .ok (.aload_n 0, 1) := by decide +kernel
theorem dX7_goes_23 : decode cX7_goes 23 = .ok (.getfield 9, 3) := by decide +kernel
theorem dX7_goes_26 : decode cX7_goes 26 = .ok (.iload_n 2, 1) := by decide +kernel
theorem dX7_goes_27 : decode cX7_goes 27 = .ok (.aload_n 0, 1) := by decide +kernel
theorem dX7_goes_28 : decode cX7_goes 28 = .ok (.getfield 9, 3) := by decide +kernel
theorem dX7_goes_31 : decode cX7_goes 31 = .ok (.iload_n 2, 1) := by decide +kernel
theorem dX7_goes_32 : decode cX7_goes 32 = .ok (.bipush 19, 2) := by decide +kernel
theorem dX7_goes_34 : decode cX7_goes 34 = .ok (.iadd, 1) := by decide +kernel
theorem dX7_goes_35 : decode cX7_goes 35 = .ok (.iaload, 1) := by decide +kernel
theorem dX7_goes_36 : decode cX7_goes 36 = .ok (.iastore, 1) := by decide +kernel
theorem dX7_goes_37 : decode cX7_goes 37 = .ok (.iinc 2 1, 3) := by decide +kernel
theorem dX7_goes_40 : decode cX7_goes 40 = .ok (.goto (-34), 3) := by decide +kernel
theorem dX7_goes_43 : decode cX7_goes 43 = .ok (.aload_n 0, 1) := by decide +kernel
theorem dX7_goes_44 : decode cX7_goes 44 = .ok (.getfield 9, 3) := by decide +kernel
theorem dX7_goes_47 : decode cX7_goes 47 = .ok (.iconst 0, 1) := by decide +kernel
theorem dX7_goes_48 : decode cX7_goes 48 = .ok (.dup2, 1) := by decide +kernel
theorem dX7_goes_49 : decode cX7_goes 49 = .ok (.iaload, 1) := by decide +kernel
theorem dX7_goes_50 : decode cX7_goes 50 = .ok (.iconst 1, 1) := by decide +kernel
theorem dX7_goes_51 : decode cX7_goes 51 = .ok (.isub, 1) := by decide +kernel
theorem dX7_goes_52 : decode cX7_goes 52 = .ok (.iastore, 1) := by decide +kernel
theorem dX7_goes_53 : decode cX7_goes 53 = .ok (.return_, 1) := by decide +kernel
theorem dX7_greater_0 : decode cX7_greater 0 = .ok (.iload_n 0, 1) := by decide +kernel
theorem dX7_greater_1 : decode cX7_greater 1 = .ok (.iload_n 1, 1) := by decide +kernel
theorem dX7_greater_2 : decode cX7_greater 2 = .ok (.if_icmp .le 7, 3) := by decide +kernel
theorem dX7_greater_5 : decode cX7_greater 5 = .ok (.iload_n 0, 1) := by decide +kernel
theorem dX7_greater_6 : decode cX7_greater 6 = .ok (.goto 4, 3) := by decide +kernel
theorem dX7_greater_9 : decode cX7_greater 9 = .ok (.iload_n 1, 1) := by decide +kernel
theorem dX7_greater_10 : decode cX7_greater 10 = .ok (.ireturn, 1) := by decide +kernel
theorem dX7_hasSharp_0 : decode cX7_hasSharp 0 = .ok (.aload_n 0, 1) := by decide +kernel
theorem dX7_hasSharp_1 : decode cX7_hasSharp 1 = .ok (.iload_n 1, 1) := by decide +kernel
theorem dX7_hasSharp_2 : decode cX7_hasSharp 2 = .ok (.iconst 1, 1) := by decide +kernel
theorem dX7_hasSharp_3 : decode cX7_hasSharp 3 = .ok (.invokevirtual 78, 3) := by decide +kernel
theorem dX7_hasSharp_6 : decode cX7_hasSharp 6 = .ok (.istore_n 2, 1) := by decide +kernel
theorem dX7_hasSharp_7 : decode cX7_hasSharp 7 = .ok (.iconst 0, 1) := by decide +kernel
theorem dX7_hasSharp_8 : decode cX7_hasSharp 8 = .ok (.istore_n 3, 1) := by decide +kernel
theorem dX7_hasSharp_9 : decode cX7_hasSharp 9 = .ok (.iload_n 3, 1) := by decide +kernel
theorem dX7_hasSharp_10 : decode cX7_hasSharp 10 = .ok (.iload_n 2, 1) := by decide +kernel
theorem dX7_hasSharp_11 : decode cX7_hasSharp 11 = .ok (.if_icmp .ge 78, 3) := by decide +kernel
theorem dX7_hasSharp_14 : decode cX7_hasSharp 14 = .ok (.aload_n 0, 1) := by decide +kernel
theorem dX7_hasSharp_15 : decode cX7_hasSharp 15 = .ok (.iload_n 1, 1) := by decide +kernel
theorem dX7_hasSharp_16 : decode cX7_hasSharp 16 = .ok (.iload_n 3, 1) := by decide +kernel
theorem dX7_hasSharp_17 : decode cX7_hasSharp 17 = .ok (.iload_n 2, 1) := by decide +kernel
theorem dX7_hasSharp_18 : decode cX7_hasSharp 18 = .ok (.iadd, 1) := by decide +kernel
theorem dX7_hasSharp_19 : decode cX7_hasSharp 19 = .ok (.iconst 1, 1) := by decide +kernel
theorem dX7_hasSharp_20 : decode cX7_hasSharp 20 = .ok (.isub, 1) := by decide +kernel
theorem dX7_hasSharp_21 : decode cX7_hasSharp 21 = .ok (.iload_n 2, 1) := by decide +kernel
theorem dX7_hasSharp_22 : decode cX7_hasSharp 22 = .ok (.irem, 1) := by decide +kernel
theorem dX7_hasSharp_23 : decode cX7_hasSharp 23 = .ok (.invokevirtual 142, 3) := by decide +kernel
theorem dX7_hasSharp_26 : decode cX7_hasSharp 26 = .ok (.istore 4, 2) := by decide +kernel
theorem dX7_hasSharp_28 : decode cX7_hasSharp 28 = .ok (.aload_n 0, 1) := by decide +kernel
theorem dX7_hasSharp_29 : decode cX7_hasSharp 29 = .ok (.iload_n 1, 1) := by decide +kernel
theorem dX7_hasSharp_30 : decode cX7_hasSharp 30 = .ok (.iload_n 3, 1) := by decide +kernel
theorem dX7_hasSharp_31 : decode cX7_hasSharp 31 = .ok (.iconst 1, 1) := by decide +kernel
theorem dX7_hasSharp_32 : decode cX7_hasSharp 32 = .ok (.iadd, 1) := by decide +kernel
theorem dX7_hasSharp_33 : decode cX7_hasSharp 33 = .ok (.iload_n 2, 1) := by decide +kernel
theorem dX7_hasSharp_34 : decode cX7_hasSharp 34 = .ok (.irem, 1) := by decide +kernel
theorem dX7_hasSharp_35 : decode cX7_hasSharp 35 = .ok (.invokevirtual 142, 3) := by decide +kernel
theorem dX7_hasSharp_38 : decode cX7_hasSharp 38 = .ok (.istore 5, 2) := by decide +kernel
theorem dX7_hasSharp_40 : decode cX7_hasSharp 40 = .ok (.aload_n 0, 1) := by decide +kernel
theorem dX7_hasSharp_41 : decode cX7_hasSharp 41 = .ok (.iload_n 1, 1) := by decide +kernel
theorem dX7_hasSharp_42 : decode cX7_hasSharp 42 = .ok (.iload_n 3, 1) := by decide +kernel
theorem dX7_hasSharp_43 : decode cX7_hasSharp 43 = .ok (.invokevirtual 142, 3) := by decide +kernel
theorem dX7_hasSharp_46 : decode cX7_hasSharp 46 = .ok (.iload 4, 2) := by decide +kernel
theorem dX7_hasSharp_48 : decode cX7_hasSharp 48 = .ok (.if_icmp .ge 35, 3) := by decide +kernel
theorem dX7_hasSharp_51 : decode cX7_hasSharp 51 = .ok (.aload_n 0, 1) := by decide +kernel
theorem dX7_hasSharp_52 : decode cX7_hasSharp 52 = .ok (.iload_n 1, 1) := by decide +kernel
theorem dX7_hasSharp_53 : decode cX7_hasSharp 53 = .ok (.iload_n 3, 1) := by decide +kernel
theorem dX7_hasSharp_54 : decode cX7_hasSharp 54 = .ok (.invokevirtual 142, 3) := by decide +kernel
theorem dX7_hasSharp_57 : decode cX7_hasSharp 57 = .ok (.iload 5, 2) := by decide +kernel
theorem dX7_hasSharp_59 : decode cX7_hasSharp 59 = .ok (.if_icmp .ge 24, 3) := by decide +kernel
theorem dX7_hasSharp_62 : decode cX7_hasSharp 62 = .ok (.aload_n 0, 1) := by decide +kernel
theorem dX7_hasSharp_63 : decode cX7_hasSharp 63 = .ok (.iload_n 1, 1) := by decide +kernel
theorem dX7_hasSharp_64 : decode cX7_hasSharp 64 = .ok (.iload_n 3, 1) := by decide +kernel
theorem dX7_hasSharp_65 : decode cX7_hasSharp 65 = .ok (.invokevirtual 92, 3) := by decide +kernel
theorem dX7_hasSharp_68 : decode cX7_hasSharp 68 = .ok (.aload_n 0, 1) := by decide +kernel
theorem dX7_hasSharp_69 : decode cX7_hasSharp 69 = .ok (.iload_n 1, 1) := by decide +kernel
theorem dX7_hasSharp_70 : decode cX7_hasSharp 70 = .ok (.iload_n 3, 1) := by decide +kernel
theorem dX7_hasSharp_71 : decode cX7_hasSharp 71 = .ok (.iconst 1, 1) := by decide +kernel
theorem dX7_hasSharp_72 : decode cX7_hasSharp 72 = .ok (.iadd, 1) := by decide +kernel
theorem dX7_hasSharp_73 : decode cX7_hasSharp 73 = .ok (.iload_n 2, 1) := by decide +kernel
theorem dX7_hasSharp_74 : decode cX7_hasSharp 74 = .ok (.irem, 1) := by decide +kernel
theorem dX7_hasSharp_75 : decode cX7_hasSharp 75 = .ok (.invokevirtual 92, 3) := by decide +kernel
theorem dX7_hasSharp_78 : decode cX7_hasSharp 78 = .ok (.if_icmp .ne 5, 3) := by decide +kernel
theorem dX7_hasSharp_81 : decode cX7_hasSharp 81 = .ok (.iconst 1, 1) := by decide +kernel
theorem dX7_hasSharp_82 : decode cX7_hasSharp 82 = .ok (.ireturn, 1) := by decide +kernel
theorem dX7_hasSharp_83 : decode cX7_hasSharp 83 = .ok (.iinc 3 1, 3) := by decide +kernel
theorem dX7_hasSharp_86 : decode cX7_hasSharp 86 = .ok (.goto (-77), 3) := by decide +kernel
theorem dX7_hasSharp_89 : decode cX7_hasSharp 89 = .ok (.iconst 0, 1) := by decide +kernel
theorem dX7_hasSharp_90 : decode cX7_hasSharp 90 = .ok (.ireturn, 1) := by decide +kernel
theorem dX7_isAbove_0 : decode cX7_isAbove 0 = .ok (.aload_n 0, 1) := by decide +kernel
theorem dX7_isAbove_1 : decode cX7_isAbove 1 = .ok (.aload_n 0, 1) := by decide +kernel
theorem dX7_isAbove_2 : decode cX7_isAbove 2 = .ok (.getfield 252, 3) := by decide +kernel
theorem dX7_isAbove_5 : decode cX7_isAbove 5 = .ok (.iload_n 1, 1) := by decide +kernel
theorem dX7_isAbove_6 : decode cX7_isAbove 6 = .ok (.invokevirtual 92, 3) := by decide +kernel
theorem dX7_isAbove_9 : decode cX7_isAbove 9 = .ok (.iconst 2, 1) := by decide +kernel
theorem dX7_isAbove_10 : decode cX7_isAbove 10 = .ok (.if_icmp .ne 7, 3) := by decide +kernel
theorem dX7_isAbove_13 : decode cX7_isAbove 13 = .ok (.iconst 1, 1) := by decide +kernel
theorem dX7_isAbove_14 : decode cX7_isAbove 14 = .ok (.goto 4, 3) := by decide +kernel
theorem dX7_isAbove_17 : decode cX7_isAbove 17 = .ok (.iconst 0, 1) := by decide +kernel
theorem dX7_isAbove_18 : decode cX7_isAbove 18 = .ok (.iload_n 1, 1) := by decide +kernel
theorem dX7_isAbove_19 : decode cX7_isAbove 19 = .ok (.iconst 2, 1) := by decide +kernel
theorem dX7_isAbove_20 : decode cX7_isAbove 20 = .ok (.irem, 1) := by decide +kernel
theorem dX7_isAbove_21 : decode cX7_isAbove 21 = .ok (.ifCond .ne 7, 3) := by decide +kernel
theorem dX7_isAbove_24 : decode cX7_isAbove 24 = .ok (.iconst 1, 1) := by decide +kernel
theorem dX7_isAbove_25 : decode cX7_isAbove 25 = .ok (.goto 4, 3) := by decide +kernel
theorem dX7_isAbove_28 : decode cX7_isAbove 28 = .ok (.iconst 0, 1) := by decide +kernel
theorem dX7_isAbove_29 : decode cX7_isAbove 29 = .ok (.if_icmp .ne 7, 3) := by decide +kernel
theorem dX7_isAbove_32 : decode cX7_isAbove 32 = .ok (.iconst 1, 1) := by decide +kernel
theorem dX7_isAbove_33 : decode cX7_isAbove 33 = .ok (.goto 4, 3) := by decide +kernel
theorem dX7_isAbove_36 : decode cX7_isAbove 36 = .ok (.iconst 0, 1) := by decide +kernel
theorem dX7_isAbove_37 : decode cX7_isAbove 37 = .ok (.ireturn, 1) := by decide +kernel
theorem dX7_isBetween_0 : decode cX7_isBetween 0 = .ok (.aload_n 0, 1) := by decide +kernel
theorem dX7_isBetween_1 : decode cX7_isBetween 1 = .ok (.getfield 34, 3) := by decide +kernel
theorem dX7_isBetween_4 : decode cX7_isBetween 4 = .ok (.iload_n 2, 1) := by decide +kernel
theorem dX7_isBetween_5 : decode cX7_isBetween 5 = .ok (.iaload, 1) := by decide +kernel
theorem dX7_isBetween_6 : decode cX7_isBetween 6 = .ok (.aload_n 0, 1) := by decide +kernel
theorem dX7_isBetween_7 : decode cX7_isBetween 7 = .ok (.getfield 34, 3) := by decide +kernel
theorem dX7_isBetween_10 : decode cX7_isBetween 10 = .ok (.iload_n 2, 1) := by decide +kernel
theorem dX7_isBetween_11 : decode cX7_isBetween 11 = .ok (.iconst 1, 1) := by decide +kernel
theorem dX7_isBetween_12 : decode cX7_isBetween 12 = .ok (.iadd, 1) := by decide +kernel
theorem dX7_isBetween_13 : decode cX7_isBetween 13 = .ok (.iaload, 1) := by decide +kernel
theorem dX7_isBetween_14 : decode cX7_isBetween 14 = .ok (.invokestatic 155, 3) := by decide +kernel
theorem dX7_isBetween_17 : decode cX7_isBetween 17 = .ok (.istore_n 3, 1) := by decide +kernel
theorem dX7_isBetween_18 : decode cX7_isBetween 18 = .ok (.aload_n 0, 1) := by decide +kernel
theorem dX7_isBetween_19 : decode cX7_isBetween 19 = .ok (.getfield 34, 3) := by decide +kernel
theorem dX7_isBetween_22 : decode cX7_isBetween 22 = .ok (.iload_n 2, 1) := by decide +kernel
theorem dX7_isBetween_23 : decode cX7_isBetween 23 = .ok (.iaload, 1) := by decide +kernel
theorem dX7_isBetween_24 : decode cX7_isBetween 24 = .ok (.aload_n 0, 1) := by decide +kernel
theorem dX7_isBetween_25 : decode cX7_isBetween 25 = .ok (.getfield 34, 3) := by decide +kernel
theorem dX7_isBetween_28 : decode cX7_isBetween 28 = .ok (.iload_n 2, 1) := by decide +kernel
theorem dX7_isBetween_29 : decode cX7_isBetween 29 = .ok (.iconst 1, 1) := by decide +kernel
theorem dX7_isBetween_30 : decode cX7_isBetween 30 = .ok (.iadd, 1) := by decide +kernel
theorem dX7_isBetween_31 : decode cX7_isBetween 31 = .ok (.iaload, 1) := by decide +kernel
theorem dX7_isBetween_32 : decode cX7_isBetween 32 = .ok (.invokestatic 178, 3) := by decide +kernel
theorem dX7_isBetween_35 : decode cX7_isBetween 35 = .ok (.istore 4, 2) := by decide +kernel
theorem dX7_isBetween_37 : decode cX7_isBetween 37 = .ok (.aload_n 0, 1) := by decide +kernel
theorem dX7_isBetween_38 : decode cX7_isBetween 38 = .ok (.getfield 34, 3) := by decide +kernel
theorem dX7_isBetween_41 : decode cX7_isBetween 41 = .ok (.iload_n 1, 1) := by decide +kernel
theorem dX7_isBetween_42 : decode cX7_isBetween 42 = .ok (.iaload, 1) := by decide +kernel
theorem dX7_isBetween_43 : decode cX7_isBetween 43 = .ok (.iload_n 3, 1) := by decide +kernel
theorem dX7_isBetween_44 : decode cX7_isBetween 44 = .ok (.if_icmp .le 18, 3) := by decide +kernel
theorem dX7_isBetween_47 : decode cX7_isBetween 47 = .ok (.aload_n 0, 1) := by decide +kernel
theorem dX7_isBetween_48 : decode cX7_isBetween 48 = .ok (.getfield 34, 3) := by decide +kernel
theorem dX7_isBetween_51 : decode cX7_isBetween 51 = .ok (.iload_n 1, 1) := by decide +kernel
theorem dX7_isBetween_52 : decode cX7_isBetween 52 = .ok (.iaload, 1) := by decide +kernel
theorem dX7_isBetween_53 : decode cX7_isBetween 53 = .ok (.iload 4, 2) := by decide +kernel
theorem dX7_isBetween_55 : decode cX7_isBetween 55 = .ok (.if_icmp .ge 7, 3) := by decide +kernel
theorem dX7_isBetween_58 : decode cX7_isBetween 58 = .ok (.iconst 1, 1) := by decide +kernel
theorem dX7_isBetween_59 : decode cX7_isBetween 59 = .ok (.goto 4, 3) := by decide +kernel
theorem dX7_isBetween_62 : decode cX7_isBetween 62 = .ok (.iconst 0, 1) := by decide +kernel
theorem dX7_isBetween_63 : decode cX7_isBetween 63 = .ok (.ireturn, 1) := by decide +kernel
theorem dX7_isCorner_0 : decode cX7_isCorner 0 = .ok (.aload_n 0, 1) := by decide +kernel
theorem dX7_isCorner_1 : decode cX7_isCorner 1 = .ok (.iload_n 1, 1) := by decide +kernel
theorem dX7_isCorner_2 : decode cX7_isCorner 2 = .ok (.iconst 0, 1) := by decide +kernel
theorem dX7_isCorner_3 : decode cX7_isCorner 3 = .ok (.invokevirtual 78, 3) := by decide +kernel
theorem dX7_isCorner_6 : decode cX7_isCorner 6 = .ok (.iconst 1, 1) := by decide +kernel
theorem dX7_isCorner_7 : decode cX7_isCorner 7 = .ok (.if_icmp .ne 7, 3) := by decide +kernel
theorem dX7_isCorner_10 : decode cX7_isCorner 10 = .ok (.iconst 1, 1) := by decide +kernel
theorem dX7_isCorner_11 : decode cX7_isCorner 11 = .ok (.goto 4, 3) := by decide +kernel
theorem dX7_isCorner_14 : decode cX7_isCorner 14 = .ok (.iconst 0, 1) := by decide +kernel
theorem dX7_isCorner_15 : decode cX7_isCorner 15 = .ok (.ireturn, 1) := by decide +kernel
theorem dX7_isCrease_0 : decode cX7_isCrease 0 = .ok (.aload_n 0, 1) := by decide +kernel
theorem dX7_isCrease_1 : decode cX7_isCrease 1 = .ok (.iload_n 1, 1) := by decide +kernel
theorem dX7_isCrease_2 : decode cX7_isCrease 2 = .ok (.invokevirtual 85, 3) := by decide +kernel
theorem dX7_isCrease_5 : decode cX7_isCrease 5 = .ok (.ifCond .eq 22, 3) := by decide +kernel
theorem dX7_isCrease_8 : decode cX7_isCrease 8 = .ok (.iload_n 2, 1) := by decide +kernel
theorem dX7_isCrease_9 : decode cX7_isCrease 9 = .ok (.iconst 0, 1) := by decide +kernel
theorem dX7_isCrease_10 : decode cX7_isCrease 10 = .ok (.aload_n 0, 1) := by decide +kernel
theorem dX7_isCrease_11 : decode cX7_isCrease 11 = .ok (.iload_n 1, 1) := by decide +kernel
theorem dX7_isCrease_12 : decode cX7_isCrease 12 = .ok (.invokevirtual 88, 3) := by decide +kernel
theorem dX7_isCrease_15 : decode cX7_isCrease 15 = .ok (.iconst 1, 1) := by decide +kernel
theorem dX7_isCrease_16 : decode cX7_isCrease 16 = .ok (.isub, 1) := by decide +kernel
theorem dX7_isCrease_17 : decode cX7_isCrease 17 = .ok (.invokestatic 61, 3) := by decide +kernel
theorem dX7_isCrease_20 : decode cX7_isCrease 20 = .ok (.ifCond .eq 7, 3) := by decide +kernel
theorem dX7_isCrease_23 : decode cX7_isCrease 23 = .ok (.iconst 1, 1) := by decide +kernel
theorem dX7_isCrease_24 : decode cX7_isCrease 24 = .ok (.goto 4, 3) := by decide +kernel
theorem dX7_isCrease_27 : decode cX7_isCrease 27 = .ok (.iconst 0, 1) := by decide +kernel
theorem dX7_isCrease_28 : decode cX7_isCrease 28 = .ok (.ireturn, 1) := by decide +kernel
theorem dX7_isFolded_0 : decode cX7_isFolded 0 = .ok (.aload_n 0, 1) := by decide +kernel
theorem dX7_isFolded_1 : decode cX7_isFolded 1 = .ok (.iload_n 1, 1) := by decide +kernel
theorem dX7_isFolded_2 : decode cX7_isFolded 2 = .ok (.iconst 2, 1) := by decide +kernel
theorem dX7_isFolded_3 : decode cX7_isFolded 3 = .ok (.invokevirtual 78, 3) := by decide +kernel
theorem dX7_isFolded_6 : decode cX7_isFolded 6 = .ok (.iconst 1, 1) := by decide +kernel
theorem dX7_isFolded_7 : decode cX7_isFolded 7 = .ok (.if_icmp .ne 7, 3) := by decide +kernel
theorem dX7_isFolded_10 : decode cX7_isFolded 10 = .ok (.iconst 1, 1) := by decide +kernel
theorem dX7_isFolded_11 : decode cX7_isFolded 11 = .ok (.goto 4, 3) := by decide +kernel
theorem dX7_isFolded_14 : decode cX7_isFolded 14 = .ok (.iconst 0, 1) := by decide +kernel
theorem dX7_isFolded_15 : decode cX7_isFolded 15 = .ok (.ireturn, 1) := by decide +kernel
theorem dX7_isIn_0 : decode cX7_isIn 0 = .ok (.iload_n 0, 1) := by decide +kernel
theorem dX7_isIn_1 : decode cX7_isIn 1 = .ok (.iload_n 1, 1) := by decide +kernel
theorem dX7_isIn_2 : decode cX7_isIn 2 = .ok (.if_icmp .lt 12, 3) := by decide +kernel
theorem dX7_isIn_5 : decode cX7_isIn 5 = .ok (.iload_n 0, 1) := by decide +kernel
theorem dX7_isIn_6 : decode cX7_isIn 6 = .ok (.iload_n 2, 1) := by decide +kernel
theorem dX7_isIn_7 : decode cX7_isIn 7 = .ok (.if_icmp .gt 7, 3) := by decide +kernel
theorem dX7_isIn_10 : decode cX7_isIn 10 = .ok (.iconst 1, 1) := by decide +kernel
theorem dX7_isIn_11 : decode cX7_isIn 11 = .ok (.goto 4, 3) := by decide +kernel
theorem dX7_isIn_14 : decode cX7_isIn 14 = .ok (.iconst 0, 1) := by decide +kernel
theorem dX7_isIn_15 : decode cX7_isIn 15 = .ok (.ireturn, 1) := by decide +kernel
theorem dX7_isPiece_0 : decode cX7_isPiece 0 = .ok (.iload_n 1, 1) := by decide +kernel
theorem dX7_isPiece_1 : decode cX7_isPiece 1 = .ok (.iconst 0, 1) := by decide +kernel
theorem dX7_isPiece_2 : decode cX7_isPiece 2 = .ok (.aload_n 0, 1) := by decide +kernel
theorem dX7_isPiece_3 : decode cX7_isPiece 3 = .ok (.getfield 9, 3) := by decide +kernel
theorem dX7_isPiece_6 : decode cX7_isPiece 6 = .ok (.iconst 0, 1) := by decide +kernel
theorem dX7_isPiece_7 : decode cX7_isPiece 7 = .ok (.iaload, 1) := by decide +kernel
theorem dX7_isPiece_8 : decode cX7_isPiece 8 = .ok (.iconst 1, 1) := by decide +kernel
theorem dX7_isPiece_9 : decode cX7_isPiece 9 = .ok (.isub, 1) := by decide +kernel
theorem dX7_isPiece_10 : decode cX7_isPiece 10 = .ok (.invokestatic 61, 3) := by decide +kernel
theorem dX7_isPiece_13 : decode cX7_isPiece 13 = .ok (.ireturn, 1) := by decide +kernel
theorem dX7_isPossible_0 : decode cX7_isPossible 0 = .ok (.iconst 0, 1) := by decide +kernel
theorem dX7_isPossible_1 : decode cX7_isPossible 1 = .ok (.istore_n 1, 1) := by decide +kernel
theorem dX7_isPossible_2 : decode cX7_isPossible 2 = .ok (.iload_n 1, 1) := by decide +kernel
theorem dX7_isPossible_3 : decode cX7_isPossible 3 = .ok (.aload_n 0, 1) := by decide +kernel
theorem dX7_isPossible_4 : decode cX7_isPossible 4 = .ok (.getfield 255, 3) := by decide +kernel
theorem dX7_isPossible_7 : decode cX7_isPossible 7 = .ok (.iconst 1, 1) := by decide +kernel
theorem dX7_isPossible_8 : decode cX7_isPossible 8 = .ok (.isub, 1) := by decide +kernel
theorem dX7_isPossible_9 : decode cX7_isPossible 9 = .ok (.if_icmp .ge 19, 3) := by decide +kernel
theorem dX7_isPossible_12 : decode cX7_isPossible 12 = .ok (.aload_n 0, 1) := by decide +kernel
theorem dX7_isPossible_13 : decode cX7_isPossible 13 = .ok (.iload_n 1, 1) := by decide +kernel
theorem dX7_isPossible_14 : decode cX7_isPossible 14 = .ok (.invokevirtual 264, 3) := by decide +kernel
theorem dX7_isPossible_17 : decode cX7_isPossible 17 = .ok (.ifCond .eq 5, 3) := by decide +kernel
theorem dX7_isPossible_20 : decode cX7_isPossible 20 = .ok (.iconst 0, 1) := by decide +kernel
theorem dX7_isPossible_21 : decode cX7_isPossible 21 = .ok (.ireturn, 1) := by decide +kernel
theorem dX7_isPossible_22 : decode cX7_isPossible 22 = .ok (.iinc 1 1, 3) := by decide +kernel
theorem dX7_isPossible_25 : decode cX7_isPossible 25 = .ok (.goto (-23), 3) := by decide +kernel
theorem dX7_isPossible_28 : decode cX7_isPossible 28 = .ok (.iconst 1, 1) := by decide +kernel
theorem dX7_isPossible_29 : decode cX7_isPossible 29 = .ok (.ireturn, 1) := by decide +kernel
theorem dX7_isStripWithout_0 : decode cX7_isStripWithout 0 = .ok (.aload_n 0, 1) := by decide +kernel
theorem dX7_isStripWithout_1 : decode cX7_isStripWithout 1 = .ok (.iload_n 1, 1) := by decide +kernel
theorem dX7_isStripWithout_2 : decode cX7_isStripWithout 2 = .ok (.invokevirtual 81, 3) := by decide +kernel
theorem dX7_isStripWithout_5 : decode cX7_isStripWithout 5 = .ok (.ifCond .ne 16, 3) := by decide +kernel
theorem dX7_isStripWithout_8 : decode cX7_isStripWithout 8 = .ok (.iload_n 2, 1) := by decide +kernel
theorem dX7_isStripWithout_9 : decode cX7_isStripWithout 9 = .ok (.iconst 0, 1) := by decide +kernel
theorem dX7_isStripWithout_10 : decode cX7_isStripWithout 10 = .ok (.iload_n 3, 1) := by decide +kernel
theorem dX7_isStripWithout_11 : decode cX7_isStripWithout 11 = .ok (.invokestatic 61, 3) := by decide +kernel
theorem dX7_isStripWithout_14 : decode cX7_isStripWithout 14 = .ok (.ifCond .ne 7, 3) := by decide +kernel
theorem dX7_isStripWithout_17 : decode cX7_isStripWithout 17 = .ok (.iconst 1, 1) := by decide +kernel
theorem dX7_isStripWithout_18 : decode cX7_isStripWithout 18 = .ok (.goto 4, 3) := by decide +kernel
theorem dX7_isStripWithout_21 : decode cX7_isStripWithout 21 = .ok (.iconst 0, 1) := by decide +kernel
theorem dX7_isStripWithout_22 : decode cX7_isStripWithout 22 = .ok (.ireturn, 1) := by decide +kernel
theorem dX7_isText_0 : decode cX7_isText 0 = .ok (.aload_n 0, 1) := by decide +kernel
theorem dX7_isText_1 : decode cX7_isText 1 = .ok (.iconst 0, 1) := by decide +kernel
theorem dX7_isText_2 : decode cX7_isText 2 = .ok (.putfield 294, 3) := by decide +kernel
theorem dX7_isText_5 : decode cX7_isText 5 = .ok (.aload_n 0, 1) := by decide +kernel
theorem dX7_isText_6 : decode cX7_isText 6 = .ok (.invokevirtual 333, 3) := by decide +kernel
theorem dX7_isText_9 : decode cX7_isText 9 = .ok (.istore_n 1, 1) := by decide +kernel
theorem dX7_isText_10 : decode cX7_isText 10 = .ok (.iload_n 1, 1) := by decide +kernel
theorem dX7_isText_11 : decode cX7_isText 11 = .ok (.ifCond .eq 20, 3) := by decide +kernel
theorem dX7_isText_14 : decode cX7_isText 14 = .ok (.aload_n 0, 1) := by decide +kernel
theorem dX7_isText_15 : decode cX7_isText 15 = .ok (.bipush 59, 2) := by decide +kernel
theorem dX7_isText_17 : decode cX7_isText 17 = .ok (.invokevirtual 312, 3) := by decide +kernel
theorem dX7_isText_20 : decode cX7_isText 20 = .ok (.ifCond .eq 11, 3) := by decide +kernel
theorem dX7_isText_23 : decode cX7_isText 23 = .ok (.aload_n 0, 1) := by decide +kernel
theorem dX7_isText_24 : decode cX7_isText 24 = .ok (.invokevirtual 333, 3) := by decide +kernel
theorem dX7_isText_27 : decode cX7_isText 27 = .ok (.istore_n 1, 1) := by decide +kernel
theorem dX7_isText_28 : decode cX7_isText 28 = .ok (.goto (-18), 3) := by decide +kernel
theorem dX7_isText_31 : decode cX7_isText 31 = .ok (.iload_n 1, 1) := by decide +kernel
theorem dX7_isText_32 : decode cX7_isText 32 = .ok (.ifCond .eq 18, 3) := by decide +kernel
theorem dX7_isText_35 : decode cX7_isText 35 = .ok (.aload_n 0, 1) := by decide +kernel
theorem dX7_isText_36 : decode cX7_isText 36 = .ok (.getfield 294, 3) := by decide +kernel
theorem dX7_isText_39 : decode cX7_isText 39 = .ok (.aload_n 0, 1) := by decide +kernel
theorem dX7_isText_40 : decode cX7_isText 40 = .ok (.getfield 291, 3) := by decide +kernel
theorem dX7_isText_43 : decode cX7_isText 43 = .ok (.if_icmp .ne 7, 3) := by decide +kernel
theorem dX7_isText_46 : decode cX7_isText 46 = .ok (.iconst 1, 1) := by decide +kernel
theorem dX7_isText_47 : decode cX7_isText 47 = .ok (.goto 4, 3) := by decide +kernel
theorem dX7_isText_50 : decode cX7_isText 50 = .ok (.iconst 0, 1) := by decide +kernel
theorem dX7_isText_51 : decode cX7_isText 51 = .ok (.ireturn, 1) := by decide +kernel
theorem dX7_join_0 : decode cX7_join 0 = .ok (.aload_n 0, 1) := by decide +kernel
theorem dX7_join_1 : decode cX7_join 1 = .ok (.invokevirtual 117, 3) := by decide +kernel
theorem dX7_join_4 : decode cX7_join 4 = .ok (.aload_n 0, 1) := by decide +kernel
theorem dX7_join_5 : decode cX7_join 5 = .ok (.aload_n 0, 1) := by decide +kernel
theorem dX7_join_6 : decode cX7_join 6 = .ok (.iload_n 1, 1) := by decide +kernel
theorem dX7_join_7 : decode cX7_join 7 = .ok (.iload_n 2, 1) := by decide +kernel
theorem dX7_join_8 : decode cX7_join 8 = .ok (.iload_n 3, 1) := by decide +kernel
theorem dX7_join_9 : decode cX7_join 9 = .ok (.invokevirtual 152, 3) := by decide +kernel
theorem dX7_join_12 : decode cX7_join 12 = .ok (.invokevirtual 124, 3) := by decide +kernel
theorem dX7_join_15 : decode cX7_join 15 = .ok (.ireturn, 1) := by decide +kernel
theorem dX7_joins_0 : decode cX7_joins 0 = .ok (.aload_n 0, 1) := by decide +kernel
theorem dX7_joins_1 : decode cX7_joins 1 = .ok (.iload_n 1, 1) := by decide +kernel
theorem dX7_joins_2 : decode cX7_joins 2 = .ok (.invokevirtual 85, 3) := by decide +kernel
theorem dX7_joins_5 : decode cX7_joins 5 = .ok (.ifCond .eq 16, 3) := by decide +kernel
theorem dX7_joins_8 : decode cX7_joins 8 = .ok (.aload_n 0, 1) := by decide +kernel
theorem dX7_joins_9 : decode cX7_joins 9 = .ok (.iload_n 2, 1) := by decide +kernel
theorem dX7_joins_10 : decode cX7_joins 10 = .ok (.invokevirtual 85, 3) := by decide +kernel
theorem dX7_joins_13 : decode cX7_joins 13 = .ok (.ifCond .eq 8, 3) := by decide +kernel
theorem dX7_joins_16 : decode cX7_joins 16 = .ok (.iload_n 1, 1) := by decide +kernel
theorem dX7_joins_17 : decode cX7_joins 17 = .ok (.iload_n 2, 1) := by decide +kernel
theorem dX7_joins_18 : decode cX7_joins 18 = .ok (.if_icmp .ne 7, 3) := by decide +kernel
theorem dX7_joins_21 : decode cX7_joins 21 = .ok (.sipush (-1001), 3) := by decide +kernel
theorem dX7_joins_24 : decode cX7_joins 24 = .ok (.ireturn, 1) := by decide +kernel
theorem dX7_joins_25 : decode cX7_joins 25 = .ok (.iload_n 3, 1) := by decide +kernel
theorem dX7_joins_26 : decode cX7_joins 26 = .ok (.iconst 0, 1) := by decide +kernel
theorem dX7_joins_27 : decode cX7_joins 27 = .ok (.iconst 2, 1) := by decide +kernel
theorem dX7_joins_28 : decode cX7_joins 28 = .ok (.invokestatic 61, 3) := by decide +kernel
theorem dX7_joins_31 : decode cX7_joins 31 = .ok (.ifCond .ne 7, 3) := by decide +kernel
theorem dX7_joins_34 : decode cX7_joins 34 = .ok (.sipush (-1002), 3) := by decide +kernel
theorem dX7_joins_37 : decode cX7_joins 37 = .ok (.ireturn, 1) := by decide +kernel
theorem dX7_joins_38 : decode cX7_joins 38 = .ok (.aload_n 0, 1) := by decide +kernel
theorem dX7_joins_39 : decode cX7_joins 39 = .ok (.iload_n 1, 1) := by decide +kernel
theorem dX7_joins_40 : decode cX7_joins 40 = .ok (.invokevirtual 130, 3) := by decide +kernel
theorem dX7_joins_43 : decode cX7_joins 43 = .ok (.ifCond .ne 11, 3) := by decide +kernel
theorem dX7_joins_46 : decode cX7_joins 46 = .ok (.aload_n 0, 1) := by decide +kernel
theorem dX7_joins_47 : decode cX7_joins 47 = .ok (.iload_n 2, 1) := by decide +kernel
theorem dX7_joins_48 : decode cX7_joins 48 = .ok (.invokevirtual 130, 3) := by decide +kernel
theorem dX7_joins_51 : decode cX7_joins 51 = .ok (.ifCond .eq 22, 3) := by decide +kernel
theorem dX7_joins_54 : decode cX7_joins 54 = .ok (.aload_n 0, 1) := by decide +kernel
theorem dX7_joins_55 : decode cX7_joins 55 = .ok (.iconst 2, 1) := by decide +kernel
theorem dX7_joins_56 : decode cX7_joins 56 = .ok (.aload_n 0, 1) := by decide +kernel
theorem dX7_joins_57 : decode cX7_joins 57 = .ok (.iload_n 1, 1) := by decide +kernel
theorem dX7_joins_58 : decode cX7_joins 58 = .ok (.invokevirtual 130, 3) := by decide +kernel
theorem dX7_joins_61 : decode cX7_joins 61 = .ok (.ifCond .eq 7, 3) := by decide +kernel
theorem dX7_joins_64 : decode cX7_joins 64 = .ok (.iload_n 1, 1) := by decide +kernel
theorem dX7_joins_65 : decode cX7_joins 65 = .ok (.goto 4, 3) := by decide +kernel
theorem dX7_joins_68 : decode cX7_joins 68 = .ok (.iload_n 2, 1) := by decide +kernel
theorem dX7_joins_69 : decode cX7_joins 69 = .ok (.invokevirtual 101, 3) := by decide +kernel
theorem dX7_joins_72 : decode cX7_joins 72 = .ok (.ireturn, 1) := by decide +kernel
theorem dX7_joins_73 : decode cX7_joins 73 = .ok (.aload_n 0, 1) := by decide +kernel
theorem dX7_joins_74 : decode cX7_joins 74 = .ok (.iload_n 1, 1) := by decide +kernel
theorem dX7_joins_75 : decode cX7_joins 75 = .ok (.invokevirtual 81, 3) := by decide +kernel
theorem dX7_joins_78 : decode cX7_joins 78 = .ok (.ifCond .ne 11, 3) := by decide +kernel
theorem dX7_joins_81 : decode cX7_joins 81 = .ok (.aload_n 0, 1) := by decide +kernel
theorem dX7_joins_82 : decode cX7_joins 82 = .ok (.iload_n 2, 1) := by decide +kernel
theorem dX7_joins_83 : decode cX7_joins 83 = .ok (.invokevirtual 81, 3) := by decide +kernel
theorem dX7_joins_86 : decode cX7_joins 86 = .ok (.ifCond .eq 22, 3) := by decide +kernel
theorem dX7_joins_89 : decode cX7_joins 89 = .ok (.aload_n 0, 1) := by decide +kernel
theorem dX7_joins_90 : decode cX7_joins 90 = .ok (.iconst 3, 1) := by decide +kernel
theorem dX7_joins_91 : decode cX7_joins 91 = .ok (.aload_n 0, 1) := by decide +kernel
theorem dX7_joins_92 : decode cX7_joins 92 = .ok (.iload_n 1, 1) := by decide +kernel
theorem dX7_joins_93 : decode cX7_joins 93 = .ok (.invokevirtual 81, 3) := by decide +kernel
theorem dX7_joins_96 : decode cX7_joins 96 = .ok (.ifCond .eq 7, 3) := by decide +kernel
theorem dX7_joins_99 : decode cX7_joins 99 = .ok (.iload_n 1, 1) := by decide +kernel
theorem dX7_joins_100 : decode cX7_joins 100 = .ok (.goto 4, 3) := by decide +kernel
theorem dX7_joins_103 : decode cX7_joins 103 = .ok (.iload_n 2, 1) := by decide +kernel
theorem dX7_joins_104 : decode cX7_joins 104 = .ok (.invokevirtual 101, 3) := by decide +kernel
theorem dX7_joins_107 : decode cX7_joins 107 = .ok (.ireturn, 1) := by decide +kernel
theorem dX7_joins_108 : decode cX7_joins 108 = .ok (.aload_n 0, 1) := by decide +kernel
theorem dX7_joins_109 : decode cX7_joins 109 = .ok (.iload_n 1, 1) := by decide +kernel
theorem dX7_joins_110 : decode cX7_joins 110 = .ok (.iconst 1, 1) := by decide +kernel
theorem dX7_joins_111 : decode cX7_joins 111 = .ok (.invokevirtual 78, 3) := by decide +kernel
theorem dX7_joins_114 : decode cX7_joins 114 = .ok (.istore 4, 2) := by decide +kernel
theorem dX7_joins_116 : decode cX7_joins 116 = .ok (.aload_n 0, 1) := by decide +kernel
theorem dX7_joins_117 : decode cX7_joins 117 = .ok (.iload_n 2, 1) := by decide +kernel
theorem dX7_joins_118 : decode cX7_joins 118 = .ok (.iconst 1, 1) := by decide +kernel
theorem dX7_joins_119 : decode cX7_joins 119 = .ok (.invokevirtual 78, 3) := by decide +kernel
theorem dX7_joins_122 : decode cX7_joins 122 = .ok (.istore 5, 2) := by decide +kernel
theorem dX7_joins_124 : decode cX7_joins 124 = .ok (.iload 4, 2) := by decide +kernel
theorem dX7_joins_126 : decode cX7_joins 126 = .ok (.iload 5, 2) := by decide +kernel
theorem dX7_joins_128 : decode cX7_joins 128 = .ok (.iadd, 1) := by decide +kernel
theorem dX7_joins_129 : decode cX7_joins 129 = .ok (.bipush 7, 2) := by decide +kernel
theorem dX7_joins_131 : decode cX7_joins 131 = .ok (.if_icmp .le 15, 3) := by decide +kernel
theorem dX7_joins_134 : decode cX7_joins 134 = .ok (.aload_n 0, 1) := by decide +kernel
theorem dX7_joins_135 : decode cX7_joins 135 = .ok (.bipush 6, 2) := by decide +kernel
theorem dX7_joins_137 : decode cX7_joins 137 = .ok (.iload 4, 2) := by decide +kernel
theorem dX7_joins_139 : decode cX7_joins 139 = .ok (.iload 5, 2) := by decide +kernel
theorem dX7_joins_141 : decode cX7_joins 141 = .ok (.iadd, 1) := by decide +kernel
theorem dX7_joins_142 : decode cX7_joins 142 = .ok (.invokevirtual 101, 3) := by decide +kernel
theorem dX7_joins_145 : decode cX7_joins 145 = .ok (.ireturn, 1) := by decide +kernel
theorem dX7_joins_146 : decode cX7_joins 146 = .ok (.aload_n 0, 1) := by decide +kernel
theorem dX7_joins_147 : decode cX7_joins 147 = .ok (.getfield 9, 3) := by decide +kernel
theorem dX7_joins_150 : decode cX7_joins 150 = .ok (.iload_n 1, 1) := by decide +kernel
theorem dX7_joins_151 : decode cX7_joins 151 = .ok (.bipush 11, 2) := by decide +kernel
theorem dX7_joins_153 : decode cX7_joins 153 = .ok (.iload 4, 2) := by decide +kernel
theorem dX7_joins_155 : decode cX7_joins 155 = .ok (.iadd, 1) := by decide +kernel
theorem dX7_joins_156 : decode cX7_joins 156 = .ok (.iconst 1, 1) := by decide +kernel
theorem dX7_joins_157 : decode cX7_joins 157 = .ok (.isub, 1) := by decide +kernel
theorem dX7_joins_158 : decode cX7_joins 158 = .ok (.invokestatic 74, 3) := by decide +kernel
theorem dX7_joins_161 : decode cX7_joins 161 = .ok (.iload_n 3, 1) := by decide +kernel
theorem dX7_joins_162 : decode cX7_joins 162 = .ok (.iastore, 1) := by decide +kernel
theorem dX7_joins_163 : decode cX7_joins 163 = .ok (.iconst 0, 1) := by decide +kernel
theorem dX7_joins_164 : decode cX7_joins 164 = .ok (.istore 6, 2) := by decide +kernel
theorem dX7_joins_166 : decode cX7_joins 166 = .ok (.iload 6, 2) := by decide +kernel
theorem dX7_joins_168 : decode cX7_joins 168 = .ok (.iload 5, 2) := by decide +kernel
theorem dX7_joins_170 : decode cX7_joins 170 = .ok (.if_icmp .ge 65, 3) := by decide +kernel
theorem dX7_joins_173 : decode cX7_joins 173 = .ok (.aload_n 0, 1) := by decide +kernel
theorem dX7_joins_174 : decode cX7_joins 174 = .ok (.getfield 9, 3) := by decide +kernel
theorem dX7_joins_177 : decode cX7_joins 177 = .ok (.iload_n 1, 1) := by decide +kernel
theorem dX7_joins_178 : decode cX7_joins 178 = .ok (.iconst 3, 1) := by decide +kernel
theorem dX7_joins_179 : decode cX7_joins 179 = .ok (.iload 4, 2) := by decide +kernel
theorem dX7_joins_181 : decode cX7_joins 181 = .ok (.iadd, 1) := by decide +kernel
theorem dX7_joins_182 : decode cX7_joins 182 = .ok (.iload 6, 2) := by decide +kernel
theorem dX7_joins_184 : decode cX7_joins 184 = .ok (.iadd, 1) := by decide +kernel
theorem dX7_joins_185 : decode cX7_joins 185 = .ok (.invokestatic 74, 3) := by decide +kernel
theorem dX7_joins_188 : decode cX7_joins 188 = .ok (.aload_n 0, 1) := by decide +kernel
theorem dX7_joins_189 : decode cX7_joins 189 = .ok (.iload_n 2, 1) := by decide +kernel
theorem dX7_joins_190 : decode cX7_joins 190 = .ok (.iload 6, 2) := by decide +kernel
theorem dX7_joins_192 : decode cX7_joins 192 = .ok (.invokevirtual 142, 3) := by decide +kernel
theorem dX7_joins_195 : decode cX7_joins 195 = .ok (.iastore, 1) := by decide +kernel
theorem dX7_joins_196 : decode cX7_joins 196 = .ok (.iload 6, 2) := by decide +kernel
theorem dX7_joins_198 : decode cX7_joins 198 = .ok (.iload 5, 2) := by decide +kernel
theorem dX7_joins_200 : decode cX7_joins 200 = .ok (.iconst 1, 1) := by decide +kernel
theorem dX7_joins_201 : decode cX7_joins 201 = .ok (.isub, 1) := by decide +kernel
theorem dX7_joins_202 : decode cX7_joins 202 = .ok (.if_icmp .ge 27, 3) := by decide +kernel
theorem dX7_joins_205 : decode cX7_joins 205 = .ok (.aload_n 0, 1) := by decide +kernel
theorem dX7_joins_206 : decode cX7_joins 206 = .ok (.getfield 9, 3) := by decide +kernel
theorem dX7_joins_209 : decode cX7_joins 209 = .ok (.iload_n 1, 1) := by decide +kernel
theorem dX7_joins_210 : decode cX7_joins 210 = .ok (.bipush 11, 2) := by decide +kernel
theorem dX7_joins_212 : decode cX7_joins 212 = .ok (.iload 4, 2) := by decide +kernel
theorem dX7_joins_214 : decode cX7_joins 214 = .ok (.iadd, 1) := by decide +kernel
theorem dX7_joins_215 : decode cX7_joins 215 = .ok (.iload 6, 2) := by decide +kernel
theorem dX7_joins_217 : decode cX7_joins 217 = .ok (.iadd, 1) := by decide +kernel
theorem dX7_joins_218 : decode cX7_joins 218 = .ok (.invokestatic 74, 3) := by decide +kernel
theorem dX7_joins_221 : decode cX7_joins 221 = .ok (.aload_n 0, 1) := by decide +kernel
theorem dX7_joins_222 : decode cX7_joins 222 = .ok (.iload_n 2, 1) := by decide +kernel
theorem dX7_joins_223 : decode cX7_joins 223 = .ok (.iload 6, 2) := by decide +kernel
theorem dX7_joins_225 : decode cX7_joins 225 = .ok (.invokevirtual 92, 3) := by decide +kernel
theorem dX7_joins_228 : decode cX7_joins 228 = .ok (.iastore, 1) := by decide +kernel
theorem dX7_joins_229 : decode cX7_joins 229 = .ok (.iinc 6 1, 3) := by decide +kernel
theorem dX7_joins_232 : decode cX7_joins 232 = .ok (.goto (-66), 3) := by decide +kernel
theorem dX7_joins_235 : decode cX7_joins 235 = .ok (.aload_n 0, 1) := by decide +kernel
theorem dX7_joins_236 : decode cX7_joins 236 = .ok (.getfield 9, 3) := by decide +kernel
theorem dX7_joins_239 : decode cX7_joins 239 = .ok (.iload_n 1, 1) := by decide +kernel
theorem dX7_joins_240 : decode cX7_joins 240 = .ok (.iconst 1, 1) := by decide +kernel
theorem dX7_joins_241 : decode cX7_joins 241 = .ok (.invokestatic 74, 3) := by decide +kernel
theorem dX7_joins_244 : decode cX7_joins 244 = .ok (.iload 4, 2) := by decide +kernel
theorem dX7_joins_246 : decode cX7_joins 246 = .ok (.iload 5, 2) := by decide +kernel
theorem dX7_joins_248 : decode cX7_joins 248 = .ok (.iadd, 1) := by decide +kernel
theorem dX7_joins_249 : decode cX7_joins 249 = .ok (.iastore, 1) := by decide +kernel
theorem dX7_joins_250 : decode cX7_joins 250 = .ok (.aload_n 0, 1) := by decide +kernel
theorem dX7_joins_251 : decode cX7_joins 251 = .ok (.iload_n 2, 1) := by decide +kernel
theorem dX7_joins_252 : decode cX7_joins 252 = .ok (.invokevirtual 148, 3) := by decide +kernel
theorem dX7_joins_255 : decode cX7_joins 255 = .ok (.iload 4, 2) := by decide +kernel
theorem dX7_joins_257 : decode cX7_joins 257 = .ok (.iload 5, 2) := by decide +kernel
theorem dX7_joins_259 : decode cX7_joins 259 = .ok (.iadd, 1) := by decide +kernel
theorem dX7_joins_260 : decode cX7_joins 260 = .ok (.ireturn, 1) := by decide +kernel
theorem dX7_keeps_0 : decode cX7_keeps 0 = .ok (.aload_n 0, 1) := by decide +kernel
theorem dX7_keeps_1 : decode cX7_keeps 1 = .ok (.getfield 9, 3) := by decide +kernel
theorem dX7_keeps_4 : decode cX7_keeps 4 = .ok (.iconst 0, 1) := by decide +kernel
theorem dX7_keeps_5 : decode cX7_keeps 5 = .ok (.aload_n 0, 1) := by decide +kernel
theorem dX7_keeps_6 : decode cX7_keeps 6 = .ok (.getfield 13, 3) := by decide +kernel
theorem dX7_keeps_9 : decode cX7_keeps 9 = .ok (.iconst 0, 1) := by decide +kernel
theorem dX7_keeps_10 : decode cX7_keeps 10 = .ok (.invokestatic 54, 3) := by decide +kernel
theorem dX7_keeps_13 : decode cX7_keeps 13 = .ok (.return_, 1) := by decide +kernel
theorem dX7_kindOf_0 : decode cX7_kindOf 0 = .ok (.iload_n 0, 1) := by decide +kernel
theorem dX7_kindOf_1 : decode cX7_kindOf 1 = .ok (.bipush 111, 2) := by decide +kernel
theorem dX7_kindOf_3 : decode cX7_kindOf 3 = .ok (.if_icmp .ne 7, 3) := by decide +kernel
theorem dX7_kindOf_6 : decode cX7_kindOf 6 = .ok (.iconst 0, 1) := by decide +kernel
theorem dX7_kindOf_7 : decode cX7_kindOf 7 = .ok (.goto 24, 3) := by decide +kernel
theorem dX7_kindOf_10 : decode cX7_kindOf 10 = .ok (.iload_n 0, 1) := by decide +kernel
theorem dX7_kindOf_11 : decode cX7_kindOf 11 = .ok (.bipush 109, 2) := by decide +kernel
theorem dX7_kindOf_13 : decode cX7_kindOf 13 = .ok (.if_icmp .ne 7, 3) := by decide +kernel
theorem dX7_kindOf_16 : decode cX7_kindOf 16 = .ok (.iconst 1, 1) := by decide +kernel
theorem dX7_kindOf_17 : decode cX7_kindOf 17 = .ok (.goto 14, 3) := by decide +kernel
theorem dX7_kindOf_20 : decode cX7_kindOf 20 = .ok (.iload_n 0, 1) := by decide +kernel
theorem dX7_kindOf_21 : decode cX7_kindOf 21 = .ok (.bipush 118, 2) := by decide +kernel
theorem dX7_kindOf_23 : decode cX7_kindOf 23 = .ok (.if_icmp .ne 7, 3) := by decide +kernel
theorem dX7_kindOf_26 : decode cX7_kindOf 26 = .ok (.iconst 2, 1) := by decide +kernel
theorem dX7_kindOf_27 : decode cX7_kindOf 27 = .ok (.goto 4, 3) := by decide +kernel
theorem dX7_kindOf_30 : decode cX7_kindOf 30 = .ok (.iconst (-1), 1) := by decide +kernel
theorem dX7_kindOf_31 : decode cX7_kindOf 31 = .ok (.ireturn, 1) := by decide +kernel
theorem dX7_layer_0 : decode cX7_layer 0 = .ok (.aload_n 0, 1) := by decide +kernel
theorem dX7_layer_1 : decode cX7_layer 1 = .ok (.iload_n 1, 1) := by decide +kernel
theorem dX7_layer_2 : decode cX7_layer 2 = .ok (.invokevirtual 85, 3) := by decide +kernel
theorem dX7_layer_5 : decode cX7_layer 5 = .ok (.ifCond .eq 20, 3) := by decide +kernel
theorem dX7_layer_8 : decode cX7_layer 8 = .ok (.aload_n 0, 1) := by decide +kernel
theorem dX7_layer_9 : decode cX7_layer 9 = .ok (.iload_n 1, 1) := by decide +kernel
theorem dX7_layer_10 : decode cX7_layer 10 = .ok (.iload_n 2, 1) := by decide +kernel
theorem dX7_layer_11 : decode cX7_layer 11 = .ok (.aload_n 0, 1) := by decide +kernel
theorem dX7_layer_12 : decode cX7_layer 12 = .ok (.iload_n 1, 1) := by decide +kernel
theorem dX7_layer_13 : decode cX7_layer 13 = .ok (.iconst 1, 1) := by decide +kernel
theorem dX7_layer_14 : decode cX7_layer 14 = .ok (.invokevirtual 78, 3) := by decide +kernel
theorem dX7_layer_17 : decode cX7_layer 17 = .ok (.iconst 1, 1) := by decide +kernel
theorem dX7_layer_18 : decode cX7_layer 18 = .ok (.isub, 1) := by decide +kernel
theorem dX7_layer_19 : decode cX7_layer 19 = .ok (.invokevirtual 285, 3) := by decide +kernel
theorem dX7_layer_22 : decode cX7_layer 22 = .ok (.ifCond .eq 7, 3) := by decide +kernel
theorem dX7_layer_25 : decode cX7_layer 25 = .ok (.sipush (-1001), 3) := by decide +kernel
theorem dX7_layer_28 : decode cX7_layer 28 = .ok (.ireturn, 1) := by decide +kernel
theorem dX7_layer_29 : decode cX7_layer 29 = .ok (.aload_n 0, 1) := by decide +kernel
theorem dX7_layer_30 : decode cX7_layer 30 = .ok (.iload_n 1, 1) := by decide +kernel
theorem dX7_layer_31 : decode cX7_layer 31 = .ok (.invokevirtual 279, 3) := by decide +kernel
theorem dX7_layer_34 : decode cX7_layer 34 = .ok (.istore_n 3, 1) := by decide +kernel
theorem dX7_layer_35 : decode cX7_layer 35 = .ok (.iload_n 3, 1) := by decide +kernel
theorem dX7_layer_36 : decode cX7_layer 36 = .ok (.ifCond .eq 5, 3) := by decide +kernel
theorem dX7_layer_39 : decode cX7_layer 39 = .ok (.iload_n 3, 1) := by decide +kernel
theorem dX7_layer_40 : decode cX7_layer 40 = .ok (.ireturn, 1) := by decide +kernel
theorem dX7_layer_41 : decode cX7_layer 41 = .ok (.aload_n 0, 1) := by decide +kernel
theorem dX7_layer_42 : decode cX7_layer 42 = .ok (.iload_n 1, 1) := by decide +kernel
theorem dX7_layer_43 : decode cX7_layer 43 = .ok (.invokevirtual 282, 3) := by decide +kernel
theorem dX7_layer_46 : decode cX7_layer 46 = .ok (.ifCond .le 12, 3) := by decide +kernel
theorem dX7_layer_49 : decode cX7_layer 49 = .ok (.aload_n 0, 1) := by decide +kernel
theorem dX7_layer_50 : decode cX7_layer 50 = .ok (.getfield 37, 3) := by decide +kernel
theorem dX7_layer_53 : decode cX7_layer 53 = .ok (.iload_n 2, 1) := by decide +kernel
theorem dX7_layer_54 : decode cX7_layer 54 = .ok (.iaload, 1) := by decide +kernel
theorem dX7_layer_55 : decode cX7_layer 55 = .ok (.goto 6, 3) := by decide +kernel
theorem dX7_layer_58 : decode cX7_layer 58 = .ok (.sipush (-1004), 3) := by decide +kernel
theorem dX7_layer_61 : decode cX7_layer 61 = .ok (.ireturn, 1) := by decide +kernel
theorem dX7_lays_0 : decode cX7_lays 0 = .ok (.aload_n 0, 1) := by decide +kernel
theorem dX7_lays_1 : decode cX7_lays 1 = .ok (.aload_n 0, 1) := by decide +kernel
theorem dX7_lays_2 : decode cX7_lays 2 = .ok (.iload_n 1, 1) := by decide +kernel
theorem dX7_lays_3 : decode cX7_lays 3 = .ok (.invokevirtual 81, 3) := by decide +kernel
theorem dX7_lays_6 : decode cX7_lays 6 = .ok (.putfield 161, 3) := by decide +kernel
theorem dX7_lays_9 : decode cX7_lays 9 = .ok (.aload_n 0, 1) := by decide +kernel
theorem dX7_lays_10 : decode cX7_lays 10 = .ok (.aload_n 0, 1) := by decide +kernel
theorem dX7_lays_11 : decode cX7_lays 11 = .ok (.iload_n 1, 1) := by decide +kernel
theorem dX7_lays_12 : decode cX7_lays 12 = .ok (.iconst 1, 1) := by decide +kernel
theorem dX7_lays_13 : decode cX7_lays 13 = .ok (.invokevirtual 78, 3) := by decide +kernel
theorem dX7_lays_16 : decode cX7_lays 16 = .ok (.putfield 165, 3) := by decide +kernel
theorem dX7_lays_19 : decode cX7_lays 19 = .ok (.iconst 0, 1) := by decide +kernel
theorem dX7_lays_20 : decode cX7_lays 20 = .ok (.istore_n 2, 1) := by decide +kernel
theorem dX7_lays_21 : decode cX7_lays 21 = .ok (.iload_n 2, 1) := by decide +kernel
theorem dX7_lays_22 : decode cX7_lays 22 = .ok (.bipush 8, 2) := by decide +kernel
theorem dX7_lays_24 : decode cX7_lays 24 = .ok (.if_icmp .ge 33, 3) := by decide +kernel
theorem dX7_lays_27 : decode cX7_lays 27 = .ok (.aload_n 0, 1) := by decide +kernel
theorem dX7_lays_28 : decode cX7_lays 28 = .ok (.getfield 28, 3) := by decide +kernel
theorem dX7_lays_31 : decode cX7_lays 31 = .ok (.iload_n 2, 1) := by decide +kernel
theorem dX7_lays_32 : decode cX7_lays 32 = .ok (.aload_n 0, 1) := by decide +kernel
theorem dX7_lays_33 : decode cX7_lays 33 = .ok (.iload_n 1, 1) := by decide +kernel
theorem dX7_lays_34 : decode cX7_lays 34 = .ok (.iload_n 2, 1) := by decide +kernel
theorem dX7_lays_35 : decode cX7_lays 35 = .ok (.invokevirtual 142, 3) := by decide +kernel
theorem dX7_lays_38 : decode cX7_lays 38 = .ok (.iastore, 1) := by decide +kernel
theorem dX7_lays_39 : decode cX7_lays 39 = .ok (.aload_n 0, 1) := by decide +kernel
theorem dX7_lays_40 : decode cX7_lays 40 = .ok (.getfield 31, 3) := by decide +kernel
theorem dX7_lays_43 : decode cX7_lays 43 = .ok (.iload_n 2, 1) := by decide +kernel
theorem dX7_lays_44 : decode cX7_lays 44 = .ok (.aload_n 0, 1) := by decide +kernel
theorem dX7_lays_45 : decode cX7_lays 45 = .ok (.iload_n 1, 1) := by decide +kernel
theorem dX7_lays_46 : decode cX7_lays 46 = .ok (.iload_n 2, 1) := by decide +kernel
theorem dX7_lays_47 : decode cX7_lays 47 = .ok (.invokevirtual 92, 3) := by decide +kernel
theorem dX7_lays_50 : decode cX7_lays 50 = .ok (.iastore, 1) := by decide +kernel
theorem dX7_lays_51 : decode cX7_lays 51 = .ok (.iinc 2 1, 3) := by decide +kernel
theorem dX7_lays_54 : decode cX7_lays 54 = .ok (.goto (-33), 3) := by decide +kernel
theorem dX7_lays_57 : decode cX7_lays 57 = .ok (.return_, 1) := by decide +kernel
theorem dX7_laysBy_0 : decode cX7_laysBy 0 = .ok (.aload_n 0, 1) := by decide +kernel
theorem dX7_laysBy_1 : decode cX7_laysBy 1 = .ok (.iload_n 1, 1) := by decide +kernel
theorem dX7_laysBy_2 : decode cX7_laysBy 2 = .ok (.invokevirtual 196, 3) := by decide +kernel
theorem dX7_laysBy_5 : decode cX7_laysBy 5 = .ok (.iconst 0, 1) := by decide +kernel
theorem dX7_laysBy_6 : decode cX7_laysBy 6 = .ok (.istore_n 3, 1) := by decide +kernel
theorem dX7_laysBy_7 : decode cX7_laysBy 7 = .ok (.iload_n 3, 1) := by decide +kernel
theorem dX7_laysBy_8 : decode cX7_laysBy 8 = .ok (.aload_n 0, 1) := by decide +kernel
theorem dX7_laysBy_9 : decode cX7_laysBy 9 = .ok (.iload_n 1, 1) := by decide +kernel
theorem dX7_laysBy_10 : decode cX7_laysBy 10 = .ok (.invokevirtual 88, 3) := by decide +kernel
theorem dX7_laysBy_13 : decode cX7_laysBy 13 = .ok (.if_icmp .ge 29, 3) := by decide +kernel
theorem dX7_laysBy_16 : decode cX7_laysBy 16 = .ok (.aload_n 0, 1) := by decide +kernel
theorem dX7_laysBy_17 : decode cX7_laysBy 17 = .ok (.getfield 31, 3) := by decide +kernel
theorem dX7_laysBy_20 : decode cX7_laysBy 20 = .ok (.iload_n 3, 1) := by decide +kernel
theorem dX7_laysBy_21 : decode cX7_laysBy 21 = .ok (.iload_n 2, 1) := by decide +kernel
theorem dX7_laysBy_22 : decode cX7_laysBy 22 = .ok (.iload_n 3, 1) := by decide +kernel
theorem dX7_laysBy_23 : decode cX7_laysBy 23 = .ok (.ishr, 1) := by decide +kernel
theorem dX7_laysBy_24 : decode cX7_laysBy 24 = .ok (.iconst 1, 1) := by decide +kernel
theorem dX7_laysBy_25 : decode cX7_laysBy 25 = .ok (.iand, 1) := by decide +kernel
theorem dX7_laysBy_26 : decode cX7_laysBy 26 = .ok (.iconst 1, 1) := by decide +kernel
theorem dX7_laysBy_27 : decode cX7_laysBy 27 = .ok (.if_icmp .ne 7, 3) := by decide +kernel
theorem dX7_laysBy_30 : decode cX7_laysBy 30 = .ok (.iconst 2, 1) := by decide +kernel
theorem dX7_laysBy_31 : decode cX7_laysBy 31 = .ok (.goto 4, 3) := by decide +kernel
theorem dX7_laysBy_34 : decode cX7_laysBy 34 = .ok (.iconst 1, 1) := by decide +kernel
theorem dX7_laysBy_35 : decode cX7_laysBy 35 = .ok (.iastore, 1) := by decide +kernel
theorem dX7_laysBy_36 : decode cX7_laysBy 36 = .ok (.iinc 3 1, 3) := by decide +kernel
theorem dX7_laysBy_39 : decode cX7_laysBy 39 = .ok (.goto (-32), 3) := by decide +kernel
theorem dX7_laysBy_42 : decode cX7_laysBy 42 = .ok (.return_, 1) := by decide +kernel
theorem dX7_laysCreases_0 : decode cX7_laysCreases 0 = .ok (.iload_n 1, 1) := by decide +kernel
theorem dX7_laysCreases_1 : decode cX7_laysCreases 1 = .ok (.ifCond .lt 11, 3) := by decide +kernel
theorem dX7_laysCreases_4 : decode cX7_laysCreases 4 = .ok (.iload_n 1, 1) := by decide +kernel
theorem dX7_laysCreases_5 : decode cX7_laysCreases 5 = .ok (.invokestatic 95, 3) := by decide +kernel
theorem dX7_laysCreases_8 : decode cX7_laysCreases 8 = .ok (.iload_n 2, 1) := by decide +kernel
theorem dX7_laysCreases_9 : decode cX7_laysCreases 9 = .ok (.if_icmp .le 5, 3) := by decide +kernel
theorem dX7_laysCreases_12 : decode cX7_laysCreases 12 = .ok (.iconst 0, 1) := by decide +kernel
theorem dX7_laysCreases_13 : decode cX7_laysCreases 13 = .ok (.ireturn, 1) := by decide +kernel
theorem dX7_laysCreases_14 : decode cX7_laysCreases 14 = .ok (.iload_n 1, 1) := by decide +kernel
theorem dX7_laysCreases_15 : decode cX7_laysCreases 15 = .ok (.istore_n 3, 1) := by decide +kernel
theorem dX7_laysCreases_16 : decode cX7_laysCreases 16 = .ok (.iconst 1, 1) := by decide +kernel
theorem dX7_laysCreases_17 : decode cX7_laysCreases 17 = .ok (.istore 4, 2) := by decide +kernel
theorem dX7_laysCreases_19 : decode cX7_laysCreases 19 = .ok (.iload_n 2, 1) := by decide +kernel
theorem dX7_laysCreases_20 : decode cX7_laysCreases 20 = .ok (.iconst 1, 1) := by decide +kernel
theorem dX7_laysCreases_21 : decode cX7_laysCreases 21 = .ok (.isub, 1) := by decide +kernel
theorem dX7_laysCreases_22 : decode cX7_laysCreases 22 = .ok (.istore 5, 2) := by decide +kernel
theorem dX7_laysCreases_24 : decode cX7_laysCreases 24 = .ok (.iload 5, 2) := by decide +kernel
theorem dX7_laysCreases_26 : decode cX7_laysCreases 26 = .ok (.ifCond .lt 48, 3) := by decide +kernel
theorem dX7_laysCreases_29 : decode cX7_laysCreases 29 = .ok (.aload_n 0, 1) := by decide +kernel
theorem dX7_laysCreases_30 : decode cX7_laysCreases 30 = .ok (.getfield 25, 3) := by decide +kernel
theorem dX7_laysCreases_33 : decode cX7_laysCreases 33 = .ok (.iload 5, 2) := by decide +kernel
theorem dX7_laysCreases_35 : decode cX7_laysCreases 35 = .ok (.iload_n 3, 1) := by decide +kernel
theorem dX7_laysCreases_36 : decode cX7_laysCreases 36 = .ok (.bipush 10, 2) := by decide +kernel
theorem dX7_laysCreases_38 : decode cX7_laysCreases 38 = .ok (.irem, 1) := by decide +kernel
theorem dX7_laysCreases_39 : decode cX7_laysCreases 39 = .ok (.iastore, 1) := by decide +kernel
theorem dX7_laysCreases_40 : decode cX7_laysCreases 40 = .ok (.iload_n 3, 1) := by decide +kernel
theorem dX7_laysCreases_41 : decode cX7_laysCreases 41 = .ok (.bipush 10, 2) := by decide +kernel
theorem dX7_laysCreases_43 : decode cX7_laysCreases 43 = .ok (.idiv, 1) := by decide +kernel
theorem dX7_laysCreases_44 : decode cX7_laysCreases 44 = .ok (.istore_n 3, 1) := by decide +kernel
theorem dX7_laysCreases_45 : decode cX7_laysCreases 45 = .ok (.iload 4, 2) := by decide +kernel
theorem dX7_laysCreases_47 : decode cX7_laysCreases 47 = .ok (.ifCond .eq 18, 3) := by decide +kernel
theorem dX7_laysCreases_50 : decode cX7_laysCreases 50 = .ok (.aload_n 0, 1) := by decide +kernel
theorem dX7_laysCreases_51 : decode cX7_laysCreases 51 = .ok (.getfield 25, 3) := by decide +kernel
theorem dX7_laysCreases_54 : decode cX7_laysCreases 54 = .ok (.iload 5, 2) := by decide +kernel
theorem dX7_laysCreases_56 : decode cX7_laysCreases 56 = .ok (.iaload, 1) := by decide +kernel
theorem dX7_laysCreases_57 : decode cX7_laysCreases 57 = .ok (.iconst 2, 1) := by decide +kernel
theorem dX7_laysCreases_58 : decode cX7_laysCreases 58 = .ok (.if_icmp .gt 7, 3) := by decide +kernel
theorem dX7_laysCreases_61 : decode cX7_laysCreases 61 = .ok (.iconst 1, 1) := by decide +kernel
theorem dX7_laysCreases_62 : decode cX7_laysCreases 62 = .ok (.goto 4, 3) := by decide +kernel
theorem dX7_laysCreases_65 : decode cX7_laysCreases 65 = .ok (.iconst 0, 1) := by decide +kernel
theorem dX7_laysCreases_66 : decode cX7_laysCreases 66 = .ok (.istore 4, 2) := by decide +kernel
theorem dX7_laysCreases_68 : decode cX7_laysCreases 68 = .ok (.iinc 5 (-1), 3) := by decide +kernel
theorem dX7_laysCreases_71 : decode cX7_laysCreases 71 = .ok (.goto (-47), 3) := by decide +kernel
theorem dX7_laysCreases_74 : decode cX7_laysCreases 74 = .ok (.iload 4, 2) := by decide +kernel
theorem dX7_laysCreases_76 : decode cX7_laysCreases 76 = .ok (.ireturn, 1) := by decide +kernel
theorem dX7_laysSizes_0 : decode cX7_laysSizes 0 = .ok (.iload_n 1, 1) := by decide +kernel
theorem dX7_laysSizes_1 : decode cX7_laysSizes 1 = .ok (.ifCond .ge 7, 3) := by decide +kernel
theorem dX7_laysSizes_4 : decode cX7_laysSizes 4 = .ok (.iconst 0, 1) := by decide +kernel
theorem dX7_laysSizes_5 : decode cX7_laysSizes 5 = .ok (.goto 7, 3) := by decide +kernel
theorem dX7_laysSizes_8 : decode cX7_laysSizes 8 = .ok (.iload_n 1, 1) := by decide +kernel
theorem dX7_laysSizes_9 : decode cX7_laysSizes 9 = .ok (.invokestatic 95, 3) := by decide +kernel
theorem dX7_laysSizes_12 : decode cX7_laysSizes 12 = .ok (.istore_n 2, 1) := by decide +kernel
theorem dX7_laysSizes_13 : decode cX7_laysSizes 13 = .ok (.iload_n 2, 1) := by decide +kernel
theorem dX7_laysSizes_14 : decode cX7_laysSizes 14 = .ok (.iconst 1, 1) := by decide +kernel
theorem dX7_laysSizes_15 : decode cX7_laysSizes 15 = .ok (.bipush 8, 2) := by decide +kernel
theorem dX7_laysSizes_17 : decode cX7_laysSizes 17 = .ok (.invokestatic 61, 3) := by decide +kernel
theorem dX7_laysSizes_20 : decode cX7_laysSizes 20 = .ok (.ifCond .ne 5, 3) := by decide +kernel
theorem dX7_laysSizes_23 : decode cX7_laysSizes 23 = .ok (.iconst 0, 1) := by decide +kernel
theorem dX7_laysSizes_24 : decode cX7_laysSizes 24 = .ok (.ireturn, 1) := by decide +kernel
theorem dX7_laysSizes_25 : decode cX7_laysSizes 25 = .ok (.iload_n 1, 1) := by decide +kernel
theorem dX7_laysSizes_26 : decode cX7_laysSizes 26 = .ok (.istore_n 3, 1) := by decide +kernel
theorem dX7_laysSizes_27 : decode cX7_laysSizes 27 = .ok (.iconst 1, 1) := by decide +kernel
theorem dX7_laysSizes_28 : decode cX7_laysSizes 28 = .ok (.istore 4, 2) := by decide +kernel
theorem dX7_laysSizes_30 : decode cX7_laysSizes 30 = .ok (.iload_n 2, 1) := by decide +kernel
theorem dX7_laysSizes_31 : decode cX7_laysSizes 31 = .ok (.iconst 1, 1) := by decide +kernel
theorem dX7_laysSizes_32 : decode cX7_laysSizes 32 = .ok (.isub, 1) := by decide +kernel
theorem dX7_laysSizes_33 : decode cX7_laysSizes 33 = .ok (.istore 5, 2) := by decide +kernel
theorem dX7_laysSizes_35 : decode cX7_laysSizes 35 = .ok (.iload 5, 2) := by decide +kernel
theorem dX7_laysSizes_37 : decode cX7_laysSizes 37 = .ok (.ifCond .lt 47, 3) := by decide +kernel
theorem dX7_laysSizes_40 : decode cX7_laysSizes 40 = .ok (.aload_n 0, 1) := by decide +kernel
theorem dX7_laysSizes_41 : decode cX7_laysSizes 41 = .ok (.getfield 22, 3) := by decide +kernel
theorem dX7_laysSizes_44 : decode cX7_laysSizes 44 = .ok (.iload 5, 2) := by decide +kernel
theorem dX7_laysSizes_46 : decode cX7_laysSizes 46 = .ok (.iload_n 3, 1) := by decide +kernel
theorem dX7_laysSizes_47 : decode cX7_laysSizes 47 = .ok (.bipush 10, 2) := by decide +kernel
theorem dX7_laysSizes_49 : decode cX7_laysSizes 49 = .ok (.irem, 1) := by decide +kernel
theorem dX7_laysSizes_50 : decode cX7_laysSizes 50 = .ok (.iastore, 1) := by decide +kernel
theorem dX7_laysSizes_51 : decode cX7_laysSizes 51 = .ok (.iload_n 3, 1) := by decide +kernel
theorem dX7_laysSizes_52 : decode cX7_laysSizes 52 = .ok (.bipush 10, 2) := by decide +kernel
theorem dX7_laysSizes_54 : decode cX7_laysSizes 54 = .ok (.idiv, 1) := by decide +kernel
theorem dX7_laysSizes_55 : decode cX7_laysSizes 55 = .ok (.istore_n 3, 1) := by decide +kernel
theorem dX7_laysSizes_56 : decode cX7_laysSizes 56 = .ok (.iload 4, 2) := by decide +kernel
theorem dX7_laysSizes_58 : decode cX7_laysSizes 58 = .ok (.ifCond .eq 17, 3) := by decide +kernel
theorem dX7_laysSizes_61 : decode cX7_laysSizes 61 = .ok (.aload_n 0, 1) := by decide +kernel
theorem dX7_laysSizes_62 : decode cX7_laysSizes 62 = .ok (.getfield 22, 3) := by decide +kernel
theorem dX7_laysSizes_65 : decode cX7_laysSizes 65 = .ok (.iload 5, 2) := by decide +kernel
theorem dX7_laysSizes_67 : decode cX7_laysSizes 67 = .ok (.iaload, 1) := by decide +kernel
theorem dX7_laysSizes_68 : decode cX7_laysSizes 68 = .ok (.ifCond .le 7, 3) := by decide +kernel
theorem dX7_laysSizes_71 : decode cX7_laysSizes 71 = .ok (.iconst 1, 1) := by decide +kernel
theorem dX7_laysSizes_72 : decode cX7_laysSizes 72 = .ok (.goto 4, 3) := by decide +kernel
theorem dX7_laysSizes_75 : decode cX7_laysSizes 75 = .ok (.iconst 0, 1) := by decide +kernel
theorem dX7_laysSizes_76 : decode cX7_laysSizes 76 = .ok (.istore 4, 2) := by decide +kernel
theorem dX7_laysSizes_78 : decode cX7_laysSizes 78 = .ok (.iinc 5 (-1), 3) := by decide +kernel
theorem dX7_laysSizes_81 : decode cX7_laysSizes 81 = .ok (.goto (-46), 3) := by decide +kernel
theorem dX7_laysSizes_84 : decode cX7_laysSizes 84 = .ok (.iload 4, 2) := by decide +kernel
theorem dX7_laysSizes_86 : decode cX7_laysSizes 86 = .ok (.ifCond .eq 7, 3) := by decide +kernel
theorem dX7_laysSizes_89 : decode cX7_laysSizes 89 = .ok (.iload_n 2, 1) := by decide +kernel
theorem dX7_laysSizes_90 : decode cX7_laysSizes 90 = .ok (.goto 4, 3) := by decide +kernel
theorem dX7_laysSizes_93 : decode cX7_laysSizes 93 = .ok (.iconst 0, 1) := by decide +kernel
theorem dX7_laysSizes_94 : decode cX7_laysSizes 94 = .ok (.ireturn, 1) := by decide +kernel
theorem dX7_lesser_0 : decode cX7_lesser 0 = .ok (.iload_n 0, 1) := by decide +kernel
theorem dX7_lesser_1 : decode cX7_lesser 1 = .ok (.iload_n 1, 1) := by decide +kernel
theorem dX7_lesser_2 : decode cX7_lesser 2 = .ok (.if_icmp .ge 7, 3) := by decide +kernel
theorem dX7_lesser_5 : decode cX7_lesser 5 = .ok (.iload_n 0, 1) := by decide +kernel
theorem dX7_lesser_6 : decode cX7_lesser 6 = .ok (.goto 4, 3) := by decide +kernel
theorem dX7_lesser_9 : decode cX7_lesser 9 = .ok (.iload_n 1, 1) := by decide +kernel
theorem dX7_lesser_10 : decode cX7_lesser 10 = .ok (.ireturn, 1) := by decide +kernel
theorem dX7_lowestOpen_0 : decode cX7_lowestOpen 0 = .ok (.iconst 0, 1) := by decide +kernel
theorem dX7_lowestOpen_1 : decode cX7_lowestOpen 1 = .ok (.istore_n 2, 1) := by decide +kernel
theorem dX7_lowestOpen_2 : decode cX7_lowestOpen 2 = .ok (.aload_n 0, 1) := by decide +kernel
theorem dX7_lowestOpen_3 : decode cX7_lowestOpen 3 = .ok (.iload_n 1, 1) := by decide +kernel
theorem dX7_lowestOpen_4 : decode cX7_lowestOpen 4 = .ok (.iload_n 2, 1) := by decide +kernel
theorem dX7_lowestOpen_5 : decode cX7_lowestOpen 5 = .ok (.invokevirtual 92, 3) := by decide +kernel
theorem dX7_lowestOpen_8 : decode cX7_lowestOpen 8 = .ok (.ifCond .eq 9, 3) := by decide +kernel
theorem dX7_lowestOpen_11 : decode cX7_lowestOpen 11 = .ok (.iinc 2 1, 3) := by decide +kernel
theorem dX7_lowestOpen_14 : decode cX7_lowestOpen 14 = .ok (.goto (-12), 3) := by decide +kernel
theorem dX7_lowestOpen_17 : decode cX7_lowestOpen 17 = .ok (.iload_n 2, 1) := by decide +kernel
theorem dX7_lowestOpen_18 : decode cX7_lowestOpen 18 = .ok (.ireturn, 1) := by decide +kernel
theorem dX7_makes_0 : decode cX7_makes 0 = .ok (.iload_n 1, 1) := by decide +kernel
theorem dX7_makes_1 : decode cX7_makes 1 = .ok (.iconst 1, 1) := by decide +kernel
theorem dX7_makes_2 : decode cX7_makes 2 = .ok (.if_icmp .ne 26, 3) := by decide +kernel
theorem dX7_makes_5 : decode cX7_makes 5 = .ok (.aload_n 0, 1) := by decide +kernel
theorem dX7_makes_6 : decode cX7_makes 6 = .ok (.iconst 0, 1) := by decide +kernel
theorem dX7_makes_7 : decode cX7_makes 7 = .ok (.invokevirtual 172, 3) := by decide +kernel
theorem dX7_makes_10 : decode cX7_makes 10 = .ok (.aload_n 0, 1) := by decide +kernel
theorem dX7_makes_11 : decode cX7_makes 11 = .ok (.iconst 0, 1) := by decide +kernel
theorem dX7_makes_12 : decode cX7_makes 12 = .ok (.invokevirtual 175, 3) := by decide +kernel
theorem dX7_makes_15 : decode cX7_makes 15 = .ok (.aload_n 0, 1) := by decide +kernel
theorem dX7_makes_16 : decode cX7_makes 16 = .ok (.dup, 1) := by decide +kernel
theorem dX7_makes_17 : decode cX7_makes 17 = .ok (.getfield 165, 3) := by decide +kernel
theorem dX7_makes_20 : decode cX7_makes 20 = .ok (.iconst 1, 1) := by decide +kernel
theorem dX7_makes_21 : decode cX7_makes 21 = .ok (.isub, 1) := by decide +kernel
theorem dX7_makes_22 : decode cX7_makes 22 = .ok (.putfield 165, 3) := by decide +kernel
theorem dX7_makes_25 : decode cX7_makes 25 = .ok (.goto 47, 3) := by decide +kernel
theorem dX7_makes_28 : decode cX7_makes 28 = .ok (.iload_n 1, 1) := by decide +kernel
theorem dX7_makes_29 : decode cX7_makes 29 = .ok (.iconst 2, 1) := by decide +kernel
theorem dX7_makes_30 : decode cX7_makes 30 = .ok (.if_icmp .ne 16, 3) := by decide +kernel
theorem dX7_makes_33 : decode cX7_makes 33 = .ok (.aload_n 0, 1) := by decide +kernel
theorem dX7_makes_34 : decode cX7_makes 34 = .ok (.dup, 1) := by decide +kernel
theorem dX7_makes_35 : decode cX7_makes 35 = .ok (.getfield 165, 3) := by decide +kernel
theorem dX7_makes_38 : decode cX7_makes 38 = .ok (.iconst 1, 1) := by decide +kernel
theorem dX7_makes_39 : decode cX7_makes 39 = .ok (.isub, 1) := by decide +kernel
theorem dX7_makes_40 : decode cX7_makes 40 = .ok (.putfield 165, 3) := by decide +kernel
theorem dX7_makes_43 : decode cX7_makes 43 = .ok (.goto 29, 3) := by decide +kernel
theorem dX7_makes_46 : decode cX7_makes 46 = .ok (.aload_n 0, 1) := by decide +kernel
theorem dX7_makes_47 : decode cX7_makes 47 = .ok (.getfield 161, 3) := by decide +kernel
theorem dX7_makes_50 : decode cX7_makes 50 = .ok (.ifCond .eq 14, 3) := by decide +kernel
theorem dX7_makes_53 : decode cX7_makes 53 = .ok (.aload_n 0, 1) := by decide +kernel
theorem dX7_makes_54 : decode cX7_makes 54 = .ok (.iload_n 1, 1) := by decide +kernel
theorem dX7_makes_55 : decode cX7_makes 55 = .ok (.bipush 10, 2) := by decide +kernel
theorem dX7_makes_57 : decode cX7_makes 57 = .ok (.isub, 1) := by decide +kernel
theorem dX7_makes_58 : decode cX7_makes 58 = .ok (.invokevirtual 181, 3) := by decide +kernel
theorem dX7_makes_61 : decode cX7_makes 61 = .ok (.goto 11, 3) := by decide +kernel
theorem dX7_makes_64 : decode cX7_makes 64 = .ok (.aload_n 0, 1) := by decide +kernel
theorem dX7_makes_65 : decode cX7_makes 65 = .ok (.iload_n 1, 1) := by decide +kernel
theorem dX7_makes_66 : decode cX7_makes 66 = .ok (.bipush 10, 2) := by decide +kernel
theorem dX7_makes_68 : decode cX7_makes 68 = .ok (.isub, 1) := by decide +kernel
theorem dX7_makes_69 : decode cX7_makes 69 = .ok (.invokevirtual 184, 3) := by decide +kernel
theorem dX7_makes_72 : decode cX7_makes 72 = .ok (.return_, 1) := by decide +kernel
theorem dX7_mark_0 : decode cX7_mark 0 = .ok (.aload_n 0, 1) := by decide +kernel
theorem dX7_mark_1 : decode cX7_mark 1 = .ok (.invokevirtual 117, 3) := by decide +kernel
theorem dX7_mark_4 : decode cX7_mark 4 = .ok (.aload_n 0, 1) := by decide +kernel
theorem dX7_mark_5 : decode cX7_mark 5 = .ok (.aload_n 0, 1) := by decide +kernel
theorem dX7_mark_6 : decode cX7_mark 6 = .ok (.iload_n 1, 1) := by decide +kernel
theorem dX7_mark_7 : decode cX7_mark 7 = .ok (.iload_n 2, 1) := by decide +kernel
theorem dX7_mark_8 : decode cX7_mark 8 = .ok (.iload_n 3, 1) := by decide +kernel
theorem dX7_mark_9 : decode cX7_mark 9 = .ok (.invokevirtual 133, 3) := by decide +kernel
theorem dX7_mark_12 : decode cX7_mark 12 = .ok (.invokevirtual 124, 3) := by decide +kernel
theorem dX7_mark_15 : decode cX7_mark 15 = .ok (.ireturn, 1) := by decide +kernel
theorem dX7_marks_0 : decode cX7_marks 0 = .ok (.aload_n 0, 1) := by decide +kernel
theorem dX7_marks_1 : decode cX7_marks 1 = .ok (.iload_n 1, 1) := by decide +kernel
theorem dX7_marks_2 : decode cX7_marks 2 = .ok (.iload_n 2, 1) := by decide +kernel
theorem dX7_marks_3 : decode cX7_marks 3 = .ok (.invokevirtual 127, 3) := by decide +kernel
theorem dX7_marks_6 : decode cX7_marks 6 = .ok (.ifCond .ne 7, 3) := by decide +kernel
theorem dX7_marks_9 : decode cX7_marks 9 = .ok (.sipush (-1001), 3) := by decide +kernel
theorem dX7_marks_12 : decode cX7_marks 12 = .ok (.ireturn, 1) := by decide +kernel
theorem dX7_marks_13 : decode cX7_marks 13 = .ok (.iload_n 3, 1) := by decide +kernel
theorem dX7_marks_14 : decode cX7_marks 14 = .ok (.iconst 0, 1) := by decide +kernel
theorem dX7_marks_15 : decode cX7_marks 15 = .ok (.iconst 2, 1) := by decide +kernel
theorem dX7_marks_16 : decode cX7_marks 16 = .ok (.invokestatic 61, 3) := by decide +kernel
theorem dX7_marks_19 : decode cX7_marks 19 = .ok (.ifCond .ne 7, 3) := by decide +kernel
theorem dX7_marks_22 : decode cX7_marks 22 = .ok (.sipush (-1002), 3) := by decide +kernel
theorem dX7_marks_25 : decode cX7_marks 25 = .ok (.ireturn, 1) := by decide +kernel
theorem dX7_marks_26 : decode cX7_marks 26 = .ok (.aload_n 0, 1) := by decide +kernel
theorem dX7_marks_27 : decode cX7_marks 27 = .ok (.iload_n 1, 1) := by decide +kernel
theorem dX7_marks_28 : decode cX7_marks 28 = .ok (.invokevirtual 130, 3) := by decide +kernel
theorem dX7_marks_31 : decode cX7_marks 31 = .ok (.ifCond .eq 10, 3) := by decide +kernel
theorem dX7_marks_34 : decode cX7_marks 34 = .ok (.aload_n 0, 1) := by decide +kernel
theorem dX7_marks_35 : decode cX7_marks 35 = .ok (.iconst 2, 1) := by decide +kernel
theorem dX7_marks_36 : decode cX7_marks 36 = .ok (.iload_n 1, 1) := by decide +kernel
theorem dX7_marks_37 : decode cX7_marks 37 = .ok (.invokevirtual 101, 3) := by decide +kernel
theorem dX7_marks_40 : decode cX7_marks 40 = .ok (.ireturn, 1) := by decide +kernel
theorem dX7_marks_41 : decode cX7_marks 41 = .ok (.aload_n 0, 1) := by decide +kernel
theorem dX7_marks_42 : decode cX7_marks 42 = .ok (.iload_n 1, 1) := by decide +kernel
theorem dX7_marks_43 : decode cX7_marks 43 = .ok (.iload_n 2, 1) := by decide +kernel
theorem dX7_marks_44 : decode cX7_marks 44 = .ok (.invokevirtual 92, 3) := by decide +kernel
theorem dX7_marks_47 : decode cX7_marks 47 = .ok (.istore 4, 2) := by decide +kernel
theorem dX7_marks_49 : decode cX7_marks 49 = .ok (.aload_n 0, 1) := by decide +kernel
theorem dX7_marks_50 : decode cX7_marks 50 = .ok (.getfield 9, 3) := by decide +kernel
theorem dX7_marks_53 : decode cX7_marks 53 = .ok (.iload_n 1, 1) := by decide +kernel
theorem dX7_marks_54 : decode cX7_marks 54 = .ok (.bipush 11, 2) := by decide +kernel
theorem dX7_marks_56 : decode cX7_marks 56 = .ok (.iload_n 2, 1) := by decide +kernel
theorem dX7_marks_57 : decode cX7_marks 57 = .ok (.iadd, 1) := by decide +kernel
theorem dX7_marks_58 : decode cX7_marks 58 = .ok (.invokestatic 74, 3) := by decide +kernel
theorem dX7_marks_61 : decode cX7_marks 61 = .ok (.iload_n 3, 1) := by decide +kernel
theorem dX7_marks_62 : decode cX7_marks 62 = .ok (.iastore, 1) := by decide +kernel
theorem dX7_marks_63 : decode cX7_marks 63 = .ok (.iload 4, 2) := by decide +kernel
theorem dX7_marks_65 : decode cX7_marks 65 = .ok (.ireturn, 1) := by decide +kernel
theorem dX7_of_0 : decode cX7_of 0 = .ok (.aload_n 0, 1) := by decide +kernel
theorem dX7_of_1 : decode cX7_of 1 = .ok (.getfield 9, 3) := by decide +kernel
theorem dX7_of_4 : decode cX7_of 4 = .ok (.iload_n 1, 1) := by decide +kernel
theorem dX7_of_5 : decode cX7_of 5 = .ok (.iload_n 2, 1) := by decide +kernel
theorem dX7_of_6 : decode cX7_of 6 = .ok (.invokestatic 74, 3) := by decide +kernel
theorem dX7_of_9 : decode cX7_of 9 = .ok (.iaload, 1) := by decide +kernel
theorem dX7_of_10 : decode cX7_of 10 = .ok (.ireturn, 1) := by decide +kernel
theorem dX7_orders_0 : decode cX7_orders 0 = .ok (.aload_n 0, 1) := by decide +kernel
theorem dX7_orders_1 : decode cX7_orders 1 = .ok (.iload_n 1, 1) := by decide +kernel
theorem dX7_orders_2 : decode cX7_orders 2 = .ok (.invokevirtual 279, 3) := by decide +kernel
theorem dX7_orders_5 : decode cX7_orders 5 = .ok (.istore_n 2, 1) := by decide +kernel
theorem dX7_orders_6 : decode cX7_orders 6 = .ok (.iload_n 2, 1) := by decide +kernel
theorem dX7_orders_7 : decode cX7_orders 7 = .ok (.ifCond .eq 7, 3) := by decide +kernel
theorem dX7_orders_10 : decode cX7_orders 10 = .ok (.iload_n 2, 1) := by decide +kernel
theorem dX7_orders_11 : decode cX7_orders 11 = .ok (.goto 8, 3) := by decide +kernel
theorem dX7_orders_14 : decode cX7_orders 14 = .ok (.aload_n 0, 1) := by decide +kernel
theorem dX7_orders_15 : decode cX7_orders 15 = .ok (.iload_n 1, 1) := by decide +kernel
theorem dX7_orders_16 : decode cX7_orders 16 = .ok (.invokevirtual 282, 3) := by decide +kernel
theorem dX7_orders_19 : decode cX7_orders 19 = .ok (.ireturn, 1) := by decide +kernel
theorem dX7_ordersOf_0 : decode cX7_ordersOf 0 = .ok (.aload_n 0, 1) := by decide +kernel
theorem dX7_ordersOf_1 : decode cX7_ordersOf 1 = .ok (.iload_n 1, 1) := by decide +kernel
theorem dX7_ordersOf_2 : decode cX7_ordersOf 2 = .ok (.putfield 252, 3) := by decide +kernel
theorem dX7_ordersOf_5 : decode cX7_ordersOf 5 = .ok (.aload_n 0, 1) := by decide +kernel
theorem dX7_ordersOf_6 : decode cX7_ordersOf 6 = .ok (.aload_n 0, 1) := by decide +kernel
theorem dX7_ordersOf_7 : decode cX7_ordersOf 7 = .ok (.iload_n 1, 1) := by decide +kernel
theorem dX7_ordersOf_8 : decode cX7_ordersOf 8 = .ok (.iconst 1, 1) := by decide +kernel
theorem dX7_ordersOf_9 : decode cX7_ordersOf 9 = .ok (.invokevirtual 78, 3) := by decide +kernel
theorem dX7_ordersOf_12 : decode cX7_ordersOf 12 = .ok (.putfield 255, 3) := by decide +kernel
theorem dX7_ordersOf_15 : decode cX7_ordersOf 15 = .ok (.iconst 0, 1) := by decide +kernel
theorem dX7_ordersOf_16 : decode cX7_ordersOf 16 = .ok (.istore_n 2, 1) := by decide +kernel
theorem dX7_ordersOf_17 : decode cX7_ordersOf 17 = .ok (.iload_n 2, 1) := by decide +kernel
theorem dX7_ordersOf_18 : decode cX7_ordersOf 18 = .ok (.aload_n 0, 1) := by decide +kernel
theorem dX7_ordersOf_19 : decode cX7_ordersOf 19 = .ok (.getfield 255, 3) := by decide +kernel
theorem dX7_ordersOf_22 : decode cX7_ordersOf 22 = .ok (.if_icmp .gt 21, 3) := by decide +kernel
theorem dX7_ordersOf_25 : decode cX7_ordersOf 25 = .ok (.aload_n 0, 1) := by decide +kernel
theorem dX7_ordersOf_26 : decode cX7_ordersOf 26 = .ok (.getfield 40, 3) := by decide +kernel
theorem dX7_ordersOf_29 : decode cX7_ordersOf 29 = .ok (.iload_n 2, 1) := by decide +kernel
theorem dX7_ordersOf_30 : decode cX7_ordersOf 30 = .ok (.aload_n 0, 1) := by decide +kernel
theorem dX7_ordersOf_31 : decode cX7_ordersOf 31 = .ok (.iload_n 1, 1) := by decide +kernel
theorem dX7_ordersOf_32 : decode cX7_ordersOf 32 = .ok (.iload_n 2, 1) := by decide +kernel
theorem dX7_ordersOf_33 : decode cX7_ordersOf 33 = .ok (.invokevirtual 225, 3) := by decide +kernel
theorem dX7_ordersOf_36 : decode cX7_ordersOf 36 = .ok (.iastore, 1) := by decide +kernel
theorem dX7_ordersOf_37 : decode cX7_ordersOf 37 = .ok (.iinc 2 1, 3) := by decide +kernel
theorem dX7_ordersOf_40 : decode cX7_ordersOf 40 = .ok (.goto (-23), 3) := by decide +kernel
theorem dX7_ordersOf_43 : decode cX7_ordersOf 43 = .ok (.aload_n 0, 1) := by decide +kernel
theorem dX7_ordersOf_44 : decode cX7_ordersOf 44 = .ok (.iconst 0, 1) := by decide +kernel
theorem dX7_ordersOf_45 : decode cX7_ordersOf 45 = .ok (.putfield 270, 3) := by decide +kernel
theorem dX7_ordersOf_48 : decode cX7_ordersOf 48 = .ok (.aload_n 0, 1) := by decide +kernel
theorem dX7_ordersOf_49 : decode cX7_ordersOf 49 = .ok (.iconst 0, 1) := by decide +kernel
theorem dX7_ordersOf_50 : decode cX7_ordersOf 50 = .ok (.invokevirtual 276, 3) := by decide +kernel
theorem dX7_ordersOf_53 : decode cX7_ordersOf 53 = .ok (.aload_n 0, 1) := by decide +kernel
theorem dX7_ordersOf_54 : decode cX7_ordersOf 54 = .ok (.getfield 270, 3) := by decide +kernel
theorem dX7_ordersOf_57 : decode cX7_ordersOf 57 = .ok (.ireturn, 1) := by decide +kernel
theorem dX7_otherwise_0 : decode cX7_otherwise 0 = .ok (.iconst 0, 1) := by decide +kernel
theorem dX7_otherwise_1 : decode cX7_otherwise 1 = .ok (.istore_n 3, 1) := by decide +kernel
theorem dX7_otherwise_2 : decode cX7_otherwise 2 = .ok (.iconst 0, 1) := by decide +kernel
theorem dX7_otherwise_3 : decode cX7_otherwise 3 = .ok (.istore 4, 2) := by decide +kernel
theorem dX7_otherwise_5 : decode cX7_otherwise 5 = .ok (.iload 4, 2) := by decide +kernel
theorem dX7_otherwise_7 : decode cX7_otherwise 7 = .ok (.aload_n 0, 1) := by decide +kernel
theorem dX7_otherwise_8 : decode cX7_otherwise 8 = .ok (.iload_n 1, 1) := by decide +kernel
theorem dX7_otherwise_9 : decode cX7_otherwise 9 = .ok (.invokevirtual 88, 3) := by decide +kernel
theorem dX7_otherwise_12 : decode cX7_otherwise 12 = .ok (.if_icmp .ge 56, 3) := by decide +kernel
theorem dX7_otherwise_15 : decode cX7_otherwise 15 = .ok (.iload_n 2, 1) := by decide +kernel
theorem dX7_otherwise_16 : decode cX7_otherwise 16 = .ok (.iload 4, 2) := by decide +kernel
theorem dX7_otherwise_18 : decode cX7_otherwise 18 = .ok (.ishr, 1) := by decide +kernel
theorem dX7_otherwise_19 : decode cX7_otherwise 19 = .ok (.iconst 1, 1) := by decide +kernel
theorem dX7_otherwise_20 : decode cX7_otherwise 20 = .ok (.iand, 1) := by decide +kernel
theorem dX7_otherwise_21 : decode cX7_otherwise 21 = .ok (.iconst 1, 1) := by decide +kernel
theorem dX7_otherwise_22 : decode cX7_otherwise 22 = .ok (.if_icmp .ne 7, 3) := by decide +kernel
theorem dX7_otherwise_25 : decode cX7_otherwise 25 = .ok (.iconst 2, 1) := by decide +kernel
theorem dX7_otherwise_26 : decode cX7_otherwise 26 = .ok (.goto 4, 3) := by decide +kernel
theorem dX7_otherwise_29 : decode cX7_otherwise 29 = .ok (.iconst 1, 1) := by decide +kernel
theorem dX7_otherwise_30 : decode cX7_otherwise 30 = .ok (.istore 5, 2) := by decide +kernel
theorem dX7_otherwise_32 : decode cX7_otherwise 32 = .ok (.iload_n 3, 1) := by decide +kernel
theorem dX7_otherwise_33 : decode cX7_otherwise 33 = .ok (.aload_n 0, 1) := by decide +kernel
theorem dX7_otherwise_34 : decode cX7_otherwise 34 = .ok (.iload_n 1, 1) := by decide +kernel
theorem dX7_otherwise_35 : decode cX7_otherwise 35 = .ok (.iload 4, 2) := by decide +kernel
theorem dX7_otherwise_37 : decode cX7_otherwise 37 = .ok (.invokevirtual 92, 3) := by decide +kernel
theorem dX7_otherwise_40 : decode cX7_otherwise 40 = .ok (.ifCond .eq 19, 3) := by decide +kernel
theorem dX7_otherwise_43 : decode cX7_otherwise 43 = .ok (.aload_n 0, 1) := by decide +kernel
theorem dX7_otherwise_44 : decode cX7_otherwise 44 = .ok (.iload_n 1, 1) := by decide +kernel
theorem dX7_otherwise_45 : decode cX7_otherwise 45 = .ok (.iload 4, 2) := by decide +kernel
theorem dX7_otherwise_47 : decode cX7_otherwise 47 = .ok (.invokevirtual 92, 3) := by decide +kernel
theorem dX7_otherwise_50 : decode cX7_otherwise 50 = .ok (.iload 5, 2) := by decide +kernel
theorem dX7_otherwise_52 : decode cX7_otherwise 52 = .ok (.if_icmp .eq 7, 3) := by decide +kernel
theorem dX7_otherwise_55 : decode cX7_otherwise 55 = .ok (.iconst 1, 1) := by decide +kernel
theorem dX7_otherwise_56 : decode cX7_otherwise 56 = .ok (.goto 4, 3) := by decide +kernel
theorem dX7_otherwise_59 : decode cX7_otherwise 59 = .ok (.iconst 0, 1) := by decide +kernel
theorem dX7_otherwise_60 : decode cX7_otherwise 60 = .ok (.iadd, 1) := by decide +kernel
theorem dX7_otherwise_61 : decode cX7_otherwise 61 = .ok (.istore_n 3, 1) := by decide +kernel
theorem dX7_otherwise_62 : decode cX7_otherwise 62 = .ok (.iinc 4 1, 3) := by decide +kernel
theorem dX7_otherwise_65 : decode cX7_otherwise 65 = .ok (.goto (-60), 3) := by decide +kernel
theorem dX7_otherwise_68 : decode cX7_otherwise 68 = .ok (.iload_n 3, 1) := by decide +kernel
theorem dX7_otherwise_69 : decode cX7_otherwise 69 = .ok (.ireturn, 1) := by decide +kernel
theorem dX7_overAt_0 : decode cX7_overAt 0 = .ok (.iconst 0, 1) := by decide +kernel
theorem dX7_overAt_1 : decode cX7_overAt 1 = .ok (.istore_n 3, 1) := by decide +kernel
theorem dX7_overAt_2 : decode cX7_overAt 2 = .ok (.iconst 0, 1) := by decide +kernel
theorem dX7_overAt_3 : decode cX7_overAt 3 = .ok (.istore 4, 2) := by decide +kernel
theorem dX7_overAt_5 : decode cX7_overAt 5 = .ok (.iload 4, 2) := by decide +kernel
theorem dX7_overAt_7 : decode cX7_overAt 7 = .ok (.aload_n 0, 1) := by decide +kernel
theorem dX7_overAt_8 : decode cX7_overAt 8 = .ok (.iload_n 1, 1) := by decide +kernel
theorem dX7_overAt_9 : decode cX7_overAt 9 = .ok (.iconst 1, 1) := by decide +kernel
theorem dX7_overAt_10 : decode cX7_overAt 10 = .ok (.invokevirtual 78, 3) := by decide +kernel
theorem dX7_overAt_13 : decode cX7_overAt 13 = .ok (.if_icmp .ge 61, 3) := by decide +kernel
theorem dX7_overAt_16 : decode cX7_overAt 16 = .ok (.aload_n 0, 1) := by decide +kernel
theorem dX7_overAt_17 : decode cX7_overAt 17 = .ok (.iload_n 1, 1) := by decide +kernel
theorem dX7_overAt_18 : decode cX7_overAt 18 = .ok (.iload 4, 2) := by decide +kernel
theorem dX7_overAt_20 : decode cX7_overAt 20 = .ok (.invokevirtual 225, 3) := by decide +kernel
theorem dX7_overAt_23 : decode cX7_overAt 23 = .ok (.istore 5, 2) := by decide +kernel
theorem dX7_overAt_25 : decode cX7_overAt 25 = .ok (.aload_n 0, 1) := by decide +kernel
theorem dX7_overAt_26 : decode cX7_overAt 26 = .ok (.iload_n 1, 1) := by decide +kernel
theorem dX7_overAt_27 : decode cX7_overAt 27 = .ok (.iload 4, 2) := by decide +kernel
theorem dX7_overAt_29 : decode cX7_overAt 29 = .ok (.iconst 1, 1) := by decide +kernel
theorem dX7_overAt_30 : decode cX7_overAt 30 = .ok (.iadd, 1) := by decide +kernel
theorem dX7_overAt_31 : decode cX7_overAt 31 = .ok (.invokevirtual 225, 3) := by decide +kernel
theorem dX7_overAt_34 : decode cX7_overAt 34 = .ok (.istore 6, 2) := by decide +kernel
theorem dX7_overAt_36 : decode cX7_overAt 36 = .ok (.iload_n 3, 1) := by decide +kernel
theorem dX7_overAt_37 : decode cX7_overAt 37 = .ok (.iload 5, 2) := by decide +kernel
theorem dX7_overAt_39 : decode cX7_overAt 39 = .ok (.iload 6, 2) := by decide +kernel
theorem dX7_overAt_41 : decode cX7_overAt 41 = .ok (.invokestatic 155, 3) := by decide +kernel
theorem dX7_overAt_44 : decode cX7_overAt 44 = .ok (.iload_n 2, 1) := by decide +kernel
theorem dX7_overAt_45 : decode cX7_overAt 45 = .ok (.if_icmp .gt 20, 3) := by decide +kernel
theorem dX7_overAt_48 : decode cX7_overAt 48 = .ok (.iload_n 2, 1) := by decide +kernel
theorem dX7_overAt_49 : decode cX7_overAt 49 = .ok (.iconst 1, 1) := by decide +kernel
theorem dX7_overAt_50 : decode cX7_overAt 50 = .ok (.iadd, 1) := by decide +kernel
theorem dX7_overAt_51 : decode cX7_overAt 51 = .ok (.iload 5, 2) := by decide +kernel
theorem dX7_overAt_53 : decode cX7_overAt 53 = .ok (.iload 6, 2) := by decide +kernel
theorem dX7_overAt_55 : decode cX7_overAt 55 = .ok (.invokestatic 178, 3) := by decide +kernel
theorem dX7_overAt_58 : decode cX7_overAt 58 = .ok (.if_icmp .gt 7, 3) := by decide +kernel
theorem dX7_overAt_61 : decode cX7_overAt 61 = .ok (.iconst 1, 1) := by decide +kernel
theorem dX7_overAt_62 : decode cX7_overAt 62 = .ok (.goto 4, 3) := by decide +kernel
theorem dX7_overAt_65 : decode cX7_overAt 65 = .ok (.iconst 0, 1) := by decide +kernel
theorem dX7_overAt_66 : decode cX7_overAt 66 = .ok (.iadd, 1) := by decide +kernel
theorem dX7_overAt_67 : decode cX7_overAt 67 = .ok (.istore_n 3, 1) := by decide +kernel
theorem dX7_overAt_68 : decode cX7_overAt 68 = .ok (.iinc 4 1, 3) := by decide +kernel
theorem dX7_overAt_71 : decode cX7_overAt 71 = .ok (.goto (-66), 3) := by decide +kernel
theorem dX7_overAt_74 : decode cX7_overAt 74 = .ok (.iload_n 3, 1) := by decide +kernel
theorem dX7_overAt_75 : decode cX7_overAt 75 = .ok (.ireturn, 1) := by decide +kernel
theorem dX7_panelsOfAll_0 : decode cX7_panelsOfAll 0 = .ok (.iconst 0, 1) := by decide +kernel
theorem dX7_panelsOfAll_1 : decode cX7_panelsOfAll 1 = .ok (.istore_n 1, 1) := by decide +kernel
theorem dX7_panelsOfAll_2 : decode cX7_panelsOfAll 2 = .ok (.iconst 0, 1) := by decide +kernel
theorem dX7_panelsOfAll_3 : decode cX7_panelsOfAll 3 = .ok (.istore_n 2, 1) := by decide +kernel
theorem dX7_panelsOfAll_4 : decode cX7_panelsOfAll 4 = .ok (.iload_n 2, 1) := by decide +kernel
theorem dX7_panelsOfAll_5 : decode cX7_panelsOfAll 5 = .ok (.aload_n 0, 1) := by decide +kernel
theorem dX7_panelsOfAll_6 : decode cX7_panelsOfAll 6 = .ok (.getfield 9, 3) := by decide +kernel
theorem dX7_panelsOfAll_9 : decode cX7_panelsOfAll 9 = .ok (.iconst 0, 1) := by decide +kernel
theorem dX7_panelsOfAll_10 : decode cX7_panelsOfAll 10 = .ok (.iaload, 1) := by decide +kernel
theorem dX7_panelsOfAll_11 : decode cX7_panelsOfAll 11 = .ok (.if_icmp .ge 30, 3) := by decide +kernel
theorem dX7_panelsOfAll_14 : decode cX7_panelsOfAll 14 = .ok (.iload_n 1, 1) := by decide +kernel
theorem dX7_panelsOfAll_15 : decode cX7_panelsOfAll 15 = .ok (.aload_n 0, 1) := by decide +kernel
theorem dX7_panelsOfAll_16 : decode cX7_panelsOfAll 16 = .ok (.iload_n 2, 1) := by decide +kernel
theorem dX7_panelsOfAll_17 : decode cX7_panelsOfAll 17 = .ok (.invokevirtual 81, 3) := by decide +kernel
theorem dX7_panelsOfAll_20 : decode cX7_panelsOfAll 20 = .ok (.ifCond .eq 7, 3) := by decide +kernel
theorem dX7_panelsOfAll_23 : decode cX7_panelsOfAll 23 = .ok (.iconst 0, 1) := by decide +kernel
theorem dX7_panelsOfAll_24 : decode cX7_panelsOfAll 24 = .ok (.goto 9, 3) := by decide +kernel
theorem dX7_panelsOfAll_27 : decode cX7_panelsOfAll 27 = .ok (.aload_n 0, 1) := by decide +kernel
theorem dX7_panelsOfAll_28 : decode cX7_panelsOfAll 28 = .ok (.iload_n 2, 1) := by decide +kernel
theorem dX7_panelsOfAll_29 : decode cX7_panelsOfAll 29 = .ok (.iconst 1, 1) := by decide +kernel
theorem dX7_panelsOfAll_30 : decode cX7_panelsOfAll 30 = .ok (.invokevirtual 78, 3) := by decide +kernel
theorem dX7_panelsOfAll_33 : decode cX7_panelsOfAll 33 = .ok (.iadd, 1) := by decide +kernel
theorem dX7_panelsOfAll_34 : decode cX7_panelsOfAll 34 = .ok (.istore_n 1, 1) := by decide +kernel
theorem dX7_panelsOfAll_35 : decode cX7_panelsOfAll 35 = .ok (.iinc 2 1, 3) := by decide +kernel
theorem dX7_panelsOfAll_38 : decode cX7_panelsOfAll 38 = .ok (.goto (-34), 3) := by decide +kernel
theorem dX7_panelsOfAll_41 : decode cX7_panelsOfAll 41 = .ok (.iload_n 1, 1) := by decide +kernel
theorem dX7_panelsOfAll_42 : decode cX7_panelsOfAll 42 = .ok (.ireturn, 1) := by decide +kernel
theorem dX7_piece_0 : decode cX7_piece 0 = .ok (.aload_n 0, 1) := by decide +kernel
theorem dX7_piece_1 : decode cX7_piece 1 = .ok (.iload_n 1, 1) := by decide +kernel
theorem dX7_piece_2 : decode cX7_piece 2 = .ok (.invokevirtual 85, 3) := by decide +kernel
theorem dX7_piece_5 : decode cX7_piece 5 = .ok (.ifCond .ne 7, 3) := by decide +kernel
theorem dX7_piece_8 : decode cX7_piece 8 = .ok (.sipush (-1001), 3) := by decide +kernel
theorem dX7_piece_11 : decode cX7_piece 11 = .ok (.ireturn, 1) := by decide +kernel
theorem dX7_piece_12 : decode cX7_piece 12 = .ok (.iload_n 2, 1) := by decide +kernel
theorem dX7_piece_13 : decode cX7_piece 13 = .ok (.tableswitch 111 0 8 #[51, 58, 65, 71, 78, 85, 92, 98, 105], 51) := by decide +kernel
theorem dX7_piece_64 : decode cX7_piece 64 = .ok (.aload_n 0, 1) := by decide +kernel
theorem dX7_piece_65 : decode cX7_piece 65 = .ok (.iload_n 1, 1) := by decide +kernel
theorem dX7_piece_66 : decode cX7_piece 66 = .ok (.iconst 0, 1) := by decide +kernel
theorem dX7_piece_67 : decode cX7_piece 67 = .ok (.invokevirtual 78, 3) := by decide +kernel
theorem dX7_piece_70 : decode cX7_piece 70 = .ok (.ireturn, 1) := by decide +kernel
theorem dX7_piece_71 : decode cX7_piece 71 = .ok (.aload_n 0, 1) := by decide +kernel
theorem dX7_piece_72 : decode cX7_piece 72 = .ok (.iload_n 1, 1) := by decide +kernel
theorem dX7_piece_73 : decode cX7_piece 73 = .ok (.iconst 1, 1) := by decide +kernel
theorem dX7_piece_74 : decode cX7_piece 74 = .ok (.invokevirtual 78, 3) := by decide +kernel
theorem dX7_piece_77 : decode cX7_piece 77 = .ok (.ireturn, 1) := by decide +kernel
theorem dX7_piece_78 : decode cX7_piece 78 = .ok (.aload_n 0, 1) := by decide +kernel
theorem dX7_piece_79 : decode cX7_piece 79 = .ok (.iload_n 1, 1) := by decide +kernel
theorem dX7_piece_80 : decode cX7_piece 80 = .ok (.invokevirtual 88, 3) := by decide +kernel
theorem dX7_piece_83 : decode cX7_piece 83 = .ok (.ireturn, 1) := by decide +kernel
theorem dX7_piece_84 : decode cX7_piece 84 = .ok (.aload_n 0, 1) := by decide +kernel
theorem dX7_piece_85 : decode cX7_piece 85 = .ok (.iload_n 1, 1) := by decide +kernel
theorem dX7_piece_86 : decode cX7_piece 86 = .ok (.iconst 1, 1) := by decide +kernel
theorem dX7_piece_87 : decode cX7_piece 87 = .ok (.invokevirtual 136, 3) := by decide +kernel
theorem dX7_piece_90 : decode cX7_piece 90 = .ok (.ireturn, 1) := by decide +kernel
theorem dX7_piece_91 : decode cX7_piece 91 = .ok (.aload_n 0, 1) := by decide +kernel
theorem dX7_piece_92 : decode cX7_piece 92 = .ok (.iload_n 1, 1) := by decide +kernel
theorem dX7_piece_93 : decode cX7_piece 93 = .ok (.iconst 2, 1) := by decide +kernel
theorem dX7_piece_94 : decode cX7_piece 94 = .ok (.invokevirtual 136, 3) := by decide +kernel
theorem dX7_piece_97 : decode cX7_piece 97 = .ok (.ireturn, 1) := by decide +kernel
theorem dX7_piece_98 : decode cX7_piece 98 = .ok (.aload_n 0, 1) := by decide +kernel
theorem dX7_piece_99 : decode cX7_piece 99 = .ok (.iload_n 1, 1) := by decide +kernel
theorem dX7_piece_100 : decode cX7_piece 100 = .ok (.iconst 0, 1) := by decide +kernel
theorem dX7_piece_101 : decode cX7_piece 101 = .ok (.invokevirtual 136, 3) := by decide +kernel
theorem dX7_piece_104 : decode cX7_piece 104 = .ok (.ireturn, 1) := by decide +kernel
theorem dX7_piece_105 : decode cX7_piece 105 = .ok (.aload_n 0, 1) := by decide +kernel
theorem dX7_piece_106 : decode cX7_piece 106 = .ok (.iload_n 1, 1) := by decide +kernel
theorem dX7_piece_107 : decode cX7_piece 107 = .ok (.invokevirtual 249, 3) := by decide +kernel
theorem dX7_piece_110 : decode cX7_piece 110 = .ok (.ireturn, 1) := by decide +kernel
theorem dX7_piece_111 : decode cX7_piece 111 = .ok (.aload_n 0, 1) := by decide +kernel
theorem dX7_piece_112 : decode cX7_piece 112 = .ok (.iload_n 1, 1) := by decide +kernel
theorem dX7_piece_113 : decode cX7_piece 113 = .ok (.iconst 2, 1) := by decide +kernel
theorem dX7_piece_114 : decode cX7_piece 114 = .ok (.invokevirtual 78, 3) := by decide +kernel
theorem dX7_piece_117 : decode cX7_piece 117 = .ok (.ireturn, 1) := by decide +kernel
theorem dX7_piece_118 : decode cX7_piece 118 = .ok (.aload_n 0, 1) := by decide +kernel
theorem dX7_piece_119 : decode cX7_piece 119 = .ok (.iload_n 1, 1) := by decide +kernel
theorem dX7_piece_120 : decode cX7_piece 120 = .ok (.invokevirtual 228, 3) := by decide +kernel
theorem dX7_piece_123 : decode cX7_piece 123 = .ok (.ireturn, 1) := by decide +kernel
theorem dX7_piece_124 : decode cX7_piece 124 = .ok (.sipush (-1002), 3) := by decide +kernel
theorem dX7_piece_127 : decode cX7_piece 127 = .ok (.ireturn, 1) := by decide +kernel
theorem dX7_place_0 : decode cX7_place 0 = .ok (.aload_n 0, 1) := by decide +kernel
theorem dX7_place_1 : decode cX7_place 1 = .ok (.iload_n 1, 1) := by decide +kernel
theorem dX7_place_2 : decode cX7_place 2 = .ok (.invokevirtual 85, 3) := by decide +kernel
theorem dX7_place_5 : decode cX7_place 5 = .ok (.ifCond .eq 18, 3) := by decide +kernel
theorem dX7_place_8 : decode cX7_place 8 = .ok (.aload_n 0, 1) := by decide +kernel
theorem dX7_place_9 : decode cX7_place 9 = .ok (.iload_n 1, 1) := by decide +kernel
theorem dX7_place_10 : decode cX7_place 10 = .ok (.iload_n 2, 1) := by decide +kernel
theorem dX7_place_11 : decode cX7_place 11 = .ok (.aload_n 0, 1) := by decide +kernel
theorem dX7_place_12 : decode cX7_place 12 = .ok (.iload_n 1, 1) := by decide +kernel
theorem dX7_place_13 : decode cX7_place 13 = .ok (.iconst 1, 1) := by decide +kernel
theorem dX7_place_14 : decode cX7_place 14 = .ok (.invokevirtual 78, 3) := by decide +kernel
theorem dX7_place_17 : decode cX7_place 17 = .ok (.invokevirtual 285, 3) := by decide +kernel
theorem dX7_place_20 : decode cX7_place 20 = .ok (.ifCond .eq 7, 3) := by decide +kernel
theorem dX7_place_23 : decode cX7_place 23 = .ok (.sipush (-1001), 3) := by decide +kernel
theorem dX7_place_26 : decode cX7_place 26 = .ok (.ireturn, 1) := by decide +kernel
theorem dX7_place_27 : decode cX7_place 27 = .ok (.aload_n 0, 1) := by decide +kernel
theorem dX7_place_28 : decode cX7_place 28 = .ok (.iload_n 1, 1) := by decide +kernel
theorem dX7_place_29 : decode cX7_place 29 = .ok (.invokevirtual 81, 3) := by decide +kernel
theorem dX7_place_32 : decode cX7_place 32 = .ok (.ifCond .eq 9, 3) := by decide +kernel
theorem dX7_place_35 : decode cX7_place 35 = .ok (.sipush (-1002), 3) := by decide +kernel
theorem dX7_place_38 : decode cX7_place 38 = .ok (.goto 9, 3) := by decide +kernel
theorem dX7_place_41 : decode cX7_place 41 = .ok (.aload_n 0, 1) := by decide +kernel
theorem dX7_place_42 : decode cX7_place 42 = .ok (.iload_n 1, 1) := by decide +kernel
theorem dX7_place_43 : decode cX7_place 43 = .ok (.iload_n 2, 1) := by decide +kernel
theorem dX7_place_44 : decode cX7_place 44 = .ok (.invokevirtual 225, 3) := by decide +kernel
theorem dX7_place_47 : decode cX7_place 47 = .ok (.ireturn, 1) := by decide +kernel
theorem dX7_placeOf_0 : decode cX7_placeOf 0 = .ok (.iconst 0, 1) := by decide +kernel
theorem dX7_placeOf_1 : decode cX7_placeOf 1 = .ok (.istore_n 3, 1) := by decide +kernel
theorem dX7_placeOf_2 : decode cX7_placeOf 2 = .ok (.iconst 0, 1) := by decide +kernel
theorem dX7_placeOf_3 : decode cX7_placeOf 3 = .ok (.istore 4, 2) := by decide +kernel
theorem dX7_placeOf_5 : decode cX7_placeOf 5 = .ok (.iload 4, 2) := by decide +kernel
theorem dX7_placeOf_7 : decode cX7_placeOf 7 = .ok (.iload_n 2, 1) := by decide +kernel
theorem dX7_placeOf_8 : decode cX7_placeOf 8 = .ok (.if_icmp .ge 37, 3) := by decide +kernel
theorem dX7_placeOf_11 : decode cX7_placeOf 11 = .ok (.iload_n 3, 1) := by decide +kernel
theorem dX7_placeOf_12 : decode cX7_placeOf 12 = .ok (.iload 4, 2) := by decide +kernel
theorem dX7_placeOf_14 : decode cX7_placeOf 14 = .ok (.iconst 2, 1) := by decide +kernel
theorem dX7_placeOf_15 : decode cX7_placeOf 15 = .ok (.irem, 1) := by decide +kernel
theorem dX7_placeOf_16 : decode cX7_placeOf 16 = .ok (.ifCond .ne 13, 3) := by decide +kernel
theorem dX7_placeOf_19 : decode cX7_placeOf 19 = .ok (.aload_n 0, 1) := by decide +kernel
theorem dX7_placeOf_20 : decode cX7_placeOf 20 = .ok (.iload_n 1, 1) := by decide +kernel
theorem dX7_placeOf_21 : decode cX7_placeOf 21 = .ok (.iload 4, 2) := by decide +kernel
theorem dX7_placeOf_23 : decode cX7_placeOf 23 = .ok (.invokevirtual 142, 3) := by decide +kernel
theorem dX7_placeOf_26 : decode cX7_placeOf 26 = .ok (.goto 11, 3) := by decide +kernel
theorem dX7_placeOf_29 : decode cX7_placeOf 29 = .ok (.aload_n 0, 1) := by decide +kernel
theorem dX7_placeOf_30 : decode cX7_placeOf 30 = .ok (.iload_n 1, 1) := by decide +kernel
theorem dX7_placeOf_31 : decode cX7_placeOf 31 = .ok (.iload 4, 2) := by decide +kernel
theorem dX7_placeOf_33 : decode cX7_placeOf 33 = .ok (.invokevirtual 142, 3) := by decide +kernel
theorem dX7_placeOf_36 : decode cX7_placeOf 36 = .ok (.ineg, 1) := by decide +kernel
theorem dX7_placeOf_37 : decode cX7_placeOf 37 = .ok (.iadd, 1) := by decide +kernel
theorem dX7_placeOf_38 : decode cX7_placeOf 38 = .ok (.istore_n 3, 1) := by decide +kernel
theorem dX7_placeOf_39 : decode cX7_placeOf 39 = .ok (.iinc 4 1, 3) := by decide +kernel
theorem dX7_placeOf_42 : decode cX7_placeOf 42 = .ok (.goto (-37), 3) := by decide +kernel
theorem dX7_placeOf_45 : decode cX7_placeOf 45 = .ok (.iload_n 3, 1) := by decide +kernel
theorem dX7_placeOf_46 : decode cX7_placeOf 46 = .ok (.ireturn, 1) := by decide +kernel
theorem dX7_reachesOver_0 : decode cX7_reachesOver 0 = .ok (.aload_n 0, 1) := by decide +kernel
theorem dX7_reachesOver_1 : decode cX7_reachesOver 1 = .ok (.getfield 40, 3) := by decide +kernel
theorem dX7_reachesOver_4 : decode cX7_reachesOver 4 = .ok (.iload_n 1, 1) := by decide +kernel
theorem dX7_reachesOver_5 : decode cX7_reachesOver 5 = .ok (.iaload, 1) := by decide +kernel
theorem dX7_reachesOver_6 : decode cX7_reachesOver 6 = .ok (.aload_n 0, 1) := by decide +kernel
theorem dX7_reachesOver_7 : decode cX7_reachesOver 7 = .ok (.getfield 40, 3) := by decide +kernel
theorem dX7_reachesOver_10 : decode cX7_reachesOver 10 = .ok (.iload_n 1, 1) := by decide +kernel
theorem dX7_reachesOver_11 : decode cX7_reachesOver 11 = .ok (.iconst 1, 1) := by decide +kernel
theorem dX7_reachesOver_12 : decode cX7_reachesOver 12 = .ok (.iadd, 1) := by decide +kernel
theorem dX7_reachesOver_13 : decode cX7_reachesOver 13 = .ok (.iaload, 1) := by decide +kernel
theorem dX7_reachesOver_14 : decode cX7_reachesOver 14 = .ok (.invokestatic 155, 3) := by decide +kernel
theorem dX7_reachesOver_17 : decode cX7_reachesOver 17 = .ok (.iload_n 2, 1) := by decide +kernel
theorem dX7_reachesOver_18 : decode cX7_reachesOver 18 = .ok (.if_icmp .ge 28, 3) := by decide +kernel
theorem dX7_reachesOver_21 : decode cX7_reachesOver 21 = .ok (.iload_n 2, 1) := by decide +kernel
theorem dX7_reachesOver_22 : decode cX7_reachesOver 22 = .ok (.aload_n 0, 1) := by decide +kernel
theorem dX7_reachesOver_23 : decode cX7_reachesOver 23 = .ok (.getfield 40, 3) := by decide +kernel
theorem dX7_reachesOver_26 : decode cX7_reachesOver 26 = .ok (.iload_n 1, 1) := by decide +kernel
theorem dX7_reachesOver_27 : decode cX7_reachesOver 27 = .ok (.iaload, 1) := by decide +kernel
theorem dX7_reachesOver_28 : decode cX7_reachesOver 28 = .ok (.aload_n 0, 1) := by decide +kernel
theorem dX7_reachesOver_29 : decode cX7_reachesOver 29 = .ok (.getfield 40, 3) := by decide +kernel
theorem dX7_reachesOver_32 : decode cX7_reachesOver 32 = .ok (.iload_n 1, 1) := by decide +kernel
theorem dX7_reachesOver_33 : decode cX7_reachesOver 33 = .ok (.iconst 1, 1) := by decide +kernel
theorem dX7_reachesOver_34 : decode cX7_reachesOver 34 = .ok (.iadd, 1) := by decide +kernel
theorem dX7_reachesOver_35 : decode cX7_reachesOver 35 = .ok (.iaload, 1) := by decide +kernel
theorem dX7_reachesOver_36 : decode cX7_reachesOver 36 = .ok (.invokestatic 178, 3) := by decide +kernel
theorem dX7_reachesOver_39 : decode cX7_reachesOver 39 = .ok (.if_icmp .ge 7, 3) := by decide +kernel
theorem dX7_reachesOver_42 : decode cX7_reachesOver 42 = .ok (.iconst 1, 1) := by decide +kernel
theorem dX7_reachesOver_43 : decode cX7_reachesOver 43 = .ok (.goto 4, 3) := by decide +kernel
theorem dX7_reachesOver_46 : decode cX7_reachesOver 46 = .ok (.iconst 0, 1) := by decide +kernel
theorem dX7_reachesOver_47 : decode cX7_reachesOver 47 = .ok (.ireturn, 1) := by decide +kernel
theorem dX7_read_0 : decode cX7_read 0 = .ok (.aload_n 0, 1) := by decide +kernel
theorem dX7_read_1 : decode cX7_read 1 = .ok (.invokevirtual 342, 3) := by decide +kernel
theorem dX7_read_4 : decode cX7_read 4 = .ok (.ifCond .ne 17, 3) := by decide +kernel
theorem dX7_read_7 : decode cX7_read 7 = .ok (.aload_n 0, 1) := by decide +kernel
theorem dX7_read_8 : decode cX7_read 8 = .ok (.iconst 0, 1) := by decide +kernel
theorem dX7_read_9 : decode cX7_read 9 = .ok (.putfield 291, 3) := by decide +kernel
theorem dX7_read_12 : decode cX7_read 12 = .ok (.sipush (-2000), 3) := by decide +kernel
theorem dX7_read_15 : decode cX7_read 15 = .ok (.aload_n 0, 1) := by decide +kernel
theorem dX7_read_16 : decode cX7_read 16 = .ok (.getfield 294, 3) := by decide +kernel
theorem dX7_read_19 : decode cX7_read 19 = .ok (.isub, 1) := by decide +kernel
theorem dX7_read_20 : decode cX7_read 20 = .ok (.ireturn, 1) := by decide +kernel
theorem dX7_read_21 : decode cX7_read 21 = .ok (.aload_n 0, 1) := by decide +kernel
theorem dX7_read_22 : decode cX7_read 22 = .ok (.invokevirtual 117, 3) := by decide +kernel
theorem dX7_read_25 : decode cX7_read 25 = .ok (.aload_n 0, 1) := by decide +kernel
theorem dX7_read_26 : decode cX7_read 26 = .ok (.invokevirtual 345, 3) := by decide +kernel
theorem dX7_read_29 : decode cX7_read 29 = .ok (.istore_n 1, 1) := by decide +kernel
theorem dX7_read_30 : decode cX7_read 30 = .ok (.aload_n 0, 1) := by decide +kernel
theorem dX7_read_31 : decode cX7_read 31 = .ok (.iconst 0, 1) := by decide +kernel
theorem dX7_read_32 : decode cX7_read 32 = .ok (.putfield 291, 3) := by decide +kernel
theorem dX7_read_35 : decode cX7_read 35 = .ok (.iload_n 1, 1) := by decide +kernel
theorem dX7_read_36 : decode cX7_read 36 = .ok (.ifCond .ge 18, 3) := by decide +kernel
theorem dX7_read_39 : decode cX7_read 39 = .ok (.aload_n 0, 1) := by decide +kernel
theorem dX7_read_40 : decode cX7_read 40 = .ok (.getfield 13, 3) := by decide +kernel
theorem dX7_read_43 : decode cX7_read 43 = .ok (.iconst 0, 1) := by decide +kernel
theorem dX7_read_44 : decode cX7_read 44 = .ok (.aload_n 0, 1) := by decide +kernel
theorem dX7_read_45 : decode cX7_read 45 = .ok (.getfield 9, 3) := by decide +kernel
theorem dX7_read_48 : decode cX7_read 48 = .ok (.iconst 0, 1) := by decide +kernel
theorem dX7_read_49 : decode cX7_read 49 = .ok (.invokestatic 54, 3) := by decide +kernel
theorem dX7_read_52 : decode cX7_read 52 = .ok (.iload_n 1, 1) := by decide +kernel
theorem dX7_read_53 : decode cX7_read 53 = .ok (.ireturn, 1) := by decide +kernel
theorem dX7_read_54 : decode cX7_read 54 = .ok (.aload_n 0, 1) := by decide +kernel
theorem dX7_read_55 : decode cX7_read 55 = .ok (.invokevirtual 65, 3) := by decide +kernel
theorem dX7_read_58 : decode cX7_read 58 = .ok (.iload_n 1, 1) := by decide +kernel
theorem dX7_read_59 : decode cX7_read 59 = .ok (.ireturn, 1) := by decide +kernel
theorem dX7_readsCommand_0 : decode cX7_readsCommand 0 = .ok (.aload_n 0, 1) := by decide +kernel
theorem dX7_readsCommand_1 : decode cX7_readsCommand 1 = .ok (.aload_n 0, 1) := by decide +kernel
theorem dX7_readsCommand_2 : decode cX7_readsCommand 2 = .ok (.invokevirtual 297, 3) := by decide +kernel
theorem dX7_readsCommand_5 : decode cX7_readsCommand 5 = .ok (.putfield 321, 3) := by decide +kernel
theorem dX7_readsCommand_8 : decode cX7_readsCommand 8 = .ok (.aload_n 0, 1) := by decide +kernel
theorem dX7_readsCommand_9 : decode cX7_readsCommand 9 = .ok (.getfield 321, 3) := by decide +kernel
theorem dX7_readsCommand_12 : decode cX7_readsCommand 12 = .ok (.bipush 115, 2) := by decide +kernel
theorem dX7_readsCommand_14 : decode cX7_readsCommand 14 = .ok (.if_icmp .eq 12, 3) := by decide +kernel
theorem dX7_readsCommand_17 : decode cX7_readsCommand 17 = .ok (.aload_n 0, 1) := by decide +kernel
theorem dX7_readsCommand_18 : decode cX7_readsCommand 18 = .ok (.getfield 321, 3) := by decide +kernel
theorem dX7_readsCommand_21 : decode cX7_readsCommand 21 = .ok (.bipush 99, 2) := by decide +kernel
theorem dX7_readsCommand_23 : decode cX7_readsCommand 23 = .ok (.if_icmp .ne 42, 3) := by decide +kernel
theorem dX7_readsCommand_26 : decode cX7_readsCommand 26 = .ok (.aload_n 0, 1) := by decide +kernel
theorem dX7_readsCommand_27 : decode cX7_readsCommand 27 = .ok (.dup, 1) := by decide +kernel
theorem dX7_readsCommand_28 : decode cX7_readsCommand 28 = .ok (.getfield 294, 3) := by decide +kernel
theorem dX7_readsCommand_31 : decode cX7_readsCommand 31 = .ok (.iconst 1, 1) := by decide +kernel
theorem dX7_readsCommand_32 : decode cX7_readsCommand 32 = .ok (.iadd, 1) := by decide +kernel
theorem dX7_readsCommand_33 : decode cX7_readsCommand 33 = .ok (.putfield 294, 3) := by decide +kernel
theorem dX7_readsCommand_36 : decode cX7_readsCommand 36 = .ok (.aload_n 0, 1) := by decide +kernel
theorem dX7_readsCommand_37 : decode cX7_readsCommand 37 = .ok (.invokevirtual 324, 3) := by decide +kernel
theorem dX7_readsCommand_40 : decode cX7_readsCommand 40 = .ok (.ifCond .eq 23, 3) := by decide +kernel
theorem dX7_readsCommand_43 : decode cX7_readsCommand 43 = .ok (.aload_n 0, 1) := by decide +kernel
theorem dX7_readsCommand_44 : decode cX7_readsCommand 44 = .ok (.bipush 58, 2) := by decide +kernel
theorem dX7_readsCommand_46 : decode cX7_readsCommand 46 = .ok (.invokevirtual 312, 3) := by decide +kernel
theorem dX7_readsCommand_49 : decode cX7_readsCommand 49 = .ok (.ifCond .eq 14, 3) := by decide +kernel
theorem dX7_readsCommand_52 : decode cX7_readsCommand 52 = .ok (.aload_n 0, 1) := by decide +kernel
theorem dX7_readsCommand_53 : decode cX7_readsCommand 53 = .ok (.invokevirtual 327, 3) := by decide +kernel
theorem dX7_readsCommand_56 : decode cX7_readsCommand 56 = .ok (.ifCond .eq 7, 3) := by decide +kernel
theorem dX7_readsCommand_59 : decode cX7_readsCommand 59 = .ok (.iconst 1, 1) := by decide +kernel
theorem dX7_readsCommand_60 : decode cX7_readsCommand 60 = .ok (.goto 4, 3) := by decide +kernel
theorem dX7_readsCommand_63 : decode cX7_readsCommand 63 = .ok (.iconst 0, 1) := by decide +kernel
theorem dX7_readsCommand_64 : decode cX7_readsCommand 64 = .ok (.ireturn, 1) := by decide +kernel
theorem dX7_readsCommand_65 : decode cX7_readsCommand 65 = .ok (.aload_n 0, 1) := by decide +kernel
theorem dX7_readsCommand_66 : decode cX7_readsCommand 66 = .ok (.getfield 321, 3) := by decide +kernel
theorem dX7_readsCommand_69 : decode cX7_readsCommand 69 = .ok (.bipush 109, 2) := by decide +kernel
theorem dX7_readsCommand_71 : decode cX7_readsCommand 71 = .ok (.if_icmp .eq 41, 3) := by decide +kernel
theorem dX7_readsCommand_74 : decode cX7_readsCommand 74 = .ok (.aload_n 0, 1) := by decide +kernel
theorem dX7_readsCommand_75 : decode cX7_readsCommand 75 = .ok (.getfield 321, 3) := by decide +kernel
theorem dX7_readsCommand_78 : decode cX7_readsCommand 78 = .ok (.bipush 116, 2) := by decide +kernel
theorem dX7_readsCommand_80 : decode cX7_readsCommand 80 = .ok (.if_icmp .eq 32, 3) := by decide +kernel
theorem dX7_readsCommand_83 : decode cX7_readsCommand 83 = .ok (.aload_n 0, 1) := by decide +kernel
theorem dX7_readsCommand_84 : decode cX7_readsCommand 84 = .ok (.getfield 321, 3) := by decide +kernel
theorem dX7_readsCommand_87 : decode cX7_readsCommand 87 = .ok (.bipush 102, 2) := by decide +kernel
theorem dX7_readsCommand_89 : decode cX7_readsCommand 89 = .ok (.if_icmp .eq 23, 3) := by decide +kernel
theorem dX7_readsCommand_92 : decode cX7_readsCommand 92 = .ok (.aload_n 0, 1) := by decide +kernel
theorem dX7_readsCommand_93 : decode cX7_readsCommand 93 = .ok (.getfield 321, 3) := by decide +kernel
theorem dX7_readsCommand_96 : decode cX7_readsCommand 96 = .ok (.bipush 117, 2) := by decide +kernel
theorem dX7_readsCommand_98 : decode cX7_readsCommand 98 = .ok (.if_icmp .eq 14, 3) := by decide +kernel
theorem dX7_readsCommand_101 : decode cX7_readsCommand 101 = .ok (.aload_n 0, 1) := by decide +kernel
theorem dX7_readsCommand_102 : decode cX7_readsCommand 102 = .ok (.getfield 321, 3) := by decide +kernel
theorem dX7_readsCommand_105 : decode cX7_readsCommand 105 = .ok (.bipush 120, 2) := by decide +kernel
theorem dX7_readsCommand_107 : decode cX7_readsCommand 107 = .ok (.if_icmp .eq 5, 3) := by decide +kernel
theorem dX7_readsCommand_110 : decode cX7_readsCommand 110 = .ok (.iconst 0, 1) := by decide +kernel
theorem dX7_readsCommand_111 : decode cX7_readsCommand 111 = .ok (.ireturn, 1) := by decide +kernel
theorem dX7_readsCommand_112 : decode cX7_readsCommand 112 = .ok (.aload_n 0, 1) := by decide +kernel
theorem dX7_readsCommand_113 : decode cX7_readsCommand 113 = .ok (.dup, 1) := by decide +kernel
theorem dX7_readsCommand_114 : decode cX7_readsCommand 114 = .ok (.getfield 294, 3) := by decide +kernel
theorem dX7_readsCommand_117 : decode cX7_readsCommand 117 = .ok (.iconst 1, 1) := by decide +kernel
theorem dX7_readsCommand_118 : decode cX7_readsCommand 118 = .ok (.iadd, 1) := by decide +kernel
theorem dX7_readsCommand_119 : decode cX7_readsCommand 119 = .ok (.putfield 294, 3) := by decide +kernel
theorem dX7_readsCommand_122 : decode cX7_readsCommand 122 = .ok (.aload_n 0, 1) := by decide +kernel
theorem dX7_readsCommand_123 : decode cX7_readsCommand 123 = .ok (.aload_n 0, 1) := by decide +kernel
theorem dX7_readsCommand_124 : decode cX7_readsCommand 124 = .ok (.invokevirtual 315, 3) := by decide +kernel
theorem dX7_readsCommand_127 : decode cX7_readsCommand 127 = .ok (.putfield 300, 3) := by decide +kernel
theorem dX7_readsCommand_130 : decode cX7_readsCommand 130 = .ok (.aload_n 0, 1) := by decide +kernel
theorem dX7_readsCommand_131 : decode cX7_readsCommand 131 = .ok (.getfield 300, 3) := by decide +kernel
theorem dX7_readsCommand_134 : decode cX7_readsCommand 134 = .ok (.ifCond .lt 23, 3) := by decide +kernel
theorem dX7_readsCommand_137 : decode cX7_readsCommand 137 = .ok (.aload_n 0, 1) := by decide +kernel
theorem dX7_readsCommand_138 : decode cX7_readsCommand 138 = .ok (.getfield 321, 3) := by decide +kernel
theorem dX7_readsCommand_141 : decode cX7_readsCommand 141 = .ok (.bipush 109, 2) := by decide +kernel
theorem dX7_readsCommand_143 : decode cX7_readsCommand 143 = .ok (.if_icmp .ne 10, 3) := by decide +kernel
theorem dX7_readsCommand_146 : decode cX7_readsCommand 146 = .ok (.aload_n 0, 1) := by decide +kernel
theorem dX7_readsCommand_147 : decode cX7_readsCommand 147 = .ok (.invokevirtual 330, 3) := by decide +kernel
theorem dX7_readsCommand_150 : decode cX7_readsCommand 150 = .ok (.ifCond .eq 7, 3) := by decide +kernel
theorem dX7_readsCommand_153 : decode cX7_readsCommand 153 = .ok (.iconst 1, 1) := by decide +kernel
theorem dX7_readsCommand_154 : decode cX7_readsCommand 154 = .ok (.goto 4, 3) := by decide +kernel
theorem dX7_readsCommand_157 : decode cX7_readsCommand 157 = .ok (.iconst 0, 1) := by decide +kernel
theorem dX7_readsCommand_158 : decode cX7_readsCommand 158 = .ok (.ireturn, 1) := by decide +kernel
theorem dX7_readsMark_0 : decode cX7_readsMark 0 = .ok (.aload_n 0, 1) := by decide +kernel
theorem dX7_readsMark_1 : decode cX7_readsMark 1 = .ok (.bipush 46, 2) := by decide +kernel
theorem dX7_readsMark_3 : decode cX7_readsMark 3 = .ok (.invokevirtual 312, 3) := by decide +kernel
theorem dX7_readsMark_6 : decode cX7_readsMark 6 = .ok (.ifCond .ne 5, 3) := by decide +kernel
theorem dX7_readsMark_9 : decode cX7_readsMark 9 = .ok (.iconst 0, 1) := by decide +kernel
theorem dX7_readsMark_10 : decode cX7_readsMark 10 = .ok (.ireturn, 1) := by decide +kernel
theorem dX7_readsMark_11 : decode cX7_readsMark 11 = .ok (.aload_n 0, 1) := by decide +kernel
theorem dX7_readsMark_12 : decode cX7_readsMark 12 = .ok (.aload_n 0, 1) := by decide +kernel
theorem dX7_readsMark_13 : decode cX7_readsMark 13 = .ok (.invokevirtual 315, 3) := by decide +kernel
theorem dX7_readsMark_16 : decode cX7_readsMark 16 = .ok (.putfield 303, 3) := by decide +kernel
theorem dX7_readsMark_19 : decode cX7_readsMark 19 = .ok (.aload_n 0, 1) := by decide +kernel
theorem dX7_readsMark_20 : decode cX7_readsMark 20 = .ok (.getfield 303, 3) := by decide +kernel
theorem dX7_readsMark_23 : decode cX7_readsMark 23 = .ok (.ifCond .lt 12, 3) := by decide +kernel
theorem dX7_readsMark_26 : decode cX7_readsMark 26 = .ok (.aload_n 0, 1) := by decide +kernel
theorem dX7_readsMark_27 : decode cX7_readsMark 27 = .ok (.bipush 61, 2) := by decide +kernel
theorem dX7_readsMark_29 : decode cX7_readsMark 29 = .ok (.invokevirtual 312, 3) := by decide +kernel
theorem dX7_readsMark_32 : decode cX7_readsMark 32 = .ok (.ifCond .ne 5, 3) := by decide +kernel
theorem dX7_readsMark_35 : decode cX7_readsMark 35 = .ok (.iconst 0, 1) := by decide +kernel
theorem dX7_readsMark_36 : decode cX7_readsMark 36 = .ok (.ireturn, 1) := by decide +kernel
theorem dX7_readsMark_37 : decode cX7_readsMark 37 = .ok (.aload_n 0, 1) := by decide +kernel
theorem dX7_readsMark_38 : decode cX7_readsMark 38 = .ok (.aload_n 0, 1) := by decide +kernel
theorem dX7_readsMark_39 : decode cX7_readsMark 39 = .ok (.invokevirtual 297, 3) := by decide +kernel
theorem dX7_readsMark_42 : decode cX7_readsMark 42 = .ok (.invokestatic 309, 3) := by decide +kernel
theorem dX7_readsMark_45 : decode cX7_readsMark 45 = .ok (.putfield 318, 3) := by decide +kernel
theorem dX7_readsMark_48 : decode cX7_readsMark 48 = .ok (.aload_n 0, 1) := by decide +kernel
theorem dX7_readsMark_49 : decode cX7_readsMark 49 = .ok (.dup, 1) := by decide +kernel
theorem dX7_readsMark_50 : decode cX7_readsMark 50 = .ok (.getfield 294, 3) := by decide +kernel
theorem dX7_readsMark_53 : decode cX7_readsMark 53 = .ok (.aload_n 0, 1) := by decide +kernel
theorem dX7_readsMark_54 : decode cX7_readsMark 54 = .ok (.getfield 318, 3) := by decide +kernel
theorem dX7_readsMark_57 : decode cX7_readsMark 57 = .ok (.ifCond .lt 7, 3) := by decide +kernel
theorem dX7_readsMark_60 : decode cX7_readsMark 60 = .ok (.iconst 1, 1) := by decide +kernel
theorem dX7_readsMark_61 : decode cX7_readsMark 61 = .ok (.goto 4, 3) := by decide +kernel
theorem dX7_readsMark_64 : decode cX7_readsMark 64 = .ok (.iconst 0, 1) := by decide +kernel
theorem dX7_readsMark_65 : decode cX7_readsMark 65 = .ok (.iadd, 1) := by decide +kernel
theorem dX7_readsMark_66 : decode cX7_readsMark 66 = .ok (.putfield 294, 3) := by decide +kernel
theorem dX7_readsMark_69 : decode cX7_readsMark 69 = .ok (.aload_n 0, 1) := by decide +kernel
theorem dX7_readsMark_70 : decode cX7_readsMark 70 = .ok (.getfield 318, 3) := by decide +kernel
theorem dX7_readsMark_73 : decode cX7_readsMark 73 = .ok (.ifCond .lt 7, 3) := by decide +kernel
theorem dX7_readsMark_76 : decode cX7_readsMark 76 = .ok (.iconst 1, 1) := by decide +kernel
theorem dX7_readsMark_77 : decode cX7_readsMark 77 = .ok (.goto 4, 3) := by decide +kernel
theorem dX7_readsMark_80 : decode cX7_readsMark 80 = .ok (.iconst 0, 1) := by decide +kernel
theorem dX7_readsMark_81 : decode cX7_readsMark 81 = .ok (.ireturn, 1) := by decide +kernel
theorem dX7_readsSigns_0 : decode cX7_readsSigns 0 = .ok (.aload_n 0, 1) := by decide +kernel
theorem dX7_readsSigns_1 : decode cX7_readsSigns 1 = .ok (.iconst 0, 1) := by decide +kernel
theorem dX7_readsSigns_2 : decode cX7_readsSigns 2 = .ok (.putfield 303, 3) := by decide +kernel
theorem dX7_readsSigns_5 : decode cX7_readsSigns 5 = .ok (.aload_n 0, 1) := by decide +kernel
theorem dX7_readsSigns_6 : decode cX7_readsSigns 6 = .ok (.iconst 0, 1) := by decide +kernel
theorem dX7_readsSigns_7 : decode cX7_readsSigns 7 = .ok (.putfield 306, 3) := by decide +kernel
theorem dX7_readsSigns_10 : decode cX7_readsSigns 10 = .ok (.aload_n 0, 1) := by decide +kernel
theorem dX7_readsSigns_11 : decode cX7_readsSigns 11 = .ok (.getfield 306, 3) := by decide +kernel
theorem dX7_readsSigns_14 : decode cX7_readsSigns 14 = .ok (.bipush 8, 2) := by decide +kernel
theorem dX7_readsSigns_16 : decode cX7_readsSigns 16 = .ok (.if_icmp .ge 55, 3) := by decide +kernel
theorem dX7_readsSigns_19 : decode cX7_readsSigns 19 = .ok (.aload_n 0, 1) := by decide +kernel
theorem dX7_readsSigns_20 : decode cX7_readsSigns 20 = .ok (.invokevirtual 297, 3) := by decide +kernel
theorem dX7_readsSigns_23 : decode cX7_readsSigns 23 = .ok (.invokestatic 309, 3) := by decide +kernel
theorem dX7_readsSigns_26 : decode cX7_readsSigns 26 = .ok (.ifCond .lt 45, 3) := by decide +kernel
theorem dX7_readsSigns_29 : decode cX7_readsSigns 29 = .ok (.aload_n 0, 1) := by decide +kernel
theorem dX7_readsSigns_30 : decode cX7_readsSigns 30 = .ok (.bipush 10, 2) := by decide +kernel
theorem dX7_readsSigns_32 : decode cX7_readsSigns 32 = .ok (.aload_n 0, 1) := by decide +kernel
theorem dX7_readsSigns_33 : decode cX7_readsSigns 33 = .ok (.getfield 303, 3) := by decide +kernel
theorem dX7_readsSigns_36 : decode cX7_readsSigns 36 = .ok (.imul, 1) := by decide +kernel
theorem dX7_readsSigns_37 : decode cX7_readsSigns 37 = .ok (.aload_n 0, 1) := by decide +kernel
theorem dX7_readsSigns_38 : decode cX7_readsSigns 38 = .ok (.invokevirtual 297, 3) := by decide +kernel
theorem dX7_readsSigns_41 : decode cX7_readsSigns 41 = .ok (.invokestatic 309, 3) := by decide +kernel
theorem dX7_readsSigns_44 : decode cX7_readsSigns 44 = .ok (.iadd, 1) := by decide +kernel
theorem dX7_readsSigns_45 : decode cX7_readsSigns 45 = .ok (.putfield 303, 3) := by decide +kernel
theorem dX7_readsSigns_48 : decode cX7_readsSigns 48 = .ok (.aload_n 0, 1) := by decide +kernel
theorem dX7_readsSigns_49 : decode cX7_readsSigns 49 = .ok (.dup, 1) := by decide +kernel
theorem dX7_readsSigns_50 : decode cX7_readsSigns 50 = .ok (.getfield 294, 3) := by decide +kernel
theorem dX7_readsSigns_53 : decode cX7_readsSigns 53 = .ok (.iconst 1, 1) := by decide +kernel
theorem dX7_readsSigns_54 : decode cX7_readsSigns 54 = .ok (.iadd, 1) := by decide +kernel
theorem dX7_readsSigns_55 : decode cX7_readsSigns 55 = .ok (.putfield 294, 3) := by decide +kernel
theorem dX7_readsSigns_58 : decode cX7_readsSigns 58 = .ok (.aload_n 0, 1) := by decide +kernel
theorem dX7_readsSigns_59 : decode cX7_readsSigns 59 = .ok (.dup, 1) := by decide +kernel
theorem dX7_readsSigns_60 : decode cX7_readsSigns 60 = .ok (.getfield 306, 3) := by decide +kernel
theorem dX7_readsSigns_63 : decode cX7_readsSigns 63 = .ok (.iconst 1, 1) := by decide +kernel
theorem dX7_readsSigns_64 : decode cX7_readsSigns 64 = .ok (.iadd, 1) := by decide +kernel
theorem dX7_readsSigns_65 : decode cX7_readsSigns 65 = .ok (.putfield 306, 3) := by decide +kernel
theorem dX7_readsSigns_68 : decode cX7_readsSigns 68 = .ok (.goto (-58), 3) := by decide +kernel
theorem dX7_readsSigns_71 : decode cX7_readsSigns 71 = .ok (.aload_n 0, 1) := by decide +kernel
theorem dX7_readsSigns_72 : decode cX7_readsSigns 72 = .ok (.getfield 306, 3) := by decide +kernel
theorem dX7_readsSigns_75 : decode cX7_readsSigns 75 = .ok (.ifCond .le 7, 3) := by decide +kernel
theorem dX7_readsSigns_78 : decode cX7_readsSigns 78 = .ok (.iconst 1, 1) := by decide +kernel
theorem dX7_readsSigns_79 : decode cX7_readsSigns 79 = .ok (.goto 4, 3) := by decide +kernel
theorem dX7_readsSigns_82 : decode cX7_readsSigns 82 = .ok (.iconst 0, 1) := by decide +kernel
theorem dX7_readsSigns_83 : decode cX7_readsSigns 83 = .ok (.ireturn, 1) := by decide +kernel
theorem dX7_readsSizes_0 : decode cX7_readsSizes 0 = .ok (.aload_n 0, 1) := by decide +kernel
theorem dX7_readsSizes_1 : decode cX7_readsSizes 1 = .ok (.iconst 0, 1) := by decide +kernel
theorem dX7_readsSizes_2 : decode cX7_readsSizes 2 = .ok (.putfield 300, 3) := by decide +kernel
theorem dX7_readsSizes_5 : decode cX7_readsSizes 5 = .ok (.iconst 0, 1) := by decide +kernel
theorem dX7_readsSizes_6 : decode cX7_readsSizes 6 = .ok (.istore_n 1, 1) := by decide +kernel
theorem dX7_readsSizes_7 : decode cX7_readsSizes 7 = .ok (.iload_n 1, 1) := by decide +kernel
theorem dX7_readsSizes_8 : decode cX7_readsSizes 8 = .ok (.bipush 8, 2) := by decide +kernel
theorem dX7_readsSizes_10 : decode cX7_readsSizes 10 = .ok (.if_icmp .ge 52, 3) := by decide +kernel
theorem dX7_readsSizes_13 : decode cX7_readsSizes 13 = .ok (.aload_n 0, 1) := by decide +kernel
theorem dX7_readsSizes_14 : decode cX7_readsSizes 14 = .ok (.invokevirtual 297, 3) := by decide +kernel
theorem dX7_readsSizes_17 : decode cX7_readsSizes 17 = .ok (.bipush 49, 2) := by decide +kernel
theorem dX7_readsSizes_19 : decode cX7_readsSizes 19 = .ok (.bipush 57, 2) := by decide +kernel
theorem dX7_readsSizes_21 : decode cX7_readsSizes 21 = .ok (.invokestatic 61, 3) := by decide +kernel
theorem dX7_readsSizes_24 : decode cX7_readsSizes 24 = .ok (.ifCond .eq 38, 3) := by decide +kernel
theorem dX7_readsSizes_27 : decode cX7_readsSizes 27 = .ok (.aload_n 0, 1) := by decide +kernel
theorem dX7_readsSizes_28 : decode cX7_readsSizes 28 = .ok (.bipush 10, 2) := by decide +kernel
theorem dX7_readsSizes_30 : decode cX7_readsSizes 30 = .ok (.aload_n 0, 1) := by decide +kernel
theorem dX7_readsSizes_31 : decode cX7_readsSizes 31 = .ok (.getfield 300, 3) := by decide +kernel
theorem dX7_readsSizes_34 : decode cX7_readsSizes 34 = .ok (.imul, 1) := by decide +kernel
theorem dX7_readsSizes_35 : decode cX7_readsSizes 35 = .ok (.aload_n 0, 1) := by decide +kernel
theorem dX7_readsSizes_36 : decode cX7_readsSizes 36 = .ok (.invokevirtual 297, 3) := by decide +kernel
theorem dX7_readsSizes_39 : decode cX7_readsSizes 39 = .ok (.iadd, 1) := by decide +kernel
theorem dX7_readsSizes_40 : decode cX7_readsSizes 40 = .ok (.bipush 48, 2) := by decide +kernel
theorem dX7_readsSizes_42 : decode cX7_readsSizes 42 = .ok (.isub, 1) := by decide +kernel
theorem dX7_readsSizes_43 : decode cX7_readsSizes 43 = .ok (.putfield 300, 3) := by decide +kernel
theorem dX7_readsSizes_46 : decode cX7_readsSizes 46 = .ok (.aload_n 0, 1) := by decide +kernel
theorem dX7_readsSizes_47 : decode cX7_readsSizes 47 = .ok (.dup, 1) := by decide +kernel
theorem dX7_readsSizes_48 : decode cX7_readsSizes 48 = .ok (.getfield 294, 3) := by decide +kernel
theorem dX7_readsSizes_51 : decode cX7_readsSizes 51 = .ok (.iconst 1, 1) := by decide +kernel
theorem dX7_readsSizes_52 : decode cX7_readsSizes 52 = .ok (.iadd, 1) := by decide +kernel
theorem dX7_readsSizes_53 : decode cX7_readsSizes 53 = .ok (.putfield 294, 3) := by decide +kernel
theorem dX7_readsSizes_56 : decode cX7_readsSizes 56 = .ok (.iinc 1 1, 3) := by decide +kernel
theorem dX7_readsSizes_59 : decode cX7_readsSizes 59 = .ok (.goto (-52), 3) := by decide +kernel
theorem dX7_readsSizes_62 : decode cX7_readsSizes 62 = .ok (.iload_n 1, 1) := by decide +kernel
theorem dX7_readsSizes_63 : decode cX7_readsSizes 63 = .ok (.ifCond .le 7, 3) := by decide +kernel
theorem dX7_readsSizes_66 : decode cX7_readsSizes 66 = .ok (.iconst 1, 1) := by decide +kernel
theorem dX7_readsSizes_67 : decode cX7_readsSizes 67 = .ok (.goto 4, 3) := by decide +kernel
theorem dX7_readsSizes_70 : decode cX7_readsSizes 70 = .ok (.iconst 0, 1) := by decide +kernel
theorem dX7_readsSizes_71 : decode cX7_readsSizes 71 = .ok (.ireturn, 1) := by decide +kernel
theorem dX7_reduces_0 : decode cX7_reduces 0 = .ok (.iconst 0, 1) := by decide +kernel
theorem dX7_reduces_1 : decode cX7_reduces 1 = .ok (.istore_n 1, 1) := by decide +kernel
theorem dX7_reduces_2 : decode cX7_reduces 2 = .ok (.aload_n 0, 1) := by decide +kernel
theorem dX7_reduces_3 : decode cX7_reduces 3 = .ok (.invokevirtual 187, 3) := by decide +kernel
theorem dX7_reduces_6 : decode cX7_reduces 6 = .ok (.istore_n 2, 1) := by decide +kernel
theorem dX7_reduces_7 : decode cX7_reduces 7 = .ok (.iload_n 2, 1) := by decide +kernel
theorem dX7_reduces_8 : decode cX7_reduces 8 = .ok (.ifCond .le 19, 3) := by decide +kernel
theorem dX7_reduces_11 : decode cX7_reduces 11 = .ok (.aload_n 0, 1) := by decide +kernel
theorem dX7_reduces_12 : decode cX7_reduces 12 = .ok (.iload_n 2, 1) := by decide +kernel
theorem dX7_reduces_13 : decode cX7_reduces 13 = .ok (.invokevirtual 190, 3) := by decide +kernel
theorem dX7_reduces_16 : decode cX7_reduces 16 = .ok (.iinc 1 1, 3) := by decide +kernel
theorem dX7_reduces_19 : decode cX7_reduces 19 = .ok (.aload_n 0, 1) := by decide +kernel
theorem dX7_reduces_20 : decode cX7_reduces 20 = .ok (.invokevirtual 187, 3) := by decide +kernel
theorem dX7_reduces_23 : decode cX7_reduces 23 = .ok (.istore_n 2, 1) := by decide +kernel
theorem dX7_reduces_24 : decode cX7_reduces 24 = .ok (.goto (-17), 3) := by decide +kernel
theorem dX7_reduces_27 : decode cX7_reduces 27 = .ok (.iload_n 1, 1) := by decide +kernel
theorem dX7_reduces_28 : decode cX7_reduces 28 = .ok (.ireturn, 1) := by decide +kernel
theorem dX7_reflected_0 : decode cX7_reflected 0 = .ok (.aload_n 0, 1) := by decide +kernel
theorem dX7_reflected_1 : decode cX7_reflected 1 = .ok (.iload_n 1, 1) := by decide +kernel
theorem dX7_reflected_2 : decode cX7_reflected 2 = .ok (.invokevirtual 85, 3) := by decide +kernel
theorem dX7_reflected_5 : decode cX7_reflected 5 = .ok (.ifCond .ne 7, 3) := by decide +kernel
theorem dX7_reflected_8 : decode cX7_reflected 8 = .ok (.sipush (-1001), 3) := by decide +kernel
theorem dX7_reflected_11 : decode cX7_reflected 11 = .ok (.ireturn, 1) := by decide +kernel
theorem dX7_reflected_12 : decode cX7_reflected 12 = .ok (.aload_n 0, 1) := by decide +kernel
theorem dX7_reflected_13 : decode cX7_reflected 13 = .ok (.iload_n 1, 1) := by decide +kernel
theorem dX7_reflected_14 : decode cX7_reflected 14 = .ok (.invokevirtual 81, 3) := by decide +kernel
theorem dX7_reflected_17 : decode cX7_reflected 17 = .ok (.ifCond .ne 7, 3) := by decide +kernel
theorem dX7_reflected_20 : decode cX7_reflected 20 = .ok (.sipush (-1002), 3) := by decide +kernel
theorem dX7_reflected_23 : decode cX7_reflected 23 = .ok (.ireturn, 1) := by decide +kernel
theorem dX7_reflected_24 : decode cX7_reflected 24 = .ok (.iconst 0, 1) := by decide +kernel
theorem dX7_reflected_25 : decode cX7_reflected 25 = .ok (.istore_n 2, 1) := by decide +kernel
theorem dX7_reflected_26 : decode cX7_reflected 26 = .ok (.iconst 0, 1) := by decide +kernel
theorem dX7_reflected_27 : decode cX7_reflected 27 = .ok (.istore_n 3, 1) := by decide +kernel
theorem dX7_reflected_28 : decode cX7_reflected 28 = .ok (.iconst 0, 1) := by decide +kernel
theorem dX7_reflected_29 : decode cX7_reflected 29 = .ok (.istore 4, 2) := by decide +kernel
theorem dX7_reflected_31 : decode cX7_reflected 31 = .ok (.iload 4, 2) := by decide +kernel
theorem dX7_reflected_33 : decode cX7_reflected 33 = .ok (.aload_n 0, 1) := by decide +kernel
theorem dX7_reflected_34 : decode cX7_reflected 34 = .ok (.iload_n 1, 1) := by decide +kernel
theorem dX7_reflected_35 : decode cX7_reflected 35 = .ok (.iconst 1, 1) := by decide +kernel
theorem dX7_reflected_36 : decode cX7_reflected 36 = .ok (.invokevirtual 78, 3) := by decide +kernel
theorem dX7_reflected_39 : decode cX7_reflected 39 = .ok (.if_icmp .ge 34, 3) := by decide +kernel
theorem dX7_reflected_42 : decode cX7_reflected 42 = .ok (.iconst 2, 1) := by decide +kernel
theorem dX7_reflected_43 : decode cX7_reflected 43 = .ok (.iload_n 3, 1) := by decide +kernel
theorem dX7_reflected_44 : decode cX7_reflected 44 = .ok (.imul, 1) := by decide +kernel
theorem dX7_reflected_45 : decode cX7_reflected 45 = .ok (.iload_n 2, 1) := by decide +kernel
theorem dX7_reflected_46 : decode cX7_reflected 46 = .ok (.isub, 1) := by decide +kernel
theorem dX7_reflected_47 : decode cX7_reflected 47 = .ok (.bipush 24, 2) := by decide +kernel
theorem dX7_reflected_49 : decode cX7_reflected 49 = .ok (.irem, 1) := by decide +kernel
theorem dX7_reflected_50 : decode cX7_reflected 50 = .ok (.bipush 24, 2) := by decide +kernel
theorem dX7_reflected_52 : decode cX7_reflected 52 = .ok (.iadd, 1) := by decide +kernel
theorem dX7_reflected_53 : decode cX7_reflected 53 = .ok (.bipush 24, 2) := by decide +kernel
theorem dX7_reflected_55 : decode cX7_reflected 55 = .ok (.irem, 1) := by decide +kernel
theorem dX7_reflected_56 : decode cX7_reflected 56 = .ok (.istore_n 2, 1) := by decide +kernel
theorem dX7_reflected_57 : decode cX7_reflected 57 = .ok (.iload_n 3, 1) := by decide +kernel
theorem dX7_reflected_58 : decode cX7_reflected 58 = .ok (.aload_n 0, 1) := by decide +kernel
theorem dX7_reflected_59 : decode cX7_reflected 59 = .ok (.iload_n 1, 1) := by decide +kernel
theorem dX7_reflected_60 : decode cX7_reflected 60 = .ok (.iload 4, 2) := by decide +kernel
theorem dX7_reflected_62 : decode cX7_reflected 62 = .ok (.invokevirtual 142, 3) := by decide +kernel
theorem dX7_reflected_65 : decode cX7_reflected 65 = .ok (.iadd, 1) := by decide +kernel
theorem dX7_reflected_66 : decode cX7_reflected 66 = .ok (.istore_n 3, 1) := by decide +kernel
theorem dX7_reflected_67 : decode cX7_reflected 67 = .ok (.iinc 4 1, 3) := by decide +kernel
theorem dX7_reflected_70 : decode cX7_reflected 70 = .ok (.goto (-39), 3) := by decide +kernel
theorem dX7_reflected_73 : decode cX7_reflected 73 = .ok (.iload_n 2, 1) := by decide +kernel
theorem dX7_reflected_74 : decode cX7_reflected 74 = .ok (.ireturn, 1) := by decide +kernel
theorem dX7_refusal_0 : decode cX7_refusal 0 = .ok (.iload_n 1, 1) := by decide +kernel
theorem dX7_refusal_1 : decode cX7_refusal 1 = .ok (.iconst 0, 1) := by decide +kernel
theorem dX7_refusal_2 : decode cX7_refusal 2 = .ok (.iconst 2, 1) := by decide +kernel
theorem dX7_refusal_3 : decode cX7_refusal 3 = .ok (.invokestatic 61, 3) := by decide +kernel
theorem dX7_refusal_6 : decode cX7_refusal 6 = .ok (.ifCond .ne 7, 3) := by decide +kernel
theorem dX7_refusal_9 : decode cX7_refusal 9 = .ok (.sipush (-1002), 3) := by decide +kernel
theorem dX7_refusal_12 : decode cX7_refusal 12 = .ok (.ireturn, 1) := by decide +kernel
theorem dX7_refusal_13 : decode cX7_refusal 13 = .ok (.aload_n 0, 1) := by decide +kernel
theorem dX7_refusal_14 : decode cX7_refusal 14 = .ok (.getfield 68, 3) := by decide +kernel
theorem dX7_refusal_17 : decode cX7_refusal 17 = .ok (.ifCond .ne 9, 3) := by decide +kernel
theorem dX7_refusal_20 : decode cX7_refusal 20 = .ok (.sipush (-1004), 3) := by decide +kernel
theorem dX7_refusal_23 : decode cX7_refusal 23 = .ok (.goto 30, 3) := by decide +kernel
theorem dX7_refusal_26 : decode cX7_refusal 26 = .ok (.iload_n 1, 1) := by decide +kernel
theorem dX7_refusal_27 : decode cX7_refusal 27 = .ok (.ifCond .ne 10, 3) := by decide +kernel
theorem dX7_refusal_30 : decode cX7_refusal 30 = .ok (.aload_n 0, 1) := by decide +kernel
theorem dX7_refusal_31 : decode cX7_refusal 31 = .ok (.getfield 68, 3) := by decide +kernel
theorem dX7_refusal_34 : decode cX7_refusal 34 = .ok (.goto 19, 3) := by decide +kernel
theorem dX7_refusal_37 : decode cX7_refusal 37 = .ok (.iload_n 1, 1) := by decide +kernel
theorem dX7_refusal_38 : decode cX7_refusal 38 = .ok (.iconst 1, 1) := by decide +kernel
theorem dX7_refusal_39 : decode cX7_refusal 39 = .ok (.if_icmp .ne 10, 3) := by decide +kernel
theorem dX7_refusal_42 : decode cX7_refusal 42 = .ok (.aload_n 0, 1) := by decide +kernel
theorem dX7_refusal_43 : decode cX7_refusal 43 = .ok (.getfield 71, 3) := by decide +kernel
theorem dX7_refusal_46 : decode cX7_refusal 46 = .ok (.goto 7, 3) := by decide +kernel
theorem dX7_refusal_49 : decode cX7_refusal 49 = .ok (.aload_n 0, 1) := by decide +kernel
theorem dX7_refusal_50 : decode cX7_refusal 50 = .ok (.getfield 50, 3) := by decide +kernel
theorem dX7_refusal_53 : decode cX7_refusal 53 = .ok (.ireturn, 1) := by decide +kernel
theorem dX7_refuses_0 : decode cX7_refuses 0 = .ok (.aload_n 0, 1) := by decide +kernel
theorem dX7_refuses_1 : decode cX7_refuses 1 = .ok (.iload_n 1, 1) := by decide +kernel
theorem dX7_refuses_2 : decode cX7_refuses 2 = .ok (.putfield 68, 3) := by decide +kernel
theorem dX7_refuses_5 : decode cX7_refuses 5 = .ok (.aload_n 0, 1) := by decide +kernel
theorem dX7_refuses_6 : decode cX7_refuses 6 = .ok (.iload_n 2, 1) := by decide +kernel
theorem dX7_refuses_7 : decode cX7_refuses 7 = .ok (.putfield 71, 3) := by decide +kernel
theorem dX7_refuses_10 : decode cX7_refuses 10 = .ok (.sipush (-1003), 3) := by decide +kernel
theorem dX7_refuses_13 : decode cX7_refuses 13 = .ok (.ireturn, 1) := by decide +kernel
theorem dX7_restore_0 : decode cX7_restore 0 = .ok (.aload_n 0, 1) := by decide +kernel
theorem dX7_restore_1 : decode cX7_restore 1 = .ok (.getfield 363, 3) := by decide +kernel
theorem dX7_restore_4 : decode cX7_restore 4 = .ok (.ifCond .ne 7, 3) := by decide +kernel
theorem dX7_restore_7 : decode cX7_restore 7 = .ok (.sipush (-1004), 3) := by decide +kernel
theorem dX7_restore_10 : decode cX7_restore 10 = .ok (.ireturn, 1) := by decide +kernel
theorem dX7_restore_11 : decode cX7_restore 11 = .ok (.aload_n 0, 1) := by decide +kernel
theorem dX7_restore_12 : decode cX7_restore 12 = .ok (.getfield 16, 3) := by decide +kernel
theorem dX7_restore_15 : decode cX7_restore 15 = .ok (.iconst 0, 1) := by decide +kernel
theorem dX7_restore_16 : decode cX7_restore 16 = .ok (.aload_n 0, 1) := by decide +kernel
theorem dX7_restore_17 : decode cX7_restore 17 = .ok (.getfield 9, 3) := by decide +kernel
theorem dX7_restore_20 : decode cX7_restore 20 = .ok (.iconst 0, 1) := by decide +kernel
theorem dX7_restore_21 : decode cX7_restore 21 = .ok (.invokestatic 54, 3) := by decide +kernel
theorem dX7_restore_24 : decode cX7_restore 24 = .ok (.aload_n 0, 1) := by decide +kernel
theorem dX7_restore_25 : decode cX7_restore 25 = .ok (.iconst 0, 1) := by decide +kernel
theorem dX7_restore_26 : decode cX7_restore 26 = .ok (.putfield 58, 3) := by decide +kernel
theorem dX7_restore_29 : decode cX7_restore 29 = .ok (.aload_n 0, 1) := by decide +kernel
theorem dX7_restore_30 : decode cX7_restore 30 = .ok (.getfield 9, 3) := by decide +kernel
theorem dX7_restore_33 : decode cX7_restore 33 = .ok (.iconst 0, 1) := by decide +kernel
theorem dX7_restore_34 : decode cX7_restore 34 = .ok (.iaload, 1) := by decide +kernel
theorem dX7_restore_35 : decode cX7_restore 35 = .ok (.ireturn, 1) := by decide +kernel
theorem dX7_rotate_0 : decode cX7_rotate 0 = .ok (.aload_n 0, 1) := by decide +kernel
theorem dX7_rotate_1 : decode cX7_rotate 1 = .ok (.invokevirtual 117, 3) := by decide +kernel
theorem dX7_rotate_4 : decode cX7_rotate 4 = .ok (.aload_n 0, 1) := by decide +kernel
theorem dX7_rotate_5 : decode cX7_rotate 5 = .ok (.aload_n 0, 1) := by decide +kernel
theorem dX7_rotate_6 : decode cX7_rotate 6 = .ok (.iload_n 1, 1) := by decide +kernel
theorem dX7_rotate_7 : decode cX7_rotate 7 = .ok (.iload_n 2, 1) := by decide +kernel
theorem dX7_rotate_8 : decode cX7_rotate 8 = .ok (.invokevirtual 145, 3) := by decide +kernel
theorem dX7_rotate_11 : decode cX7_rotate 11 = .ok (.invokevirtual 124, 3) := by decide +kernel
theorem dX7_rotate_14 : decode cX7_rotate 14 = .ok (.ireturn, 1) := by decide +kernel
theorem dX7_rotates_0 : decode cX7_rotates 0 = .ok (.aload_n 0, 1) := by decide +kernel
theorem dX7_rotates_1 : decode cX7_rotates 1 = .ok (.iload_n 1, 1) := by decide +kernel
theorem dX7_rotates_2 : decode cX7_rotates 2 = .ok (.iload_n 2, 1) := by decide +kernel
theorem dX7_rotates_3 : decode cX7_rotates 3 = .ok (.invokevirtual 127, 3) := by decide +kernel
theorem dX7_rotates_6 : decode cX7_rotates 6 = .ok (.ifCond .ne 7, 3) := by decide +kernel
theorem dX7_rotates_9 : decode cX7_rotates 9 = .ok (.sipush (-1001), 3) := by decide +kernel
theorem dX7_rotates_12 : decode cX7_rotates 12 = .ok (.ireturn, 1) := by decide +kernel
theorem dX7_rotates_13 : decode cX7_rotates 13 = .ok (.aload_n 0, 1) := by decide +kernel
theorem dX7_rotates_14 : decode cX7_rotates 14 = .ok (.iload_n 1, 1) := by decide +kernel
theorem dX7_rotates_15 : decode cX7_rotates 15 = .ok (.invokevirtual 130, 3) := by decide +kernel
theorem dX7_rotates_18 : decode cX7_rotates 18 = .ok (.ifCond .eq 10, 3) := by decide +kernel
theorem dX7_rotates_21 : decode cX7_rotates 21 = .ok (.aload_n 0, 1) := by decide +kernel
theorem dX7_rotates_22 : decode cX7_rotates 22 = .ok (.iconst 2, 1) := by decide +kernel
theorem dX7_rotates_23 : decode cX7_rotates 23 = .ok (.iload_n 1, 1) := by decide +kernel
theorem dX7_rotates_24 : decode cX7_rotates 24 = .ok (.invokevirtual 101, 3) := by decide +kernel
theorem dX7_rotates_27 : decode cX7_rotates 27 = .ok (.ireturn, 1) := by decide +kernel
theorem dX7_rotates_28 : decode cX7_rotates 28 = .ok (.aload_n 0, 1) := by decide +kernel
theorem dX7_rotates_29 : decode cX7_rotates 29 = .ok (.iload_n 1, 1) := by decide +kernel
theorem dX7_rotates_30 : decode cX7_rotates 30 = .ok (.invokevirtual 81, 3) := by decide +kernel
theorem dX7_rotates_33 : decode cX7_rotates 33 = .ok (.ifCond .ne 10, 3) := by decide +kernel
theorem dX7_rotates_36 : decode cX7_rotates 36 = .ok (.aload_n 0, 1) := by decide +kernel
theorem dX7_rotates_37 : decode cX7_rotates 37 = .ok (.iconst 3, 1) := by decide +kernel
theorem dX7_rotates_38 : decode cX7_rotates 38 = .ok (.iload_n 1, 1) := by decide +kernel
theorem dX7_rotates_39 : decode cX7_rotates 39 = .ok (.invokevirtual 101, 3) := by decide +kernel
theorem dX7_rotates_42 : decode cX7_rotates 42 = .ok (.ireturn, 1) := by decide +kernel
theorem dX7_rotates_43 : decode cX7_rotates 43 = .ok (.aload_n 0, 1) := by decide +kernel
theorem dX7_rotates_44 : decode cX7_rotates 44 = .ok (.iload_n 1, 1) := by decide +kernel
theorem dX7_rotates_45 : decode cX7_rotates 45 = .ok (.iconst 1, 1) := by decide +kernel
theorem dX7_rotates_46 : decode cX7_rotates 46 = .ok (.invokevirtual 78, 3) := by decide +kernel
theorem dX7_rotates_49 : decode cX7_rotates 49 = .ok (.istore_n 3, 1) := by decide +kernel
theorem dX7_rotates_50 : decode cX7_rotates 50 = .ok (.iconst 0, 1) := by decide +kernel
theorem dX7_rotates_51 : decode cX7_rotates 51 = .ok (.istore 4, 2) := by decide +kernel
theorem dX7_rotates_53 : decode cX7_rotates 53 = .ok (.iload 4, 2) := by decide +kernel
theorem dX7_rotates_55 : decode cX7_rotates 55 = .ok (.iload_n 3, 1) := by decide +kernel
theorem dX7_rotates_56 : decode cX7_rotates 56 = .ok (.if_icmp .ge 45, 3) := by decide +kernel
theorem dX7_rotates_59 : decode cX7_rotates 59 = .ok (.aload_n 0, 1) := by decide +kernel
theorem dX7_rotates_60 : decode cX7_rotates 60 = .ok (.getfield 22, 3) := by decide +kernel
theorem dX7_rotates_63 : decode cX7_rotates 63 = .ok (.iload 4, 2) := by decide +kernel
theorem dX7_rotates_65 : decode cX7_rotates 65 = .ok (.aload_n 0, 1) := by decide +kernel
theorem dX7_rotates_66 : decode cX7_rotates 66 = .ok (.iload_n 1, 1) := by decide +kernel
theorem dX7_rotates_67 : decode cX7_rotates 67 = .ok (.iload_n 2, 1) := by decide +kernel
theorem dX7_rotates_68 : decode cX7_rotates 68 = .ok (.iload 4, 2) := by decide +kernel
theorem dX7_rotates_70 : decode cX7_rotates 70 = .ok (.iadd, 1) := by decide +kernel
theorem dX7_rotates_71 : decode cX7_rotates 71 = .ok (.iload_n 3, 1) := by decide +kernel
theorem dX7_rotates_72 : decode cX7_rotates 72 = .ok (.irem, 1) := by decide +kernel
theorem dX7_rotates_73 : decode cX7_rotates 73 = .ok (.invokevirtual 142, 3) := by decide +kernel
theorem dX7_rotates_76 : decode cX7_rotates 76 = .ok (.iastore, 1) := by decide +kernel
theorem dX7_rotates_77 : decode cX7_rotates 77 = .ok (.aload_n 0, 1) := by decide +kernel
theorem dX7_rotates_78 : decode cX7_rotates 78 = .ok (.getfield 25, 3) := by decide +kernel
theorem dX7_rotates_81 : decode cX7_rotates 81 = .ok (.iload 4, 2) := by decide +kernel
theorem dX7_rotates_83 : decode cX7_rotates 83 = .ok (.aload_n 0, 1) := by decide +kernel
theorem dX7_rotates_84 : decode cX7_rotates 84 = .ok (.iload_n 1, 1) := by decide +kernel
theorem dX7_rotates_85 : decode cX7_rotates 85 = .ok (.iload_n 2, 1) := by decide +kernel
theorem dX7_rotates_86 : decode cX7_rotates 86 = .ok (.iload 4, 2) := by decide +kernel
theorem dX7_rotates_88 : decode cX7_rotates 88 = .ok (.iadd, 1) := by decide +kernel
theorem dX7_rotates_89 : decode cX7_rotates 89 = .ok (.iload_n 3, 1) := by decide +kernel
theorem dX7_rotates_90 : decode cX7_rotates 90 = .ok (.irem, 1) := by decide +kernel
theorem dX7_rotates_91 : decode cX7_rotates 91 = .ok (.invokevirtual 92, 3) := by decide +kernel
theorem dX7_rotates_94 : decode cX7_rotates 94 = .ok (.iastore, 1) := by decide +kernel
theorem dX7_rotates_95 : decode cX7_rotates 95 = .ok (.iinc 4 1, 3) := by decide +kernel
theorem dX7_rotates_98 : decode cX7_rotates 98 = .ok (.goto (-45), 3) := by decide +kernel
theorem dX7_rotates_101 : decode cX7_rotates 101 = .ok (.iconst 0, 1) := by decide +kernel
theorem dX7_rotates_102 : decode cX7_rotates 102 = .ok (.istore 4, 2) := by decide +kernel
theorem dX7_rotates_104 : decode cX7_rotates 104 = .ok (.iconst 0, 1) := by decide +kernel
theorem dX7_rotates_105 : decode cX7_rotates 105 = .ok (.istore 5, 2) := by decide +kernel
theorem dX7_rotates_107 : decode cX7_rotates 107 = .ok (.iload 5, 2) := by decide +kernel
theorem dX7_rotates_109 : decode cX7_rotates 109 = .ok (.iload_n 3, 1) := by decide +kernel
theorem dX7_rotates_110 : decode cX7_rotates 110 = .ok (.if_icmp .ge 65, 3) := by decide +kernel
theorem dX7_rotates_113 : decode cX7_rotates 113 = .ok (.aload_n 0, 1) := by decide +kernel
theorem dX7_rotates_114 : decode cX7_rotates 114 = .ok (.getfield 9, 3) := by decide +kernel
theorem dX7_rotates_117 : decode cX7_rotates 117 = .ok (.iload_n 1, 1) := by decide +kernel
theorem dX7_rotates_118 : decode cX7_rotates 118 = .ok (.iconst 3, 1) := by decide +kernel
theorem dX7_rotates_119 : decode cX7_rotates 119 = .ok (.iload 5, 2) := by decide +kernel
theorem dX7_rotates_121 : decode cX7_rotates 121 = .ok (.iadd, 1) := by decide +kernel
theorem dX7_rotates_122 : decode cX7_rotates 122 = .ok (.invokestatic 74, 3) := by decide +kernel
theorem dX7_rotates_125 : decode cX7_rotates 125 = .ok (.aload_n 0, 1) := by decide +kernel
theorem dX7_rotates_126 : decode cX7_rotates 126 = .ok (.getfield 22, 3) := by decide +kernel
theorem dX7_rotates_129 : decode cX7_rotates 129 = .ok (.iload 5, 2) := by decide +kernel
theorem dX7_rotates_131 : decode cX7_rotates 131 = .ok (.iaload, 1) := by decide +kernel
theorem dX7_rotates_132 : decode cX7_rotates 132 = .ok (.iastore, 1) := by decide +kernel
theorem dX7_rotates_133 : decode cX7_rotates 133 = .ok (.aload_n 0, 1) := by decide +kernel
theorem dX7_rotates_134 : decode cX7_rotates 134 = .ok (.getfield 9, 3) := by decide +kernel
theorem dX7_rotates_137 : decode cX7_rotates 137 = .ok (.iload_n 1, 1) := by decide +kernel
theorem dX7_rotates_138 : decode cX7_rotates 138 = .ok (.bipush 11, 2) := by decide +kernel
theorem dX7_rotates_140 : decode cX7_rotates 140 = .ok (.iload 5, 2) := by decide +kernel
theorem dX7_rotates_142 : decode cX7_rotates 142 = .ok (.iadd, 1) := by decide +kernel
theorem dX7_rotates_143 : decode cX7_rotates 143 = .ok (.invokestatic 74, 3) := by decide +kernel
theorem dX7_rotates_146 : decode cX7_rotates 146 = .ok (.aload_n 0, 1) := by decide +kernel
theorem dX7_rotates_147 : decode cX7_rotates 147 = .ok (.getfield 25, 3) := by decide +kernel
theorem dX7_rotates_150 : decode cX7_rotates 150 = .ok (.iload 5, 2) := by decide +kernel
theorem dX7_rotates_152 : decode cX7_rotates 152 = .ok (.iaload, 1) := by decide +kernel
theorem dX7_rotates_153 : decode cX7_rotates 153 = .ok (.iastore, 1) := by decide +kernel
theorem dX7_rotates_154 : decode cX7_rotates 154 = .ok (.bipush 10, 2) := by decide +kernel
theorem dX7_rotates_156 : decode cX7_rotates 156 = .ok (.iload 4, 2) := by decide +kernel
theorem dX7_rotates_158 : decode cX7_rotates 158 = .ok (.imul, 1) := by decide +kernel
theorem dX7_rotates_159 : decode cX7_rotates 159 = .ok (.aload_n 0, 1) := by decide +kernel
theorem dX7_rotates_160 : decode cX7_rotates 160 = .ok (.getfield 22, 3) := by decide +kernel
theorem dX7_rotates_163 : decode cX7_rotates 163 = .ok (.iload 5, 2) := by decide +kernel
theorem dX7_rotates_165 : decode cX7_rotates 165 = .ok (.iaload, 1) := by decide +kernel
theorem dX7_rotates_166 : decode cX7_rotates 166 = .ok (.iadd, 1) := by decide +kernel
theorem dX7_rotates_167 : decode cX7_rotates 167 = .ok (.istore 4, 2) := by decide +kernel
theorem dX7_rotates_169 : decode cX7_rotates 169 = .ok (.iinc 5 1, 3) := by decide +kernel
theorem dX7_rotates_172 : decode cX7_rotates 172 = .ok (.goto (-65), 3) := by decide +kernel
theorem dX7_rotates_175 : decode cX7_rotates 175 = .ok (.iload 4, 2) := by decide +kernel
theorem dX7_rotates_177 : decode cX7_rotates 177 = .ok (.ireturn, 1) := by decide +kernel
theorem dX7_save_0 : decode cX7_save 0 = .ok (.aload_n 0, 1) := by decide +kernel
theorem dX7_save_1 : decode cX7_save 1 = .ok (.getfield 9, 3) := by decide +kernel
theorem dX7_save_4 : decode cX7_save 4 = .ok (.iconst 0, 1) := by decide +kernel
theorem dX7_save_5 : decode cX7_save 5 = .ok (.aload_n 0, 1) := by decide +kernel
theorem dX7_save_6 : decode cX7_save 6 = .ok (.getfield 16, 3) := by decide +kernel
theorem dX7_save_9 : decode cX7_save 9 = .ok (.iconst 0, 1) := by decide +kernel
theorem dX7_save_10 : decode cX7_save 10 = .ok (.invokestatic 54, 3) := by decide +kernel
theorem dX7_save_13 : decode cX7_save 13 = .ok (.aload_n 0, 1) := by decide +kernel
theorem dX7_save_14 : decode cX7_save 14 = .ok (.iconst 1, 1) := by decide +kernel
theorem dX7_save_15 : decode cX7_save 15 = .ok (.putfield 363, 3) := by decide +kernel
theorem dX7_save_18 : decode cX7_save 18 = .ok (.aload_n 0, 1) := by decide +kernel
theorem dX7_save_19 : decode cX7_save 19 = .ok (.getfield 9, 3) := by decide +kernel
theorem dX7_save_22 : decode cX7_save 22 = .ok (.iconst 0, 1) := by decide +kernel
theorem dX7_save_23 : decode cX7_save 23 = .ok (.iaload, 1) := by decide +kernel
theorem dX7_save_24 : decode cX7_save 24 = .ok (.ireturn, 1) := by decide +kernel
theorem dX7_share_0 : decode cX7_share 0 = .ok (.aload_n 0, 1) := by decide +kernel
theorem dX7_share_1 : decode cX7_share 1 = .ok (.getfield 9, 3) := by decide +kernel
theorem dX7_share_4 : decode cX7_share 4 = .ok (.iconst 0, 1) := by decide +kernel
theorem dX7_share_5 : decode cX7_share 5 = .ok (.iaload, 1) := by decide +kernel
theorem dX7_share_6 : decode cX7_share 6 = .ok (.ifCond .ne 7, 3) := by decide +kernel
theorem dX7_share_9 : decode cX7_share 9 = .ok (.sipush (-1004), 3) := by decide +kernel
theorem dX7_share_12 : decode cX7_share 12 = .ok (.ireturn, 1) := by decide +kernel
theorem dX7_share_13 : decode cX7_share 13 = .ok (.aload_n 0, 1) := by decide +kernel
theorem dX7_share_14 : decode cX7_share 14 = .ok (.iconst 3, 1) := by decide +kernel
theorem dX7_share_15 : decode cX7_share 15 = .ok (.invokevirtual 351, 3) := by decide +kernel
theorem dX7_share_18 : decode cX7_share 18 = .ok (.aload_n 0, 1) := by decide +kernel
theorem dX7_share_19 : decode cX7_share 19 = .ok (.iconst 4, 1) := by decide +kernel
theorem dX7_share_20 : decode cX7_share 20 = .ok (.invokevirtual 351, 3) := by decide +kernel
theorem dX7_share_23 : decode cX7_share 23 = .ok (.iadd, 1) := by decide +kernel
theorem dX7_share_24 : decode cX7_share 24 = .ok (.i2f, 1) := by decide +kernel
theorem dX7_share_25 : decode cX7_share 25 = .ok (.aload_n 0, 1) := by decide +kernel
theorem dX7_share_26 : decode cX7_share 26 = .ok (.iconst 2, 1) := by decide +kernel
theorem dX7_share_27 : decode cX7_share 27 = .ok (.invokevirtual 351, 3) := by decide +kernel
theorem dX7_share_30 : decode cX7_share 30 = .ok (.i2f, 1) := by decide +kernel
theorem dX7_share_31 : decode cX7_share 31 = .ok (.fdiv, 1) := by decide +kernel
theorem dX7_share_32 : decode cX7_share 32 = .ok (.invokestatic 357, 3) := by decide +kernel
theorem dX7_share_35 : decode cX7_share 35 = .ok (.ireturn, 1) := by decide +kernel
theorem dX7_sign_0 : decode cX7_sign 0 = .ok (.aload_n 0, 1) := by decide +kernel
theorem dX7_sign_1 : decode cX7_sign 1 = .ok (.getfield 294, 3) := by decide +kernel
theorem dX7_sign_4 : decode cX7_sign 4 = .ok (.aload_n 0, 1) := by decide +kernel
theorem dX7_sign_5 : decode cX7_sign 5 = .ok (.getfield 291, 3) := by decide +kernel
theorem dX7_sign_8 : decode cX7_sign 8 = .ok (.if_icmp .ge 15, 3) := by decide +kernel
theorem dX7_sign_11 : decode cX7_sign 11 = .ok (.aload_n 0, 1) := by decide +kernel
theorem dX7_sign_12 : decode cX7_sign 12 = .ok (.getfield 47, 3) := by decide +kernel
theorem dX7_sign_15 : decode cX7_sign 15 = .ok (.aload_n 0, 1) := by decide +kernel
theorem dX7_sign_16 : decode cX7_sign 16 = .ok (.getfield 294, 3) := by decide +kernel
theorem dX7_sign_19 : decode cX7_sign 19 = .ok (.iaload, 1) := by decide +kernel
theorem dX7_sign_20 : decode cX7_sign 20 = .ok (.goto 4, 3) := by decide +kernel
theorem dX7_sign_23 : decode cX7_sign 23 = .ok (.iconst (-1), 1) := by decide +kernel
theorem dX7_sign_24 : decode cX7_sign 24 = .ok (.ireturn, 1) := by decide +kernel
theorem dX7_size_0 : decode cX7_size 0 = .ok (.aload_n 0, 1) := by decide +kernel
theorem dX7_size_1 : decode cX7_size 1 = .ok (.iload_n 1, 1) := by decide +kernel
theorem dX7_size_2 : decode cX7_size 2 = .ok (.invokevirtual 85, 3) := by decide +kernel
theorem dX7_size_5 : decode cX7_size 5 = .ok (.ifCond .eq 28, 3) := by decide +kernel
theorem dX7_size_8 : decode cX7_size 8 = .ok (.iload_n 2, 1) := by decide +kernel
theorem dX7_size_9 : decode cX7_size 9 = .ok (.iconst 0, 1) := by decide +kernel
theorem dX7_size_10 : decode cX7_size 10 = .ok (.aload_n 0, 1) := by decide +kernel
theorem dX7_size_11 : decode cX7_size 11 = .ok (.iload_n 1, 1) := by decide +kernel
theorem dX7_size_12 : decode cX7_size 12 = .ok (.iconst 1, 1) := by decide +kernel
theorem dX7_size_13 : decode cX7_size 13 = .ok (.invokevirtual 78, 3) := by decide +kernel
theorem dX7_size_16 : decode cX7_size 16 = .ok (.iconst 1, 1) := by decide +kernel
theorem dX7_size_17 : decode cX7_size 17 = .ok (.isub, 1) := by decide +kernel
theorem dX7_size_18 : decode cX7_size 18 = .ok (.invokestatic 61, 3) := by decide +kernel
theorem dX7_size_21 : decode cX7_size 21 = .ok (.ifCond .eq 12, 3) := by decide +kernel
theorem dX7_size_24 : decode cX7_size 24 = .ok (.aload_n 0, 1) := by decide +kernel
theorem dX7_size_25 : decode cX7_size 25 = .ok (.iload_n 1, 1) := by decide +kernel
theorem dX7_size_26 : decode cX7_size 26 = .ok (.iload_n 2, 1) := by decide +kernel
theorem dX7_size_27 : decode cX7_size 27 = .ok (.invokevirtual 142, 3) := by decide +kernel
theorem dX7_size_30 : decode cX7_size 30 = .ok (.goto 6, 3) := by decide +kernel
theorem dX7_size_33 : decode cX7_size 33 = .ok (.sipush (-1001), 3) := by decide +kernel
theorem dX7_size_36 : decode cX7_size 36 = .ok (.ireturn, 1) := by decide +kernel
theorem dX7_sizeOf_0 : decode cX7_sizeOf 0 = .ok (.aload_n 0, 1) := by decide +kernel
theorem dX7_sizeOf_1 : decode cX7_sizeOf 1 = .ok (.iload_n 1, 1) := by decide +kernel
theorem dX7_sizeOf_2 : decode cX7_sizeOf 2 = .ok (.iconst 3, 1) := by decide +kernel
theorem dX7_sizeOf_3 : decode cX7_sizeOf 3 = .ok (.iload_n 2, 1) := by decide +kernel
theorem dX7_sizeOf_4 : decode cX7_sizeOf 4 = .ok (.iadd, 1) := by decide +kernel
theorem dX7_sizeOf_5 : decode cX7_sizeOf 5 = .ok (.invokevirtual 78, 3) := by decide +kernel
theorem dX7_sizeOf_8 : decode cX7_sizeOf 8 = .ok (.ireturn, 1) := by decide +kernel
theorem dX7_stage_0 : decode cX7_stage 0 = .ok (.aload_n 0, 1) := by decide +kernel
theorem dX7_stage_1 : decode cX7_stage 1 = .ok (.invokevirtual 117, 3) := by decide +kernel
theorem dX7_stage_4 : decode cX7_stage 4 = .ok (.aload_n 0, 1) := by decide +kernel
theorem dX7_stage_5 : decode cX7_stage 5 = .ok (.aload_n 0, 1) := by decide +kernel
theorem dX7_stage_6 : decode cX7_stage 6 = .ok (.iload_n 1, 1) := by decide +kernel
theorem dX7_stage_7 : decode cX7_stage 7 = .ok (.invokevirtual 234, 3) := by decide +kernel
theorem dX7_stage_10 : decode cX7_stage 10 = .ok (.invokevirtual 124, 3) := by decide +kernel
theorem dX7_stage_13 : decode cX7_stage 13 = .ok (.ireturn, 1) := by decide +kernel
theorem dX7_stages_0 : decode cX7_stages 0 = .ok (.iload_n 1, 1) := by decide +kernel
theorem dX7_stages_1 : decode cX7_stages 1 = .ok (.iconst 1, 1) := by decide +kernel
theorem dX7_stages_2 : decode cX7_stages 2 = .ok (.bipush 99, 2) := by decide +kernel
theorem dX7_stages_4 : decode cX7_stages 4 = .ok (.invokestatic 61, 3) := by decide +kernel
theorem dX7_stages_7 : decode cX7_stages 7 = .ok (.ifCond .ne 7, 3) := by decide +kernel
theorem dX7_stages_10 : decode cX7_stages 10 = .ok (.sipush (-1002), 3) := by decide +kernel
theorem dX7_stages_13 : decode cX7_stages 13 = .ok (.ireturn, 1) := by decide +kernel
theorem dX7_stages_14 : decode cX7_stages 14 = .ok (.aload_n 0, 1) := by decide +kernel
theorem dX7_stages_15 : decode cX7_stages 15 = .ok (.invokevirtual 231, 3) := by decide +kernel
theorem dX7_stages_18 : decode cX7_stages 18 = .ok (.iload_n 1, 1) := by decide +kernel
theorem dX7_stages_19 : decode cX7_stages 19 = .ok (.if_icmp .le 16, 3) := by decide +kernel
theorem dX7_stages_22 : decode cX7_stages 22 = .ok (.aload_n 0, 1) := by decide +kernel
theorem dX7_stages_23 : decode cX7_stages 23 = .ok (.bipush 7, 2) := by decide +kernel
theorem dX7_stages_25 : decode cX7_stages 25 = .ok (.aload_n 0, 1) := by decide +kernel
theorem dX7_stages_26 : decode cX7_stages 26 = .ok (.invokevirtual 231, 3) := by decide +kernel
theorem dX7_stages_29 : decode cX7_stages 29 = .ok (.iload_n 1, 1) := by decide +kernel
theorem dX7_stages_30 : decode cX7_stages 30 = .ok (.isub, 1) := by decide +kernel
theorem dX7_stages_31 : decode cX7_stages 31 = .ok (.invokevirtual 101, 3) := by decide +kernel
theorem dX7_stages_34 : decode cX7_stages 34 = .ok (.ireturn, 1) := by decide +kernel
theorem dX7_stages_35 : decode cX7_stages 35 = .ok (.aload_n 0, 1) := by decide +kernel
theorem dX7_stages_36 : decode cX7_stages 36 = .ok (.getfield 9, 3) := by decide +kernel
theorem dX7_stages_39 : decode cX7_stages 39 = .ok (.iconst 1, 1) := by decide +kernel
theorem dX7_stages_40 : decode cX7_stages 40 = .ok (.iaload, 1) := by decide +kernel
theorem dX7_stages_41 : decode cX7_stages 41 = .ok (.istore_n 2, 1) := by decide +kernel
theorem dX7_stages_42 : decode cX7_stages 42 = .ok (.aload_n 0, 1) := by decide +kernel
theorem dX7_stages_43 : decode cX7_stages 43 = .ok (.getfield 9, 3) := by decide +kernel
theorem dX7_stages_46 : decode cX7_stages 46 = .ok (.iconst 1, 1) := by decide +kernel
theorem dX7_stages_47 : decode cX7_stages 47 = .ok (.iload_n 1, 1) := by decide +kernel
theorem dX7_stages_48 : decode cX7_stages 48 = .ok (.iastore, 1) := by decide +kernel
theorem dX7_stages_49 : decode cX7_stages 49 = .ok (.iload_n 2, 1) := by decide +kernel
theorem dX7_stages_50 : decode cX7_stages 50 = .ok (.ireturn, 1) := by decide +kernel
theorem dX7_step_0 : decode cX7_step 0 = .ok (.aload_n 0, 1) := by decide +kernel
theorem dX7_step_1 : decode cX7_step 1 = .ok (.iload_n 1, 1) := by decide +kernel
theorem dX7_step_2 : decode cX7_step 2 = .ok (.invokevirtual 85, 3) := by decide +kernel
theorem dX7_step_5 : decode cX7_step 5 = .ok (.ifCond .ne 7, 3) := by decide +kernel
theorem dX7_step_8 : decode cX7_step 8 = .ok (.sipush (-1001), 3) := by decide +kernel
theorem dX7_step_11 : decode cX7_step 11 = .ok (.ireturn, 1) := by decide +kernel
theorem dX7_step_12 : decode cX7_step 12 = .ok (.aload_n 0, 1) := by decide +kernel
theorem dX7_step_13 : decode cX7_step 13 = .ok (.iload_n 1, 1) := by decide +kernel
theorem dX7_step_14 : decode cX7_step 14 = .ok (.invokevirtual 196, 3) := by decide +kernel
theorem dX7_step_17 : decode cX7_step 17 = .ok (.aload_n 0, 1) := by decide +kernel
theorem dX7_step_18 : decode cX7_step 18 = .ok (.iload_n 1, 1) := by decide +kernel
theorem dX7_step_19 : decode cX7_step 19 = .ok (.iconst 0, 1) := by decide +kernel
theorem dX7_step_20 : decode cX7_step 20 = .ok (.invokevirtual 136, 3) := by decide +kernel
theorem dX7_step_23 : decode cX7_step 23 = .ok (.ifCond .le 7, 3) := by decide +kernel
theorem dX7_step_26 : decode cX7_step 26 = .ok (.iconst 0, 1) := by decide +kernel
theorem dX7_step_27 : decode cX7_step 27 = .ok (.goto 7, 3) := by decide +kernel
theorem dX7_step_30 : decode cX7_step 30 = .ok (.aload_n 0, 1) := by decide +kernel
theorem dX7_step_31 : decode cX7_step 31 = .ok (.invokevirtual 187, 3) := by decide +kernel
theorem dX7_step_34 : decode cX7_step 34 = .ok (.istore_n 2, 1) := by decide +kernel
theorem dX7_step_35 : decode cX7_step 35 = .ok (.iload_n 2, 1) := by decide +kernel
theorem dX7_step_36 : decode cX7_step 36 = .ok (.ifCond .ne 9, 3) := by decide +kernel
theorem dX7_step_39 : decode cX7_step 39 = .ok (.sipush (-1004), 3) := by decide +kernel
theorem dX7_step_42 : decode cX7_step 42 = .ok (.goto 4, 3) := by decide +kernel
theorem dX7_step_45 : decode cX7_step 45 = .ok (.iload_n 2, 1) := by decide +kernel
theorem dX7_step_46 : decode cX7_step 46 = .ok (.ireturn, 1) := by decide +kernel
theorem dX7_stepNow_0 : decode cX7_stepNow 0 = .ok (.aload_n 0, 1) := by decide +kernel
theorem dX7_stepNow_1 : decode cX7_stepNow 1 = .ok (.getfield 161, 3) := by decide +kernel
theorem dX7_stepNow_4 : decode cX7_stepNow 4 = .ok (.ifCond .ne 55, 3) := by decide +kernel
theorem dX7_stepNow_7 : decode cX7_stepNow 7 = .ok (.aload_n 0, 1) := by decide +kernel
theorem dX7_stepNow_8 : decode cX7_stepNow 8 = .ok (.getfield 165, 3) := by decide +kernel
theorem dX7_stepNow_11 : decode cX7_stepNow 11 = .ok (.iconst 1, 1) := by decide +kernel
theorem dX7_stepNow_12 : decode cX7_stepNow 12 = .ok (.if_icmp .le 47, 3) := by decide +kernel
theorem dX7_stepNow_15 : decode cX7_stepNow 15 = .ok (.aload_n 0, 1) := by decide +kernel
theorem dX7_stepNow_16 : decode cX7_stepNow 16 = .ok (.getfield 28, 3) := by decide +kernel
theorem dX7_stepNow_19 : decode cX7_stepNow 19 = .ok (.iconst 0, 1) := by decide +kernel
theorem dX7_stepNow_20 : decode cX7_stepNow 20 = .ok (.iaload, 1) := by decide +kernel
theorem dX7_stepNow_21 : decode cX7_stepNow 21 = .ok (.aload_n 0, 1) := by decide +kernel
theorem dX7_stepNow_22 : decode cX7_stepNow 22 = .ok (.getfield 28, 3) := by decide +kernel
theorem dX7_stepNow_25 : decode cX7_stepNow 25 = .ok (.iconst 1, 1) := by decide +kernel
theorem dX7_stepNow_26 : decode cX7_stepNow 26 = .ok (.iaload, 1) := by decide +kernel
theorem dX7_stepNow_27 : decode cX7_stepNow 27 = .ok (.if_icmp .gt 5, 3) := by decide +kernel
theorem dX7_stepNow_30 : decode cX7_stepNow 30 = .ok (.iconst 1, 1) := by decide +kernel
theorem dX7_stepNow_31 : decode cX7_stepNow 31 = .ok (.ireturn, 1) := by decide +kernel
theorem dX7_stepNow_32 : decode cX7_stepNow 32 = .ok (.aload_n 0, 1) := by decide +kernel
theorem dX7_stepNow_33 : decode cX7_stepNow 33 = .ok (.getfield 28, 3) := by decide +kernel
theorem dX7_stepNow_36 : decode cX7_stepNow 36 = .ok (.aload_n 0, 1) := by decide +kernel
theorem dX7_stepNow_37 : decode cX7_stepNow 37 = .ok (.getfield 165, 3) := by decide +kernel
theorem dX7_stepNow_40 : decode cX7_stepNow 40 = .ok (.iconst 1, 1) := by decide +kernel
theorem dX7_stepNow_41 : decode cX7_stepNow 41 = .ok (.isub, 1) := by decide +kernel
theorem dX7_stepNow_42 : decode cX7_stepNow 42 = .ok (.iaload, 1) := by decide +kernel
theorem dX7_stepNow_43 : decode cX7_stepNow 43 = .ok (.aload_n 0, 1) := by decide +kernel
theorem dX7_stepNow_44 : decode cX7_stepNow 44 = .ok (.getfield 28, 3) := by decide +kernel
theorem dX7_stepNow_47 : decode cX7_stepNow 47 = .ok (.aload_n 0, 1) := by decide +kernel
theorem dX7_stepNow_48 : decode cX7_stepNow 48 = .ok (.getfield 165, 3) := by decide +kernel
theorem dX7_stepNow_51 : decode cX7_stepNow 51 = .ok (.iconst 2, 1) := by decide +kernel
theorem dX7_stepNow_52 : decode cX7_stepNow 52 = .ok (.isub, 1) := by decide +kernel
theorem dX7_stepNow_53 : decode cX7_stepNow 53 = .ok (.iaload, 1) := by decide +kernel
theorem dX7_stepNow_54 : decode cX7_stepNow 54 = .ok (.if_icmp .gt 5, 3) := by decide +kernel
theorem dX7_stepNow_57 : decode cX7_stepNow 57 = .ok (.iconst 2, 1) := by decide +kernel
theorem dX7_stepNow_58 : decode cX7_stepNow 58 = .ok (.ireturn, 1) := by decide +kernel
theorem dX7_stepNow_59 : decode cX7_stepNow 59 = .ok (.aload_n 0, 1) := by decide +kernel
theorem dX7_stepNow_60 : decode cX7_stepNow 60 = .ok (.invokevirtual 168, 3) := by decide +kernel
theorem dX7_stepNow_63 : decode cX7_stepNow 63 = .ok (.istore_n 1, 1) := by decide +kernel
theorem dX7_stepNow_64 : decode cX7_stepNow 64 = .ok (.iload_n 1, 1) := by decide +kernel
theorem dX7_stepNow_65 : decode cX7_stepNow 65 = .ok (.ifCond .ge 7, 3) := by decide +kernel
theorem dX7_stepNow_68 : decode cX7_stepNow 68 = .ok (.iconst 0, 1) := by decide +kernel
theorem dX7_stepNow_69 : decode cX7_stepNow 69 = .ok (.goto 7, 3) := by decide +kernel
theorem dX7_stepNow_72 : decode cX7_stepNow 72 = .ok (.bipush 10, 2) := by decide +kernel
theorem dX7_stepNow_74 : decode cX7_stepNow 74 = .ok (.iload_n 1, 1) := by decide +kernel
theorem dX7_stepNow_75 : decode cX7_stepNow 75 = .ok (.iadd, 1) := by decide +kernel
theorem dX7_stepNow_76 : decode cX7_stepNow 76 = .ok (.ireturn, 1) := by decide +kernel
theorem dX7_steps_0 : decode cX7_steps 0 = .ok (.aload_n 0, 1) := by decide +kernel
theorem dX7_steps_1 : decode cX7_steps 1 = .ok (.iload_n 1, 1) := by decide +kernel
theorem dX7_steps_2 : decode cX7_steps 2 = .ok (.invokevirtual 85, 3) := by decide +kernel
theorem dX7_steps_5 : decode cX7_steps 5 = .ok (.ifCond .ne 7, 3) := by decide +kernel
theorem dX7_steps_8 : decode cX7_steps 8 = .ok (.sipush (-1001), 3) := by decide +kernel
theorem dX7_steps_11 : decode cX7_steps 11 = .ok (.ireturn, 1) := by decide +kernel
theorem dX7_steps_12 : decode cX7_steps 12 = .ok (.aload_n 0, 1) := by decide +kernel
theorem dX7_steps_13 : decode cX7_steps 13 = .ok (.iload_n 1, 1) := by decide +kernel
theorem dX7_steps_14 : decode cX7_steps 14 = .ok (.invokevirtual 196, 3) := by decide +kernel
theorem dX7_steps_17 : decode cX7_steps 17 = .ok (.aload_n 0, 1) := by decide +kernel
theorem dX7_steps_18 : decode cX7_steps 18 = .ok (.iload_n 1, 1) := by decide +kernel
theorem dX7_steps_19 : decode cX7_steps 19 = .ok (.iconst 0, 1) := by decide +kernel
theorem dX7_steps_20 : decode cX7_steps 20 = .ok (.invokevirtual 136, 3) := by decide +kernel
theorem dX7_steps_23 : decode cX7_steps 23 = .ok (.ifCond .le 9, 3) := by decide +kernel
theorem dX7_steps_26 : decode cX7_steps 26 = .ok (.sipush (-1004), 3) := by decide +kernel
theorem dX7_steps_29 : decode cX7_steps 29 = .ok (.goto 7, 3) := by decide +kernel
theorem dX7_steps_32 : decode cX7_steps 32 = .ok (.aload_n 0, 1) := by decide +kernel
theorem dX7_steps_33 : decode cX7_steps 33 = .ok (.invokevirtual 193, 3) := by decide +kernel
theorem dX7_steps_36 : decode cX7_steps 36 = .ok (.ireturn, 1) := by decide +kernel
theorem dX7_sumOf_0 : decode cX7_sumOf 0 = .ok (.iconst 0, 1) := by decide +kernel
theorem dX7_sumOf_1 : decode cX7_sumOf 1 = .ok (.istore_n 2, 1) := by decide +kernel
theorem dX7_sumOf_2 : decode cX7_sumOf 2 = .ok (.iconst 0, 1) := by decide +kernel
theorem dX7_sumOf_3 : decode cX7_sumOf 3 = .ok (.istore_n 3, 1) := by decide +kernel
theorem dX7_sumOf_4 : decode cX7_sumOf 4 = .ok (.iload_n 3, 1) := by decide +kernel
theorem dX7_sumOf_5 : decode cX7_sumOf 5 = .ok (.aload_n 0, 1) := by decide +kernel
theorem dX7_sumOf_6 : decode cX7_sumOf 6 = .ok (.iload_n 1, 1) := by decide +kernel
theorem dX7_sumOf_7 : decode cX7_sumOf 7 = .ok (.iconst 1, 1) := by decide +kernel
theorem dX7_sumOf_8 : decode cX7_sumOf 8 = .ok (.invokevirtual 78, 3) := by decide +kernel
theorem dX7_sumOf_11 : decode cX7_sumOf 11 = .ok (.if_icmp .ge 18, 3) := by decide +kernel
theorem dX7_sumOf_14 : decode cX7_sumOf 14 = .ok (.iload_n 2, 1) := by decide +kernel
theorem dX7_sumOf_15 : decode cX7_sumOf 15 = .ok (.aload_n 0, 1) := by decide +kernel
theorem dX7_sumOf_16 : decode cX7_sumOf 16 = .ok (.iload_n 1, 1) := by decide +kernel
theorem dX7_sumOf_17 : decode cX7_sumOf 17 = .ok (.iload_n 3, 1) := by decide +kernel
theorem dX7_sumOf_18 : decode cX7_sumOf 18 = .ok (.invokevirtual 142, 3) := by decide +kernel
theorem dX7_sumOf_21 : decode cX7_sumOf 21 = .ok (.iadd, 1) := by decide +kernel
theorem dX7_sumOf_22 : decode cX7_sumOf 22 = .ok (.istore_n 2, 1) := by decide +kernel
theorem dX7_sumOf_23 : decode cX7_sumOf 23 = .ok (.iinc 3 1, 3) := by decide +kernel
theorem dX7_sumOf_26 : decode cX7_sumOf 26 = .ok (.goto (-22), 3) := by decide +kernel
theorem dX7_sumOf_29 : decode cX7_sumOf 29 = .ok (.iload_n 2, 1) := by decide +kernel
theorem dX7_sumOf_30 : decode cX7_sumOf 30 = .ok (.ireturn, 1) := by decide +kernel
theorem dX7_sumOfNew_0 : decode cX7_sumOfNew 0 = .ok (.iconst 0, 1) := by decide +kernel
theorem dX7_sumOfNew_1 : decode cX7_sumOfNew 1 = .ok (.istore_n 2, 1) := by decide +kernel
theorem dX7_sumOfNew_2 : decode cX7_sumOfNew 2 = .ok (.iconst 0, 1) := by decide +kernel
theorem dX7_sumOfNew_3 : decode cX7_sumOfNew 3 = .ok (.istore_n 3, 1) := by decide +kernel
theorem dX7_sumOfNew_4 : decode cX7_sumOfNew 4 = .ok (.iload_n 3, 1) := by decide +kernel
theorem dX7_sumOfNew_5 : decode cX7_sumOfNew 5 = .ok (.iload_n 1, 1) := by decide +kernel
theorem dX7_sumOfNew_6 : decode cX7_sumOfNew 6 = .ok (.if_icmp .ge 18, 3) := by decide +kernel
theorem dX7_sumOfNew_9 : decode cX7_sumOfNew 9 = .ok (.iload_n 2, 1) := by decide +kernel
theorem dX7_sumOfNew_10 : decode cX7_sumOfNew 10 = .ok (.aload_n 0, 1) := by decide +kernel
theorem dX7_sumOfNew_11 : decode cX7_sumOfNew 11 = .ok (.getfield 22, 3) := by decide +kernel
theorem dX7_sumOfNew_14 : decode cX7_sumOfNew 14 = .ok (.iload_n 3, 1) := by decide +kernel
theorem dX7_sumOfNew_15 : decode cX7_sumOfNew 15 = .ok (.iaload, 1) := by decide +kernel
theorem dX7_sumOfNew_16 : decode cX7_sumOfNew 16 = .ok (.iadd, 1) := by decide +kernel
theorem dX7_sumOfNew_17 : decode cX7_sumOfNew 17 = .ok (.istore_n 2, 1) := by decide +kernel
theorem dX7_sumOfNew_18 : decode cX7_sumOfNew 18 = .ok (.iinc 3 1, 3) := by decide +kernel
theorem dX7_sumOfNew_21 : decode cX7_sumOfNew 21 = .ok (.goto (-17), 3) := by decide +kernel
theorem dX7_sumOfNew_24 : decode cX7_sumOfNew 24 = .ok (.iload_n 2, 1) := by decide +kernel
theorem dX7_sumOfNew_25 : decode cX7_sumOfNew 25 = .ok (.ireturn, 1) := by decide +kernel
theorem dX7_takes_0 : decode cX7_takes 0 = .ok (.aload_n 0, 1) := by decide +kernel
theorem dX7_takes_1 : decode cX7_takes 1 = .ok (.invokevirtual 297, 3) := by decide +kernel
theorem dX7_takes_4 : decode cX7_takes 4 = .ok (.iload_n 1, 1) := by decide +kernel
theorem dX7_takes_5 : decode cX7_takes 5 = .ok (.if_icmp .ne 7, 3) := by decide +kernel
theorem dX7_takes_8 : decode cX7_takes 8 = .ok (.iconst 1, 1) := by decide +kernel
theorem dX7_takes_9 : decode cX7_takes 9 = .ok (.goto 4, 3) := by decide +kernel
theorem dX7_takes_12 : decode cX7_takes 12 = .ok (.iconst 0, 1) := by decide +kernel
theorem dX7_takes_13 : decode cX7_takes 13 = .ok (.istore_n 2, 1) := by decide +kernel
theorem dX7_takes_14 : decode cX7_takes 14 = .ok (.aload_n 0, 1) := by decide +kernel
theorem dX7_takes_15 : decode cX7_takes 15 = .ok (.dup, 1) := by decide +kernel
theorem dX7_takes_16 : decode cX7_takes 16 = .ok (.getfield 294, 3) := by decide +kernel
theorem dX7_takes_19 : decode cX7_takes 19 = .ok (.iload_n 2, 1) := by decide +kernel
theorem dX7_takes_20 : decode cX7_takes 20 = .ok (.ifCond .eq 7, 3) := by decide +kernel
theorem dX7_takes_23 : decode cX7_takes 23 = .ok (.iconst 1, 1) := by decide +kernel
theorem dX7_takes_24 : decode cX7_takes 24 = .ok (.goto 4, 3) := by decide +kernel
theorem dX7_takes_27 : decode cX7_takes 27 = .ok (.iconst 0, 1) := by decide +kernel
theorem dX7_takes_28 : decode cX7_takes 28 = .ok (.iadd, 1) := by decide +kernel
theorem dX7_takes_29 : decode cX7_takes 29 = .ok (.putfield 294, 3) := by decide +kernel
theorem dX7_takes_32 : decode cX7_takes 32 = .ok (.iload_n 2, 1) := by decide +kernel
theorem dX7_takes_33 : decode cX7_takes 33 = .ok (.ireturn, 1) := by decide +kernel
theorem dX7_thickest_0 : decode cX7_thickest 0 = .ok (.aload_n 0, 1) := by decide +kernel
theorem dX7_thickest_1 : decode cX7_thickest 1 = .ok (.iload_n 1, 1) := by decide +kernel
theorem dX7_thickest_2 : decode cX7_thickest 2 = .ok (.invokevirtual 85, 3) := by decide +kernel
theorem dX7_thickest_5 : decode cX7_thickest 5 = .ok (.ifCond .ne 7, 3) := by decide +kernel
theorem dX7_thickest_8 : decode cX7_thickest 8 = .ok (.sipush (-1001), 3) := by decide +kernel
theorem dX7_thickest_11 : decode cX7_thickest 11 = .ok (.ireturn, 1) := by decide +kernel
theorem dX7_thickest_12 : decode cX7_thickest 12 = .ok (.aload_n 0, 1) := by decide +kernel
theorem dX7_thickest_13 : decode cX7_thickest 13 = .ok (.iload_n 1, 1) := by decide +kernel
theorem dX7_thickest_14 : decode cX7_thickest 14 = .ok (.invokevirtual 81, 3) := by decide +kernel
theorem dX7_thickest_17 : decode cX7_thickest 17 = .ok (.ifCond .eq 7, 3) := by decide +kernel
theorem dX7_thickest_20 : decode cX7_thickest 20 = .ok (.sipush (-1002), 3) := by decide +kernel
theorem dX7_thickest_23 : decode cX7_thickest 23 = .ok (.ireturn, 1) := by decide +kernel
theorem dX7_thickest_24 : decode cX7_thickest 24 = .ok (.iconst 0, 1) := by decide +kernel
theorem dX7_thickest_25 : decode cX7_thickest 25 = .ok (.istore_n 2, 1) := by decide +kernel
theorem dX7_thickest_26 : decode cX7_thickest 26 = .ok (.iconst 0, 1) := by decide +kernel
theorem dX7_thickest_27 : decode cX7_thickest 27 = .ok (.istore_n 3, 1) := by decide +kernel
theorem dX7_thickest_28 : decode cX7_thickest 28 = .ok (.iload_n 3, 1) := by decide +kernel
theorem dX7_thickest_29 : decode cX7_thickest 29 = .ok (.aload_n 0, 1) := by decide +kernel
theorem dX7_thickest_30 : decode cX7_thickest 30 = .ok (.iload_n 1, 1) := by decide +kernel
theorem dX7_thickest_31 : decode cX7_thickest 31 = .ok (.iconst 1, 1) := by decide +kernel
theorem dX7_thickest_32 : decode cX7_thickest 32 = .ok (.invokevirtual 78, 3) := by decide +kernel
theorem dX7_thickest_35 : decode cX7_thickest 35 = .ok (.if_icmp .ge 66, 3) := by decide +kernel
theorem dX7_thickest_38 : decode cX7_thickest 38 = .ok (.aload_n 0, 1) := by decide +kernel
theorem dX7_thickest_39 : decode cX7_thickest 39 = .ok (.iload_n 1, 1) := by decide +kernel
theorem dX7_thickest_40 : decode cX7_thickest 40 = .ok (.iload_n 3, 1) := by decide +kernel
theorem dX7_thickest_41 : decode cX7_thickest 41 = .ok (.invokevirtual 225, 3) := by decide +kernel
theorem dX7_thickest_44 : decode cX7_thickest 44 = .ok (.istore 4, 2) := by decide +kernel
theorem dX7_thickest_46 : decode cX7_thickest 46 = .ok (.aload_n 0, 1) := by decide +kernel
theorem dX7_thickest_47 : decode cX7_thickest 47 = .ok (.iload_n 1, 1) := by decide +kernel
theorem dX7_thickest_48 : decode cX7_thickest 48 = .ok (.iload_n 3, 1) := by decide +kernel
theorem dX7_thickest_49 : decode cX7_thickest 49 = .ok (.iconst 1, 1) := by decide +kernel
theorem dX7_thickest_50 : decode cX7_thickest 50 = .ok (.iadd, 1) := by decide +kernel
theorem dX7_thickest_51 : decode cX7_thickest 51 = .ok (.invokevirtual 225, 3) := by decide +kernel
theorem dX7_thickest_54 : decode cX7_thickest 54 = .ok (.istore 5, 2) := by decide +kernel
theorem dX7_thickest_56 : decode cX7_thickest 56 = .ok (.iload 4, 2) := by decide +kernel
theorem dX7_thickest_58 : decode cX7_thickest 58 = .ok (.iload 5, 2) := by decide +kernel
theorem dX7_thickest_60 : decode cX7_thickest 60 = .ok (.invokestatic 155, 3) := by decide +kernel
theorem dX7_thickest_63 : decode cX7_thickest 63 = .ok (.istore 6, 2) := by decide +kernel
theorem dX7_thickest_65 : decode cX7_thickest 65 = .ok (.iload 6, 2) := by decide +kernel
theorem dX7_thickest_67 : decode cX7_thickest 67 = .ok (.iload 4, 2) := by decide +kernel
theorem dX7_thickest_69 : decode cX7_thickest 69 = .ok (.iload 5, 2) := by decide +kernel
theorem dX7_thickest_71 : decode cX7_thickest 71 = .ok (.invokestatic 178, 3) := by decide +kernel
theorem dX7_thickest_74 : decode cX7_thickest 74 = .ok (.if_icmp .ge 21, 3) := by decide +kernel
theorem dX7_thickest_77 : decode cX7_thickest 77 = .ok (.iload_n 2, 1) := by decide +kernel
theorem dX7_thickest_78 : decode cX7_thickest 78 = .ok (.aload_n 0, 1) := by decide +kernel
theorem dX7_thickest_79 : decode cX7_thickest 79 = .ok (.iload_n 1, 1) := by decide +kernel
theorem dX7_thickest_80 : decode cX7_thickest 80 = .ok (.iload 6, 2) := by decide +kernel
theorem dX7_thickest_82 : decode cX7_thickest 82 = .ok (.invokevirtual 288, 3) := by decide +kernel
theorem dX7_thickest_85 : decode cX7_thickest 85 = .ok (.invokestatic 178, 3) := by decide +kernel
theorem dX7_thickest_88 : decode cX7_thickest 88 = .ok (.istore_n 2, 1) := by decide +kernel
theorem dX7_thickest_89 : decode cX7_thickest 89 = .ok (.iinc 6 1, 3) := by decide +kernel
theorem dX7_thickest_92 : decode cX7_thickest 92 = .ok (.goto (-27), 3) := by decide +kernel
theorem dX7_thickest_95 : decode cX7_thickest 95 = .ok (.iinc 3 1, 3) := by decide +kernel
theorem dX7_thickest_98 : decode cX7_thickest 98 = .ok (.goto (-70), 3) := by decide +kernel
theorem dX7_thickest_101 : decode cX7_thickest 101 = .ok (.iload_n 2, 1) := by decide +kernel
theorem dX7_thickest_102 : decode cX7_thickest 102 = .ok (.ireturn, 1) := by decide +kernel
theorem dX7_turn_0 : decode cX7_turn 0 = .ok (.aload_n 0, 1) := by decide +kernel
theorem dX7_turn_1 : decode cX7_turn 1 = .ok (.invokevirtual 117, 3) := by decide +kernel
theorem dX7_turn_4 : decode cX7_turn 4 = .ok (.aload_n 0, 1) := by decide +kernel
theorem dX7_turn_5 : decode cX7_turn 5 = .ok (.aload_n 0, 1) := by decide +kernel
theorem dX7_turn_6 : decode cX7_turn 6 = .ok (.iload_n 1, 1) := by decide +kernel
theorem dX7_turn_7 : decode cX7_turn 7 = .ok (.invokevirtual 139, 3) := by decide +kernel
theorem dX7_turn_10 : decode cX7_turn 10 = .ok (.invokevirtual 124, 3) := by decide +kernel
theorem dX7_turn_13 : decode cX7_turn 13 = .ok (.ireturn, 1) := by decide +kernel
theorem dX7_turns_0 : decode cX7_turns 0 = .ok (.aload_n 0, 1) := by decide +kernel
theorem dX7_turns_1 : decode cX7_turns 1 = .ok (.iload_n 1, 1) := by decide +kernel
theorem dX7_turns_2 : decode cX7_turns 2 = .ok (.invokevirtual 85, 3) := by decide +kernel
theorem dX7_turns_5 : decode cX7_turns 5 = .ok (.ifCond .ne 7, 3) := by decide +kernel
theorem dX7_turns_8 : decode cX7_turns 8 = .ok (.sipush (-1001), 3) := by decide +kernel
theorem dX7_turns_11 : decode cX7_turns 11 = .ok (.ireturn, 1) := by decide +kernel
theorem dX7_turns_12 : decode cX7_turns 12 = .ok (.aload_n 0, 1) := by decide +kernel
theorem dX7_turns_13 : decode cX7_turns 13 = .ok (.iload_n 1, 1) := by decide +kernel
theorem dX7_turns_14 : decode cX7_turns 14 = .ok (.invokevirtual 130, 3) := by decide +kernel
theorem dX7_turns_17 : decode cX7_turns 17 = .ok (.ifCond .eq 10, 3) := by decide +kernel
theorem dX7_turns_20 : decode cX7_turns 20 = .ok (.aload_n 0, 1) := by decide +kernel
theorem dX7_turns_21 : decode cX7_turns 21 = .ok (.iconst 2, 1) := by decide +kernel
theorem dX7_turns_22 : decode cX7_turns 22 = .ok (.iload_n 1, 1) := by decide +kernel
theorem dX7_turns_23 : decode cX7_turns 23 = .ok (.invokevirtual 101, 3) := by decide +kernel
theorem dX7_turns_26 : decode cX7_turns 26 = .ok (.ireturn, 1) := by decide +kernel
theorem dX7_turns_27 : decode cX7_turns 27 = .ok (.iconst 0, 1) := by decide +kernel
theorem dX7_turns_28 : decode cX7_turns 28 = .ok (.istore_n 2, 1) := by decide +kernel
theorem dX7_turns_29 : decode cX7_turns 29 = .ok (.iload_n 2, 1) := by decide +kernel
theorem dX7_turns_30 : decode cX7_turns 30 = .ok (.aload_n 0, 1) := by decide +kernel
theorem dX7_turns_31 : decode cX7_turns 31 = .ok (.iload_n 1, 1) := by decide +kernel
theorem dX7_turns_32 : decode cX7_turns 32 = .ok (.invokevirtual 88, 3) := by decide +kernel
theorem dX7_turns_35 : decode cX7_turns 35 = .ok (.if_icmp .ge 40, 3) := by decide +kernel
theorem dX7_turns_38 : decode cX7_turns 38 = .ok (.aload_n 0, 1) := by decide +kernel
theorem dX7_turns_39 : decode cX7_turns 39 = .ok (.iload_n 1, 1) := by decide +kernel
theorem dX7_turns_40 : decode cX7_turns 40 = .ok (.iload_n 2, 1) := by decide +kernel
theorem dX7_turns_41 : decode cX7_turns 41 = .ok (.invokevirtual 92, 3) := by decide +kernel
theorem dX7_turns_44 : decode cX7_turns 44 = .ok (.istore_n 3, 1) := by decide +kernel
theorem dX7_turns_45 : decode cX7_turns 45 = .ok (.aload_n 0, 1) := by decide +kernel
theorem dX7_turns_46 : decode cX7_turns 46 = .ok (.getfield 9, 3) := by decide +kernel
theorem dX7_turns_49 : decode cX7_turns 49 = .ok (.iload_n 1, 1) := by decide +kernel
theorem dX7_turns_50 : decode cX7_turns 50 = .ok (.bipush 11, 2) := by decide +kernel
theorem dX7_turns_52 : decode cX7_turns 52 = .ok (.iload_n 2, 1) := by decide +kernel
theorem dX7_turns_53 : decode cX7_turns 53 = .ok (.iadd, 1) := by decide +kernel
theorem dX7_turns_54 : decode cX7_turns 54 = .ok (.invokestatic 74, 3) := by decide +kernel
theorem dX7_turns_57 : decode cX7_turns 57 = .ok (.iload_n 3, 1) := by decide +kernel
theorem dX7_turns_58 : decode cX7_turns 58 = .ok (.ifCond .ne 7, 3) := by decide +kernel
theorem dX7_turns_61 : decode cX7_turns 61 = .ok (.iconst 0, 1) := by decide +kernel
theorem dX7_turns_62 : decode cX7_turns 62 = .ok (.goto 6, 3) := by decide +kernel
theorem dX7_turns_65 : decode cX7_turns 65 = .ok (.iconst 3, 1) := by decide +kernel
theorem dX7_turns_66 : decode cX7_turns 66 = .ok (.iload_n 3, 1) := by decide +kernel
theorem dX7_turns_67 : decode cX7_turns 67 = .ok (.isub, 1) := by decide +kernel
theorem dX7_turns_68 : decode cX7_turns 68 = .ok (.iastore, 1) := by decide +kernel
theorem dX7_turns_69 : decode cX7_turns 69 = .ok (.iinc 2 1, 3) := by decide +kernel
theorem dX7_turns_72 : decode cX7_turns 72 = .ok (.goto (-43), 3) := by decide +kernel
theorem dX7_turns_75 : decode cX7_turns 75 = .ok (.aload_n 0, 1) := by decide +kernel
theorem dX7_turns_76 : decode cX7_turns 76 = .ok (.iload_n 1, 1) := by decide +kernel
theorem dX7_turns_77 : decode cX7_turns 77 = .ok (.invokevirtual 88, 3) := by decide +kernel
theorem dX7_turns_80 : decode cX7_turns 80 = .ok (.aload_n 0, 1) := by decide +kernel
theorem dX7_turns_81 : decode cX7_turns 81 = .ok (.iload_n 1, 1) := by decide +kernel
theorem dX7_turns_82 : decode cX7_turns 82 = .ok (.iconst 0, 1) := by decide +kernel
theorem dX7_turns_83 : decode cX7_turns 83 = .ok (.invokevirtual 136, 3) := by decide +kernel
theorem dX7_turns_86 : decode cX7_turns 86 = .ok (.isub, 1) := by decide +kernel
theorem dX7_turns_87 : decode cX7_turns 87 = .ok (.ireturn, 1) := by decide +kernel
theorem dX7_undo_0 : decode cX7_undo 0 = .ok (.aload_n 0, 1) := by decide +kernel
theorem dX7_undo_1 : decode cX7_undo 1 = .ok (.getfield 58, 3) := by decide +kernel
theorem dX7_undo_4 : decode cX7_undo 4 = .ok (.ifCond .ne 7, 3) := by decide +kernel
theorem dX7_undo_7 : decode cX7_undo 7 = .ok (.sipush (-1004), 3) := by decide +kernel
theorem dX7_undo_10 : decode cX7_undo 10 = .ok (.ireturn, 1) := by decide +kernel
theorem dX7_undo_11 : decode cX7_undo 11 = .ok (.aload_n 0, 1) := by decide +kernel
theorem dX7_undo_12 : decode cX7_undo 12 = .ok (.dup, 1) := by decide +kernel
theorem dX7_undo_13 : decode cX7_undo 13 = .ok (.getfield 58, 3) := by decide +kernel
theorem dX7_undo_16 : decode cX7_undo 16 = .ok (.iconst 1, 1) := by decide +kernel
theorem dX7_undo_17 : decode cX7_undo 17 = .ok (.isub, 1) := by decide +kernel
theorem dX7_undo_18 : decode cX7_undo 18 = .ok (.putfield 58, 3) := by decide +kernel
theorem dX7_undo_21 : decode cX7_undo 21 = .ok (.aload_n 0, 1) := by decide +kernel
theorem dX7_undo_22 : decode cX7_undo 22 = .ok (.getfield 19, 3) := by decide +kernel
theorem dX7_undo_25 : decode cX7_undo 25 = .ok (.sipush 155, 3) := by decide +kernel
theorem dX7_undo_28 : decode cX7_undo 28 = .ok (.aload_n 0, 1) := by decide +kernel
theorem dX7_undo_29 : decode cX7_undo 29 = .ok (.getfield 58, 3) := by decide +kernel
theorem dX7_undo_32 : decode cX7_undo 32 = .ok (.imul, 1) := by decide +kernel
theorem dX7_undo_33 : decode cX7_undo 33 = .ok (.aload_n 0, 1) := by decide +kernel
theorem dX7_undo_34 : decode cX7_undo 34 = .ok (.getfield 9, 3) := by decide +kernel
theorem dX7_undo_37 : decode cX7_undo 37 = .ok (.iconst 0, 1) := by decide +kernel
theorem dX7_undo_38 : decode cX7_undo 38 = .ok (.invokestatic 54, 3) := by decide +kernel
theorem dX7_undo_41 : decode cX7_undo 41 = .ok (.aload_n 0, 1) := by decide +kernel
theorem dX7_undo_42 : decode cX7_undo 42 = .ok (.getfield 58, 3) := by decide +kernel
theorem dX7_undo_45 : decode cX7_undo 45 = .ok (.ireturn, 1) := by decide +kernel
theorem dX7_unfold_0 : decode cX7_unfold 0 = .ok (.aload_n 0, 1) := by decide +kernel
theorem dX7_unfold_1 : decode cX7_unfold 1 = .ok (.invokevirtual 117, 3) := by decide +kernel
theorem dX7_unfold_4 : decode cX7_unfold 4 = .ok (.aload_n 0, 1) := by decide +kernel
theorem dX7_unfold_5 : decode cX7_unfold 5 = .ok (.aload_n 0, 1) := by decide +kernel
theorem dX7_unfold_6 : decode cX7_unfold 6 = .ok (.iload_n 1, 1) := by decide +kernel
theorem dX7_unfold_7 : decode cX7_unfold 7 = .ok (.invokevirtual 243, 3) := by decide +kernel
theorem dX7_unfold_10 : decode cX7_unfold 10 = .ok (.invokevirtual 124, 3) := by decide +kernel
theorem dX7_unfold_13 : decode cX7_unfold 13 = .ok (.ireturn, 1) := by decide +kernel
theorem dX7_unfolds_0 : decode cX7_unfolds 0 = .ok (.aload_n 0, 1) := by decide +kernel
theorem dX7_unfolds_1 : decode cX7_unfolds 1 = .ok (.iload_n 1, 1) := by decide +kernel
theorem dX7_unfolds_2 : decode cX7_unfolds 2 = .ok (.invokevirtual 85, 3) := by decide +kernel
theorem dX7_unfolds_5 : decode cX7_unfolds 5 = .ok (.ifCond .ne 7, 3) := by decide +kernel
theorem dX7_unfolds_8 : decode cX7_unfolds 8 = .ok (.sipush (-1001), 3) := by decide +kernel
theorem dX7_unfolds_11 : decode cX7_unfolds 11 = .ok (.ireturn, 1) := by decide +kernel
theorem dX7_unfolds_12 : decode cX7_unfolds 12 = .ok (.aload_n 0, 1) := by decide +kernel
theorem dX7_unfolds_13 : decode cX7_unfolds 13 = .ok (.iload_n 1, 1) := by decide +kernel
theorem dX7_unfolds_14 : decode cX7_unfolds 14 = .ok (.invokevirtual 130, 3) := by decide +kernel
theorem dX7_unfolds_17 : decode cX7_unfolds 17 = .ok (.ifCond .ne 10, 3) := by decide +kernel
theorem dX7_unfolds_20 : decode cX7_unfolds 20 = .ok (.aload_n 0, 1) := by decide +kernel
theorem dX7_unfolds_21 : decode cX7_unfolds 21 = .ok (.iconst 2, 1) := by decide +kernel
theorem dX7_unfolds_22 : decode cX7_unfolds 22 = .ok (.iload_n 1, 1) := by decide +kernel
theorem dX7_unfolds_23 : decode cX7_unfolds 23 = .ok (.invokevirtual 101, 3) := by decide +kernel
theorem dX7_unfolds_26 : decode cX7_unfolds 26 = .ok (.ireturn, 1) := by decide +kernel
theorem dX7_unfolds_27 : decode cX7_unfolds 27 = .ok (.aload_n 0, 1) := by decide +kernel
theorem dX7_unfolds_28 : decode cX7_unfolds 28 = .ok (.getfield 9, 3) := by decide +kernel
theorem dX7_unfolds_31 : decode cX7_unfolds 31 = .ok (.iload_n 1, 1) := by decide +kernel
theorem dX7_unfolds_32 : decode cX7_unfolds 32 = .ok (.iconst 2, 1) := by decide +kernel
theorem dX7_unfolds_33 : decode cX7_unfolds 33 = .ok (.invokestatic 74, 3) := by decide +kernel
theorem dX7_unfolds_36 : decode cX7_unfolds 36 = .ok (.iconst 0, 1) := by decide +kernel
theorem dX7_unfolds_37 : decode cX7_unfolds 37 = .ok (.iastore, 1) := by decide +kernel
theorem dX7_unfolds_38 : decode cX7_unfolds 38 = .ok (.aload_n 0, 1) := by decide +kernel
theorem dX7_unfolds_39 : decode cX7_unfolds 39 = .ok (.getfield 9, 3) := by decide +kernel
theorem dX7_unfolds_42 : decode cX7_unfolds 42 = .ok (.iconst 1, 1) := by decide +kernel
theorem dX7_unfolds_43 : decode cX7_unfolds 43 = .ok (.iaload, 1) := by decide +kernel
theorem dX7_unfolds_44 : decode cX7_unfolds 44 = .ok (.aload_n 0, 1) := by decide +kernel
theorem dX7_unfolds_45 : decode cX7_unfolds 45 = .ok (.invokevirtual 231, 3) := by decide +kernel
theorem dX7_unfolds_48 : decode cX7_unfolds 48 = .ok (.isub, 1) := by decide +kernel
theorem dX7_unfolds_49 : decode cX7_unfolds 49 = .ok (.ireturn, 1) := by decide +kernel
theorem dX7_used_0 : decode cX7_used 0 = .ok (.iconst 0, 1) := by decide +kernel
theorem dX7_used_1 : decode cX7_used 1 = .ok (.istore_n 1, 1) := by decide +kernel
theorem dX7_used_2 : decode cX7_used 2 = .ok (.iconst 0, 1) := by decide +kernel
theorem dX7_used_3 : decode cX7_used 3 = .ok (.istore_n 2, 1) := by decide +kernel
theorem dX7_used_4 : decode cX7_used 4 = .ok (.iload_n 2, 1) := by decide +kernel
theorem dX7_used_5 : decode cX7_used 5 = .ok (.aload_n 0, 1) := by decide +kernel
theorem dX7_used_6 : decode cX7_used 6 = .ok (.getfield 9, 3) := by decide +kernel
theorem dX7_used_9 : decode cX7_used 9 = .ok (.iconst 0, 1) := by decide +kernel
theorem dX7_used_10 : decode cX7_used 10 = .ok (.iaload, 1) := by decide +kernel
theorem dX7_used_11 : decode cX7_used 11 = .ok (.if_icmp .ge 29, 3) := by decide +kernel
theorem dX7_used_14 : decode cX7_used 14 = .ok (.iload_n 1, 1) := by decide +kernel
theorem dX7_used_15 : decode cX7_used 15 = .ok (.aload_n 0, 1) := by decide +kernel
theorem dX7_used_16 : decode cX7_used 16 = .ok (.iload_n 2, 1) := by decide +kernel
theorem dX7_used_17 : decode cX7_used 17 = .ok (.invokevirtual 130, 3) := by decide +kernel
theorem dX7_used_20 : decode cX7_used 20 = .ok (.ifCond .eq 11, 3) := by decide +kernel
theorem dX7_used_23 : decode cX7_used 23 = .ok (.aload_n 0, 1) := by decide +kernel
theorem dX7_used_24 : decode cX7_used 24 = .ok (.iload_n 2, 1) := by decide +kernel
theorem dX7_used_25 : decode cX7_used 25 = .ok (.invokevirtual 228, 3) := by decide +kernel
theorem dX7_used_28 : decode cX7_used 28 = .ok (.goto 4, 3) := by decide +kernel
theorem dX7_used_31 : decode cX7_used 31 = .ok (.iconst 0, 1) := by decide +kernel
theorem dX7_used_32 : decode cX7_used 32 = .ok (.iadd, 1) := by decide +kernel
theorem dX7_used_33 : decode cX7_used 33 = .ok (.istore_n 1, 1) := by decide +kernel
theorem dX7_used_34 : decode cX7_used 34 = .ok (.iinc 2 1, 3) := by decide +kernel
theorem dX7_used_37 : decode cX7_used 37 = .ok (.goto (-33), 3) := by decide +kernel
theorem dX7_used_40 : decode cX7_used 40 = .ok (.iload_n 1, 1) := by decide +kernel
theorem dX7_used_41 : decode cX7_used 41 = .ok (.ireturn, 1) := by decide +kernel
theorem dX7_ways_0 : decode cX7_ways 0 = .ok (.aload_n 0, 1) := by decide +kernel
theorem dX7_ways_1 : decode cX7_ways 1 = .ok (.iload_n 1, 1) := by decide +kernel
theorem dX7_ways_2 : decode cX7_ways 2 = .ok (.invokevirtual 85, 3) := by decide +kernel
theorem dX7_ways_5 : decode cX7_ways 5 = .ok (.ifCond .ne 7, 3) := by decide +kernel
theorem dX7_ways_8 : decode cX7_ways 8 = .ok (.sipush (-1001), 3) := by decide +kernel
theorem dX7_ways_11 : decode cX7_ways 11 = .ok (.ireturn, 1) := by decide +kernel
theorem dX7_ways_12 : decode cX7_ways 12 = .ok (.iconst 0, 1) := by decide +kernel
theorem dX7_ways_13 : decode cX7_ways 13 = .ok (.istore_n 2, 1) := by decide +kernel
theorem dX7_ways_14 : decode cX7_ways 14 = .ok (.iconst 0, 1) := by decide +kernel
theorem dX7_ways_15 : decode cX7_ways 15 = .ok (.istore_n 3, 1) := by decide +kernel
theorem dX7_ways_16 : decode cX7_ways 16 = .ok (.iload_n 3, 1) := by decide +kernel
theorem dX7_ways_17 : decode cX7_ways 17 = .ok (.iconst 1, 1) := by decide +kernel
theorem dX7_ways_18 : decode cX7_ways 18 = .ok (.aload_n 0, 1) := by decide +kernel
theorem dX7_ways_19 : decode cX7_ways 19 = .ok (.iload_n 1, 1) := by decide +kernel
theorem dX7_ways_20 : decode cX7_ways 20 = .ok (.invokevirtual 88, 3) := by decide +kernel
theorem dX7_ways_23 : decode cX7_ways 23 = .ok (.ishl, 1) := by decide +kernel
theorem dX7_ways_24 : decode cX7_ways 24 = .ok (.if_icmp .ge 35, 3) := by decide +kernel
theorem dX7_ways_27 : decode cX7_ways 27 = .ok (.iload_n 2, 1) := by decide +kernel
theorem dX7_ways_28 : decode cX7_ways 28 = .ok (.aload_n 0, 1) := by decide +kernel
theorem dX7_ways_29 : decode cX7_ways 29 = .ok (.iload_n 1, 1) := by decide +kernel
theorem dX7_ways_30 : decode cX7_ways 30 = .ok (.iload_n 3, 1) := by decide +kernel
theorem dX7_ways_31 : decode cX7_ways 31 = .ok (.invokevirtual 219, 3) := by decide +kernel
theorem dX7_ways_34 : decode cX7_ways 34 = .ok (.ifCond .ne 16, 3) := by decide +kernel
theorem dX7_ways_37 : decode cX7_ways 37 = .ok (.aload_n 0, 1) := by decide +kernel
theorem dX7_ways_38 : decode cX7_ways 38 = .ok (.iload_n 1, 1) := by decide +kernel
theorem dX7_ways_39 : decode cX7_ways 39 = .ok (.iload_n 3, 1) := by decide +kernel
theorem dX7_ways_40 : decode cX7_ways 40 = .ok (.invokevirtual 222, 3) := by decide +kernel
theorem dX7_ways_43 : decode cX7_ways 43 = .ok (.ifCond .eq 7, 3) := by decide +kernel
theorem dX7_ways_46 : decode cX7_ways 46 = .ok (.iconst 1, 1) := by decide +kernel
theorem dX7_ways_47 : decode cX7_ways 47 = .ok (.goto 4, 3) := by decide +kernel
theorem dX7_ways_50 : decode cX7_ways 50 = .ok (.iconst 0, 1) := by decide +kernel
theorem dX7_ways_51 : decode cX7_ways 51 = .ok (.iadd, 1) := by decide +kernel
theorem dX7_ways_52 : decode cX7_ways 52 = .ok (.istore_n 2, 1) := by decide +kernel
theorem dX7_ways_53 : decode cX7_ways 53 = .ok (.iinc 3 1, 3) := by decide +kernel
theorem dX7_ways_56 : decode cX7_ways 56 = .ok (.goto (-40), 3) := by decide +kernel
theorem dX7_ways_59 : decode cX7_ways 59 = .ok (.iload_n 2, 1) := by decide +kernel
theorem dX7_ways_60 : decode cX7_ways 60 = .ok (.ireturn, 1) := by decide +kernel
theorem dX7_why_0 : decode cX7_why 0 = .ok (.aload_n 0, 1) := by decide +kernel
theorem dX7_why_1 : decode cX7_why 1 = .ok (.iload_n 1, 1) := by decide +kernel
theorem dX7_why_2 : decode cX7_why 2 = .ok (.invokevirtual 85, 3) := by decide +kernel
theorem dX7_why_5 : decode cX7_why 5 = .ok (.ifCond .eq 11, 3) := by decide +kernel
theorem dX7_why_8 : decode cX7_why 8 = .ok (.aload_n 0, 1) := by decide +kernel
theorem dX7_why_9 : decode cX7_why 9 = .ok (.iload_n 1, 1) := by decide +kernel
theorem dX7_why_10 : decode cX7_why 10 = .ok (.invokevirtual 212, 3) := by decide +kernel
theorem dX7_why_13 : decode cX7_why 13 = .ok (.goto 6, 3) := by decide +kernel
theorem dX7_why_16 : decode cX7_why 16 = .ok (.sipush (-1001), 3) := by decide +kernel
theorem dX7_why_19 : decode cX7_why 19 = .ok (.ireturn, 1) := by decide +kernel
theorem dX7_whyNot_0 : decode cX7_whyNot 0 = .ok (.aload_n 0, 1) := by decide +kernel
theorem dX7_whyNot_1 : decode cX7_whyNot 1 = .ok (.iload_n 1, 1) := by decide +kernel
theorem dX7_whyNot_2 : decode cX7_whyNot 2 = .ok (.iconst 0, 1) := by decide +kernel
theorem dX7_whyNot_3 : decode cX7_whyNot 3 = .ok (.invokevirtual 136, 3) := by decide +kernel
theorem dX7_whyNot_6 : decode cX7_whyNot 6 = .ok (.ifCond .le 5, 3) := by decide +kernel
theorem dX7_whyNot_9 : decode cX7_whyNot 9 = .ok (.iconst 4, 1) := by decide +kernel
theorem dX7_whyNot_10 : decode cX7_whyNot 10 = .ok (.ireturn, 1) := by decide +kernel
theorem dX7_whyNot_11 : decode cX7_whyNot 11 = .ok (.aload_n 0, 1) := by decide +kernel
theorem dX7_whyNot_12 : decode cX7_whyNot 12 = .ok (.iload_n 1, 1) := by decide +kernel
theorem dX7_whyNot_13 : decode cX7_whyNot 13 = .ok (.invokevirtual 81, 3) := by decide +kernel
theorem dX7_whyNot_16 : decode cX7_whyNot 16 = .ok (.ifCond .eq 52, 3) := by decide +kernel
theorem dX7_whyNot_19 : decode cX7_whyNot 19 = .ok (.aload_n 0, 1) := by decide +kernel
theorem dX7_whyNot_20 : decode cX7_whyNot 20 = .ok (.iload_n 1, 1) := by decide +kernel
theorem dX7_whyNot_21 : decode cX7_whyNot 21 = .ok (.iconst 1, 1) := by decide +kernel
theorem dX7_whyNot_22 : decode cX7_whyNot 22 = .ok (.invokevirtual 136, 3) := by decide +kernel
theorem dX7_whyNot_25 : decode cX7_whyNot 25 = .ok (.aload_n 0, 1) := by decide +kernel
theorem dX7_whyNot_26 : decode cX7_whyNot 26 = .ok (.iload_n 1, 1) := by decide +kernel
theorem dX7_whyNot_27 : decode cX7_whyNot 27 = .ok (.iconst 2, 1) := by decide +kernel
theorem dX7_whyNot_28 : decode cX7_whyNot 28 = .ok (.invokevirtual 136, 3) := by decide +kernel
theorem dX7_whyNot_31 : decode cX7_whyNot 31 = .ok (.isub, 1) := by decide +kernel
theorem dX7_whyNot_32 : decode cX7_whyNot 32 = .ok (.istore_n 2, 1) := by decide +kernel
theorem dX7_whyNot_33 : decode cX7_whyNot 33 = .ok (.aload_n 0, 1) := by decide +kernel
theorem dX7_whyNot_34 : decode cX7_whyNot 34 = .ok (.iload_n 1, 1) := by decide +kernel
theorem dX7_whyNot_35 : decode cX7_whyNot 35 = .ok (.invokevirtual 203, 3) := by decide +kernel
theorem dX7_whyNot_38 : decode cX7_whyNot 38 = .ok (.bipush 12, 2) := by decide +kernel
theorem dX7_whyNot_40 : decode cX7_whyNot 40 = .ok (.if_icmp .eq 5, 3) := by decide +kernel
theorem dX7_whyNot_43 : decode cX7_whyNot 43 = .ok (.iconst 1, 1) := by decide +kernel
theorem dX7_whyNot_44 : decode cX7_whyNot 44 = .ok (.ireturn, 1) := by decide +kernel
theorem dX7_whyNot_45 : decode cX7_whyNot 45 = .ok (.iload_n 2, 1) := by decide +kernel
theorem dX7_whyNot_46 : decode cX7_whyNot 46 = .ok (.iconst 2, 1) := by decide +kernel
theorem dX7_whyNot_47 : decode cX7_whyNot 47 = .ok (.if_icmp .eq 11, 3) := by decide +kernel
theorem dX7_whyNot_50 : decode cX7_whyNot 50 = .ok (.iload_n 2, 1) := by decide +kernel
theorem dX7_whyNot_51 : decode cX7_whyNot 51 = .ok (.bipush (-2), 2) := by decide +kernel
theorem dX7_whyNot_53 : decode cX7_whyNot 53 = .ok (.if_icmp .eq 5, 3) := by decide +kernel
theorem dX7_whyNot_56 : decode cX7_whyNot 56 = .ok (.iconst 2, 1) := by decide +kernel
theorem dX7_whyNot_57 : decode cX7_whyNot 57 = .ok (.ireturn, 1) := by decide +kernel
theorem dX7_whyNot_58 : decode cX7_whyNot 58 = .ok (.aload_n 0, 1) := by decide +kernel
theorem dX7_whyNot_59 : decode cX7_whyNot 59 = .ok (.iload_n 1, 1) := by decide +kernel
theorem dX7_whyNot_60 : decode cX7_whyNot 60 = .ok (.invokevirtual 206, 3) := by decide +kernel
theorem dX7_whyNot_63 : decode cX7_whyNot 63 = .ok (.ifCond .eq 5, 3) := by decide +kernel
theorem dX7_whyNot_66 : decode cX7_whyNot 66 = .ok (.iconst 3, 1) := by decide +kernel
theorem dX7_whyNot_67 : decode cX7_whyNot 67 = .ok (.ireturn, 1) := by decide +kernel
theorem dX7_whyNot_68 : decode cX7_whyNot 68 = .ok (.aload_n 0, 1) := by decide +kernel
theorem dX7_whyNot_69 : decode cX7_whyNot 69 = .ok (.iload_n 1, 1) := by decide +kernel
theorem dX7_whyNot_70 : decode cX7_whyNot 70 = .ok (.invokevirtual 209, 3) := by decide +kernel
theorem dX7_whyNot_73 : decode cX7_whyNot 73 = .ok (.ifCond .eq 7, 3) := by decide +kernel
theorem dX7_whyNot_76 : decode cX7_whyNot 76 = .ok (.iconst 0, 1) := by decide +kernel
theorem dX7_whyNot_77 : decode cX7_whyNot 77 = .ok (.goto 4, 3) := by decide +kernel
theorem dX7_whyNot_80 : decode cX7_whyNot 80 = .ok (.iconst 5, 1) := by decide +kernel
theorem dX7_whyNot_81 : decode cX7_whyNot 81 = .ok (.ireturn, 1) := by decide +kernel
theorem dX7_widthOf_0 : decode cX7_widthOf 0 = .ok (.iconst 0, 1) := by decide +kernel
theorem dX7_widthOf_1 : decode cX7_widthOf 1 = .ok (.istore_n 2, 1) := by decide +kernel
theorem dX7_widthOf_2 : decode cX7_widthOf 2 = .ok (.iconst 0, 1) := by decide +kernel
theorem dX7_widthOf_3 : decode cX7_widthOf 3 = .ok (.istore_n 3, 1) := by decide +kernel
theorem dX7_widthOf_4 : decode cX7_widthOf 4 = .ok (.iconst 0, 1) := by decide +kernel
theorem dX7_widthOf_5 : decode cX7_widthOf 5 = .ok (.istore 4, 2) := by decide +kernel
theorem dX7_widthOf_7 : decode cX7_widthOf 7 = .ok (.iload 4, 2) := by decide +kernel
theorem dX7_widthOf_9 : decode cX7_widthOf 9 = .ok (.aload_n 0, 1) := by decide +kernel
theorem dX7_widthOf_10 : decode cX7_widthOf 10 = .ok (.iload_n 1, 1) := by decide +kernel
theorem dX7_widthOf_11 : decode cX7_widthOf 11 = .ok (.iconst 1, 1) := by decide +kernel
theorem dX7_widthOf_12 : decode cX7_widthOf 12 = .ok (.invokevirtual 78, 3) := by decide +kernel
theorem dX7_widthOf_15 : decode cX7_widthOf 15 = .ok (.if_icmp .gt 41, 3) := by decide +kernel
theorem dX7_widthOf_18 : decode cX7_widthOf 18 = .ok (.aload_n 0, 1) := by decide +kernel
theorem dX7_widthOf_19 : decode cX7_widthOf 19 = .ok (.iload_n 1, 1) := by decide +kernel
theorem dX7_widthOf_20 : decode cX7_widthOf 20 = .ok (.invokevirtual 81, 3) := by decide +kernel
theorem dX7_widthOf_23 : decode cX7_widthOf 23 = .ok (.ifCond .ne 33, 3) := by decide +kernel
theorem dX7_widthOf_26 : decode cX7_widthOf 26 = .ok (.iload_n 2, 1) := by decide +kernel
theorem dX7_widthOf_27 : decode cX7_widthOf 27 = .ok (.aload_n 0, 1) := by decide +kernel
theorem dX7_widthOf_28 : decode cX7_widthOf 28 = .ok (.iload_n 1, 1) := by decide +kernel
theorem dX7_widthOf_29 : decode cX7_widthOf 29 = .ok (.iload 4, 2) := by decide +kernel
theorem dX7_widthOf_31 : decode cX7_widthOf 31 = .ok (.invokevirtual 225, 3) := by decide +kernel
theorem dX7_widthOf_34 : decode cX7_widthOf 34 = .ok (.invokestatic 155, 3) := by decide +kernel
theorem dX7_widthOf_37 : decode cX7_widthOf 37 = .ok (.istore_n 2, 1) := by decide +kernel
theorem dX7_widthOf_38 : decode cX7_widthOf 38 = .ok (.iload_n 3, 1) := by decide +kernel
theorem dX7_widthOf_39 : decode cX7_widthOf 39 = .ok (.aload_n 0, 1) := by decide +kernel
theorem dX7_widthOf_40 : decode cX7_widthOf 40 = .ok (.iload_n 1, 1) := by decide +kernel
theorem dX7_widthOf_41 : decode cX7_widthOf 41 = .ok (.iload 4, 2) := by decide +kernel
theorem dX7_widthOf_43 : decode cX7_widthOf 43 = .ok (.invokevirtual 225, 3) := by decide +kernel
theorem dX7_widthOf_46 : decode cX7_widthOf 46 = .ok (.invokestatic 178, 3) := by decide +kernel
theorem dX7_widthOf_49 : decode cX7_widthOf 49 = .ok (.istore_n 3, 1) := by decide +kernel
theorem dX7_widthOf_50 : decode cX7_widthOf 50 = .ok (.iinc 4 1, 3) := by decide +kernel
theorem dX7_widthOf_53 : decode cX7_widthOf 53 = .ok (.goto (-46), 3) := by decide +kernel
theorem dX7_widthOf_56 : decode cX7_widthOf 56 = .ok (.iconst 0, 1) := by decide +kernel
theorem dX7_widthOf_57 : decode cX7_widthOf 57 = .ok (.istore 4, 2) := by decide +kernel
theorem dX7_widthOf_59 : decode cX7_widthOf 59 = .ok (.iload 4, 2) := by decide +kernel
theorem dX7_widthOf_61 : decode cX7_widthOf 61 = .ok (.aload_n 0, 1) := by decide +kernel
theorem dX7_widthOf_62 : decode cX7_widthOf 62 = .ok (.iload_n 1, 1) := by decide +kernel
theorem dX7_widthOf_63 : decode cX7_widthOf 63 = .ok (.iconst 1, 1) := by decide +kernel
theorem dX7_widthOf_64 : decode cX7_widthOf 64 = .ok (.invokevirtual 78, 3) := by decide +kernel
theorem dX7_widthOf_67 : decode cX7_widthOf 67 = .ok (.if_icmp .ge 29, 3) := by decide +kernel
theorem dX7_widthOf_70 : decode cX7_widthOf 70 = .ok (.aload_n 0, 1) := by decide +kernel
theorem dX7_widthOf_71 : decode cX7_widthOf 71 = .ok (.iload_n 1, 1) := by decide +kernel
theorem dX7_widthOf_72 : decode cX7_widthOf 72 = .ok (.invokevirtual 81, 3) := by decide +kernel
theorem dX7_widthOf_75 : decode cX7_widthOf 75 = .ok (.ifCond .eq 21, 3) := by decide +kernel
theorem dX7_widthOf_78 : decode cX7_widthOf 78 = .ok (.iload_n 3, 1) := by decide +kernel
theorem dX7_widthOf_79 : decode cX7_widthOf 79 = .ok (.aload_n 0, 1) := by decide +kernel
theorem dX7_widthOf_80 : decode cX7_widthOf 80 = .ok (.iload_n 1, 1) := by decide +kernel
theorem dX7_widthOf_81 : decode cX7_widthOf 81 = .ok (.iload 4, 2) := by decide +kernel
theorem dX7_widthOf_83 : decode cX7_widthOf 83 = .ok (.invokevirtual 142, 3) := by decide +kernel
theorem dX7_widthOf_86 : decode cX7_widthOf 86 = .ok (.invokestatic 178, 3) := by decide +kernel
theorem dX7_widthOf_89 : decode cX7_widthOf 89 = .ok (.istore_n 3, 1) := by decide +kernel
theorem dX7_widthOf_90 : decode cX7_widthOf 90 = .ok (.iinc 4 1, 3) := by decide +kernel
theorem dX7_widthOf_93 : decode cX7_widthOf 93 = .ok (.goto (-34), 3) := by decide +kernel
theorem dX7_widthOf_96 : decode cX7_widthOf 96 = .ok (.iload_n 3, 1) := by decide +kernel
theorem dX7_widthOf_97 : decode cX7_widthOf 97 = .ok (.iload_n 2, 1) := by decide +kernel
theorem dX7_widthOf_98 : decode cX7_widthOf 98 = .ok (.isub, 1) := by decide +kernel
theorem dX7_widthOf_99 : decode cX7_widthOf 99 = .ok (.ireturn, 1) := by decide +kernel
theorem dX7_wrongStrip_0 : decode cX7_wrongStrip 0 = .ok (.aload_n 0, 1) := by decide +kernel
theorem dX7_wrongStrip_1 : decode cX7_wrongStrip 1 = .ok (.iload_n 1, 1) := by decide +kernel
theorem dX7_wrongStrip_2 : decode cX7_wrongStrip 2 = .ok (.invokevirtual 85, 3) := by decide +kernel
theorem dX7_wrongStrip_5 : decode cX7_wrongStrip 5 = .ok (.ifCond .ne 9, 3) := by decide +kernel
theorem dX7_wrongStrip_8 : decode cX7_wrongStrip 8 = .ok (.sipush (-1001), 3) := by decide +kernel
theorem dX7_wrongStrip_11 : decode cX7_wrongStrip 11 = .ok (.goto 33, 3) := by decide +kernel
theorem dX7_wrongStrip_14 : decode cX7_wrongStrip 14 = .ok (.aload_n 0, 1) := by decide +kernel
theorem dX7_wrongStrip_15 : decode cX7_wrongStrip 15 = .ok (.iload_n 1, 1) := by decide +kernel
theorem dX7_wrongStrip_16 : decode cX7_wrongStrip 16 = .ok (.invokevirtual 81, 3) := by decide +kernel
theorem dX7_wrongStrip_19 : decode cX7_wrongStrip 19 = .ok (.ifCond .eq 9, 3) := by decide +kernel
theorem dX7_wrongStrip_22 : decode cX7_wrongStrip 22 = .ok (.sipush (-1002), 3) := by decide +kernel
theorem dX7_wrongStrip_25 : decode cX7_wrongStrip 25 = .ok (.goto 19, 3) := by decide +kernel
theorem dX7_wrongStrip_28 : decode cX7_wrongStrip 28 = .ok (.aload_n 0, 1) := by decide +kernel
theorem dX7_wrongStrip_29 : decode cX7_wrongStrip 29 = .ok (.iload_n 1, 1) := by decide +kernel
theorem dX7_wrongStrip_30 : decode cX7_wrongStrip 30 = .ok (.iconst 0, 1) := by decide +kernel
theorem dX7_wrongStrip_31 : decode cX7_wrongStrip 31 = .ok (.invokevirtual 136, 3) := by decide +kernel
theorem dX7_wrongStrip_34 : decode cX7_wrongStrip 34 = .ok (.ifCond .le 9, 3) := by decide +kernel
theorem dX7_wrongStrip_37 : decode cX7_wrongStrip 37 = .ok (.sipush (-1004), 3) := by decide +kernel
theorem dX7_wrongStrip_40 : decode cX7_wrongStrip 40 = .ok (.goto 4, 3) := by decide +kernel
theorem dX7_wrongStrip_43 : decode cX7_wrongStrip 43 = .ok (.iconst 0, 1) := by decide +kernel
theorem dX7_wrongStrip_44 : decode cX7_wrongStrip 44 = .ok (.ireturn, 1) := by decide +kernel
def q_7 : mQ := (yX6_stage, cX6_stage, 4, (some FieldType.int), 1, 6, 0, 0)
theorem qm_7 : mtL[7]? = some q_7 := rfl
def q_8 : mQ := (yX5_occupied, cX5_occupied, 4, (some FieldType.int), 0, 5, 0, 0)
theorem qm_8 : mtL[8]? = some q_8 := rfl
def q_9 : mQ := (yX5_pieceAt, cX5_pieceAt, 2, (some (FieldType.object "FoldedTheatre$Piece")), 1, 5, 0, 0)
theorem qm_9 : mtL[9]? = some q_9 := rfl
def q_10 : mQ := (yX2_width, cX2_width, 4, (some FieldType.int), 0, 2, 0, 0)
theorem qm_10 : mtL[10]? = some q_10 := rfl
def q_11 : mQ := (yX2_greatestSize, cX2_greatestSize, 3, (some FieldType.int), 0, 2, 0, 0)
theorem qm_11 : mtL[11]? = some q_11 := rfl
def q_12 : mQ := (yX6_at, cX6_at, 2, (some FieldType.int), 2, 6, 0, 0)
theorem qm_12 : mtL[12]? = some q_12 := rfl
def q_13 : mQ := (yX2_placeOf, cX2_placeOf, 4, (some FieldType.int), 1, 2, 0, 0)
theorem qm_13 : mtL[13]? = some q_13 := rfl
def q_14 : mQ := (yX6_refuse, cX6_refuse, 3, (some FieldType.int), 2, 6, 0, 0)
theorem qm_14 : mtL[14]? = some q_14 := rfl
def q_15 : mQ := (yX0_push, cX0_push, 3, none, 1, 0, 0, 0)
theorem qm_15 : mtL[15]? = some q_15 := rfl
def q_16 : mQ := (yX0_stateAt, cX0_stateAt, 2, (some (FieldType.object "FoldedTheatre$State")), 1, 0, 0, 0)
theorem qm_16 : mtL[16]? = some q_16 := rfl
def q_17 : mQ := (yX5_copyFrom, cX5_copyFrom, 5, none, 1, 5, 0, 0)
theorem qm_17 : mtL[17]? = some q_17 := rfl
def q_18 : mQ := (yX2_copyFrom, cX2_copyFrom, 2, none, 1, 2, 0, 0)
theorem qm_18 : mtL[18]? = some q_18 := rfl
def q_19 : mQ := (yX6_copyRow, cX6_copyRow, 3, none, 2, 6, 0, 0)
theorem qm_19 : mtL[19]? = some q_19 := rfl
def q_20 : mQ := (yX6_add, cX6_add, 4, (some FieldType.int), 3, 6, 0, 0)
theorem qm_20 : mtL[20]? = some q_20 := rfl
def q_21 : mQ := (yX2_takeSizes, cX2_takeSizes, 5, (some FieldType.boolean), 2, 2, 0, 0)
theorem qm_21 : mtL[21]? = some q_21 := rfl
def q_22 : mQ := (yX6_put, cX6_put, 3, none, 3, 6, 0, 0)
theorem qm_22 : mtL[22]? = some q_22 := rfl
def q_23 : mQ := (yX2_sum, cX2_sum, 3, (some FieldType.int), 0, 2, 0, 0)
theorem qm_23 : mtL[23]? = some q_23 := rfl
def q_24 : mQ := (yX2_takeCreases, cX2_takeCreases, 5, (some FieldType.boolean), 1, 2, 0, 0)
theorem qm_24 : mtL[24]? = some q_24 := rfl
def q_25 : mQ := (yX2_creaseCount, cX2_creaseCount, 1, (some FieldType.int), 0, 2, 0, 0)
theorem qm_25 : mtL[25]? = some q_25 := rfl
def q_26 : mQ := (yX6_isCreaseKind, cX6_isCreaseKind, 1, (some FieldType.boolean), 1, 6, 0, 0)
theorem qm_26 : mtL[26]? = some q_26 := rfl
def q_27 : mQ := (yX5_addCopyOf, cX5_addCopyOf, 3, none, 1, 5, 0, 0)
theorem qm_27 : mtL[27]? = some q_27 := rfl
def q_28 : mQ := (yX6_mark, cX6_mark, 6, (some FieldType.int), 3, 6, 0, 0)
theorem qm_28 : mtL[28]? = some q_28 := rfl
def q_29 : mQ := (yX2_hasCrease, cX2_hasCrease, 2, (some FieldType.boolean), 1, 2, 0, 0)
theorem qm_29 : mtL[29]? = some q_29 := rfl
def q_30 : mQ := (yX6_turn, cX6_turn, 3, (some FieldType.int), 1, 6, 0, 0)
theorem qm_30 : mtL[30]? = some q_30 := rfl
def q_31 : mQ := (yX2_turnOver, cX2_turnOver, 3, none, 0, 2, 0, 0)
theorem qm_31 : mtL[31]? = some q_31 := rfl
def q_32 : mQ := (yX2_countOf, cX2_countOf, 4, (some FieldType.int), 1, 2, 0, 0)
theorem qm_32 : mtL[32]? = some q_32 := rfl
def q_33 : mQ := (yX6_rotate, cX6_rotate, 4, (some FieldType.int), 2, 6, 0, 0)
theorem qm_33 : mtL[33]? = some q_33 := rfl
def q_34 : mQ := (yX2_becomeRotated, cX2_becomeRotated, 5, none, 2, 2, 0, 0)
theorem qm_34 : mtL[34]? = some q_34 := rfl
def q_35 : mQ := (yX2_sizesAsNumber, cX2_sizesAsNumber, 3, (some FieldType.int), 0, 2, 0, 0)
theorem qm_35 : mtL[35]? = some q_35 := rfl
def q_36 : mQ := (yX6_join, cX6_join, 7, (some FieldType.int), 3, 6, 0, 0)
theorem qm_36 : mtL[36]? = some q_36 := rfl
def q_37 : mQ := (yX2_lengthenBy, cX2_lengthenBy, 4, none, 2, 2, 0, 0)
theorem qm_37 : mtL[37]? = some q_37 := rfl
def q_38 : mQ := (yX5_removeAt, cX5_removeAt, 5, none, 1, 5, 0, 0)
theorem qm_38 : mtL[38]? = some q_38 := rfl
def q_39 : mQ := (yX6_cut, cX6_cut, 6, (some FieldType.int), 2, 6, 0, 0)
theorem qm_39 : mtL[39]? = some q_39 := rfl
def q_40 : mQ := (yX2_becomeEndOf, cX2_becomeEndOf, 4, none, 2, 2, 0, 0)
theorem qm_40 : mtL[40]? = some q_40 := rfl
def q_41 : mQ := (yX6_fold, cX6_fold, 6, (some FieldType.int), 1, 6, 0, 0)
theorem qm_41 : mtL[41]? = some q_41 := rfl
def q_42 : mQ := (yX2_isUndecided, cX2_isUndecided, 1, (some FieldType.boolean), 0, 2, 0, 0)
theorem qm_42 : mtL[42]? = some q_42 := rfl
def q_43 : mQ := (yX2_lowestUndecided, cX2_lowestUndecided, 3, (some FieldType.int), 0, 2, 0, 0)
theorem qm_43 : mtL[43]? = some q_43 := rfl
def q_44 : mQ := (yX3_whatStandsInTheWay, cX3_whatStandsInTheWay, 2, (some FieldType.int), 1, 3, 0, 0)
theorem qm_44 : mtL[44]? = some q_44 := rfl
def q_45 : mQ := (yX3_load, cX3_load, 3, none, 1, 3, 0, 0)
theorem qm_45 : mtL[45]? = some q_45 := rfl
def q_46 : mQ := (yX3_putCrease, cX3_putCrease, 3, none, 2, 3, 0, 0)
theorem qm_46 : mtL[46]? = some q_46 := rfl
def q_47 : mQ := (yX3_evenAngles, cX3_evenAngles, 3, (some FieldType.int), 0, 3, 0, 0)
theorem qm_47 : mtL[47]? = some q_47 := rfl
def q_48 : mQ := (yX3_hasSmallAngleOfOneKind, cX3_hasSmallAngleOfOneKind, 4, (some FieldType.boolean), 0, 3, 0, 0)
theorem qm_48 : mtL[48]? = some q_48 := rfl
def q_49 : mQ := (yX3_before, cX3_before, 2, (some FieldType.int), 1, 3, 0, 0)
theorem qm_49 : mtL[49]? = some q_49 := rfl
def q_50 : mQ := (yX3_after, cX3_after, 2, (some FieldType.int), 1, 3, 0, 0)
theorem qm_50 : mtL[50]? = some q_50 := rfl
def q_51 : mQ := (yX3_reduce, cX3_reduce, 3, (some FieldType.int), 0, 3, 0, 0)
theorem qm_51 : mtL[51]? = some q_51 := rfl
def q_52 : mQ := (yX3_firstStep, cX3_firstStep, 5, (some FieldType.int), 0, 3, 0, 0)
theorem qm_52 : mtL[52]? = some q_52 := rfl
def q_53 : mQ := (yX3_make, cX3_make, 5, none, 1, 3, 0, 0)
theorem qm_53 : mtL[53]? = some q_53 := rfl
def q_54 : mQ := (yX6_takeOut, cX6_takeOut, 3, none, 2, 6, 0, 0)
theorem qm_54 : mtL[54]? = some q_54 := rfl
def q_55 : mQ := (yX3_isReduced, cX3_isReduced, 1, (some FieldType.boolean), 0, 3, 0, 0)
theorem qm_55 : mtL[55]? = some q_55 := rfl
def q_56 : mQ := (yX6_unfold, cX6_unfold, 3, (some FieldType.int), 1, 6, 0, 0)
theorem qm_56 : mtL[56]? = some q_56 := rfl
def q_57 : mQ := (yX6_drop, cX6_drop, 2, (some FieldType.int), 1, 6, 0, 0)
theorem qm_57 : mtL[57]? = some q_57 := rfl
def q_58 : mQ := (yX6_piece, cX6_piece, 4, (some FieldType.int), 2, 6, 0, 0)
theorem qm_58 : mtL[58]? = some q_58 := rfl
def q_59 : mQ := (yX6_size, cX6_size, 4, (some FieldType.int), 2, 6, 0, 0)
theorem qm_59 : mtL[59]? = some q_59 := rfl
def q_60 : mQ := (yX6_crease, cX6_crease, 4, (some FieldType.int), 2, 6, 0, 0)
theorem qm_60 : mtL[60]? = some q_60 := rfl
def q_61 : mQ := (yX6_why, cX6_why, 3, (some FieldType.int), 1, 6, 0, 0)
theorem qm_61 : mtL[61]? = some q_61 := rfl
def q_62 : mQ := (yX6_foldsAgain, cX6_foldsAgain, 4, (some FieldType.int), 1, 6, 0, 0)
theorem qm_62 : mtL[62]? = some q_62 := rfl
def q_63 : mQ := (yX6_errorOfDecidedStrip, cX6_errorOfDecidedStrip, 1, (some FieldType.int), 1, 6, 0, 0)
theorem qm_63 : mtL[63]? = some q_63 := rfl
def q_64 : mQ := (yX1_search, cX1_search, 7, (some FieldType.int), 2, 1, 0, 0)
theorem qm_64 : mtL[64]? = some q_64 := rfl
def q_65 : mQ := (yX1_load, cX1_load, 3, none, 1, 1, 0, 0)
theorem qm_65 : mtL[65]? = some q_65 := rfl
def q_66 : mQ := (yX1_nextLayer, cX1_nextLayer, 3, (some FieldType.int), 1, 1, 0, 0)
theorem qm_66 : mtL[66]? = some q_66 := rfl
def q_67 : mQ := (yX1_isFree, cX1_isFree, 4, (some FieldType.boolean), 2, 1, 0, 0)
theorem qm_67 : mtL[67]? = some q_67 := rfl
def q_68 : mQ := (yX1_isAsCreased, cX1_isAsCreased, 6, (some FieldType.boolean), 2, 1, 0, 0)
theorem qm_68 : mtL[68]? = some q_68 := rfl
def q_69 : mQ := (yX1_layersCollide, cX1_layersCollide, 2, (some FieldType.boolean), 0, 1, 0, 0)
theorem qm_69 : mtL[69]? = some q_69 := rfl
def q_70 : mQ := (yX1_isPierced, cX1_isPierced, 6, (some FieldType.boolean), 1, 1, 0, 0)
theorem qm_70 : mtL[70]? = some q_70 := rfl
def q_71 : mQ := (yX1_isBetween, cX1_isBetween, 6, (some FieldType.boolean), 2, 1, 0, 0)
theorem qm_71 : mtL[71]? = some q_71 := rfl
def q_72 : mQ := (yX1_isCrossed, cX1_isCrossed, 4, (some FieldType.boolean), 1, 1, 0, 0)
theorem qm_72 : mtL[72]? = some q_72 := rfl
def q_73 : mQ := (yX6_step, cX6_step, 4, (some FieldType.int), 1, 6, 0, 0)
theorem qm_73 : mtL[73]? = some q_73 := rfl
def q_74 : mQ := (yX6_steps, cX6_steps, 3, (some FieldType.int), 1, 6, 0, 0)
theorem qm_74 : mtL[74]? = some q_74 := rfl
def q_75 : mQ := (yX6_ways, cX6_ways, 3, (some FieldType.int), 1, 6, 0, 0)
theorem qm_75 : mtL[75]? = some q_75 := rfl
def q_76 : mQ := (yX3_countWays, cX3_countWays, 4, (some FieldType.int), 1, 3, 0, 0)
theorem qm_76 : mtL[76]? = some q_76 := rfl
def q_77 : mQ := (yX3_changesTo, cX3_changesTo, 5, (some FieldType.int), 2, 3, 0, 0)
theorem qm_77 : mtL[77]? = some q_77 := rfl
def q_78 : mQ := (yX3_kindIn, cX3_kindIn, 2, (some FieldType.int), 2, 3, 0, 0)
theorem qm_78 : mtL[78]? = some q_78 := rfl
def q_79 : mQ := (yX3_foldsWith, cX3_foldsWith, 4, (some FieldType.boolean), 2, 3, 0, 0)
theorem qm_79 : mtL[79]? = some q_79 := rfl
def q_80 : mQ := (yX6_fewest, cX6_fewest, 3, (some FieldType.int), 1, 6, 0, 0)
theorem qm_80 : mtL[80]? = some q_80 := rfl
def q_81 : mQ := (yX3_fewestChanges, cX3_fewestChanges, 5, (some FieldType.int), 1, 3, 0, 0)
theorem qm_81 : mtL[81]? = some q_81 := rfl
def q_82 : mQ := (yX6_place, cX6_place, 4, (some FieldType.int), 2, 6, 0, 0)
theorem qm_82 : mtL[82]? = some q_82 := rfl
def q_83 : mQ := (yX6_layer, cX6_layer, 5, (some FieldType.int), 2, 6, 0, 0)
theorem qm_83 : mtL[83]? = some q_83 := rfl
def q_84 : mQ := (yX6_orders, cX6_orders, 4, (some FieldType.int), 1, 6, 0, 0)
theorem qm_84 : mtL[84]? = some q_84 := rfl
def q_85 : mQ := (yX6_thickest, cX6_thickest, 3, (some FieldType.int), 1, 6, 0, 0)
theorem qm_85 : mtL[85]? = some q_85 := rfl
def q_86 : mQ := (yX2_thickness, cX2_thickness, 3, (some FieldType.int), 0, 2, 0, 0)
theorem qm_86 : mtL[86]? = some q_86 := rfl
def q_87 : mQ := (yX2_leftEndOf, cX2_leftEndOf, 2, (some FieldType.int), 1, 2, 0, 0)
theorem qm_87 : mtL[87]? = some q_87 := rfl
def q_88 : mQ := (yX2_panelsBehind, cX2_panelsBehind, 4, (some FieldType.int), 1, 2, 0, 0)
theorem qm_88 : mtL[88]? = some q_88 := rfl
def q_89 : mQ := (yX2_rightEndOf, cX2_rightEndOf, 2, (some FieldType.int), 1, 2, 0, 0)
theorem qm_89 : mtL[89]? = some q_89 := rfl
def q_90 : mQ := (yX6_reflected, cX6_reflected, 3, (some FieldType.int), 1, 6, 0, 0)
theorem qm_90 : mtL[90]? = some q_90 := rfl
def q_91 : mQ := (yX2_reflection, cX2_reflection, 4, (some FieldType.int), 0, 2, 0, 0)
theorem qm_91 : mtL[91]? = some q_91 := rfl
def q_92 : mQ := (yX6_append, cX6_append, 2, (some FieldType.int), 1, 6, 0, 0)
theorem qm_92 : mtL[92]? = some q_92 := rfl
def q_93 : mQ := (yX4_write, cX4_write, 2, none, 1, 4, 0, 0)
theorem qm_93 : mtL[93]? = some q_93 := rfl
def q_94 : mQ := (yX6_read, cX6_read, 4, (some FieldType.int), 0, 6, 0, 0)
theorem qm_94 : mtL[94]? = some q_94 := rfl
def q_95 : mQ := (yX4_faultPosition, cX4_faultPosition, 2, (some FieldType.int), 0, 4, 0, 0)
theorem qm_95 : mtL[95]? = some q_95 := rfl
def q_96 : mQ := (yX4_rewind, cX4_rewind, 1, none, 0, 4, 0, 0)
theorem qm_96 : mtL[96]? = some q_96 := rfl
def q_97 : mQ := (yX4_takeCommand, cX4_takeCommand, 1, (some FieldType.boolean), 0, 4, 0, 0)
theorem qm_97 : mtL[97]? = some q_97 := rfl
def q_98 : mQ := (yX4_codeHere, cX4_codeHere, 1, (some FieldType.int), 0, 4, 0, 0)
theorem qm_98 : mtL[98]? = some q_98 := rfl
def q_99 : mQ := (yX4_takeSizes, cX4_takeSizes, 2, (some FieldType.boolean), 0, 4, 0, 0)
theorem qm_99 : mtL[99]? = some q_99 := rfl
def q_100 : mQ := (yX4_takeSign, cX4_takeSign, 2, (some FieldType.boolean), 1, 4, 0, 0)
theorem qm_100 : mtL[100]? = some q_100 := rfl
def q_101 : mQ := (yX4_takeCreases, cX4_takeCreases, 2, (some FieldType.boolean), 0, 4, 0, 0)
theorem qm_101 : mtL[101]? = some q_101 := rfl
def q_102 : mQ := (yX4_takeKind, cX4_takeKind, 2, (some FieldType.boolean), 0, 4, 0, 0)
theorem qm_102 : mtL[102]? = some q_102 := rfl
def q_103 : mQ := (yX4_takePiece, cX4_takePiece, 1, (some FieldType.boolean), 0, 4, 0, 0)
theorem qm_103 : mtL[103]? = some q_103 := rfl
def q_104 : mQ := (yX4_takeDigit, cX4_takeDigit, 1, (some FieldType.boolean), 0, 4, 0, 0)
theorem qm_104 : mtL[104]? = some q_104 := rfl
def q_105 : mQ := (yX4_takeCrease, cX4_takeCrease, 1, (some FieldType.boolean), 0, 4, 0, 0)
theorem qm_105 : mtL[105]? = some q_105 := rfl
def q_106 : mQ := (yX4_clear, cX4_clear, 1, none, 0, 4, 0, 0)
theorem qm_106 : mtL[106]? = some q_106 := rfl
def q_107 : mQ := (yX6_perform, cX6_perform, 1, (some FieldType.int), 0, 6, 0, 0)
theorem qm_107 : mtL[107]? = some q_107 := rfl
def q_108 : mQ := (yX6_withCreasesAsTold, cX6_withCreasesAsTold, 3, (some FieldType.int), 1, 6, 0, 0)
theorem qm_108 : mtL[108]? = some q_108 := rfl
def q_109 : mQ := (yX6_refusal, cX6_refusal, 2, (some FieldType.int), 1, 6, 0, 0)
theorem qm_109 : mtL[109]? = some q_109 := rfl
def q_110 : mQ := (yX6_account, cX6_account, 2, (some FieldType.int), 1, 6, 0, 0)
theorem qm_110 : mtL[110]? = some q_110 := rfl
def q_111 : mQ := (yX5_countOfKind, cX5_countOfKind, 5, (some FieldType.int), 1, 5, 0, 0)
theorem qm_111 : mtL[111]? = some q_111 := rfl
def q_112 : mQ := (yX5_foldedCount, cX5_foldedCount, 4, (some FieldType.int), 0, 5, 0, 0)
theorem qm_112 : mtL[112]? = some q_112 := rfl
def q_113 : mQ := (yX5_panelCount, cX5_panelCount, 4, (some FieldType.int), 0, 5, 0, 0)
theorem qm_113 : mtL[113]? = some q_113 := rfl
def q_114 : mQ := (yX5_creasesOf, cX5_creasesOf, 5, (some FieldType.int), 1, 5, 0, 0)
theorem qm_114 : mtL[114]? = some q_114 := rfl
def q_115 : mQ := (yX6_share, cX6_share, 3, (some FieldType.int), 0, 6, 0, 0)
theorem qm_115 : mtL[115]? = some q_115 := rfl
def q_116 : mQ := (yX6_bitsOf, cX6_bitsOf, 4, (some FieldType.int), 1, 6, 0, 0)
theorem qm_116 : mtL[116]? = some q_116 := rfl
def q_117 : mQ := (yX6_undo, cX6_undo, 1, (some FieldType.int), 0, 6, 0, 0)
theorem qm_117 : mtL[117]? = some q_117 := rfl
def q_118 : mQ := (yX0_pop, cX0_pop, 3, none, 1, 0, 0, 0)
theorem qm_118 : mtL[118]? = some q_118 := rfl
def q_119 : mQ := (yX6_save, cX6_save, 1, (some FieldType.int), 0, 6, 0, 0)
theorem qm_119 : mtL[119]? = some q_119 := rfl
def q_120 : mQ := (yX6_restore, cX6_restore, 1, (some FieldType.int), 0, 6, 0, 0)
theorem qm_120 : mtL[120]? = some q_120 := rfl
def q_121 : mQ := (yX0_clear, cX0_clear, 1, none, 0, 0, 0, 0)
theorem qm_121 : mtL[121]? = some q_121 := rfl
def q_123 : mQ := (yX7_add, cX7_add, 4, (some FieldType.int), 3, 7, 0, 0)
theorem qm_123 : mtL[123]? = some q_123 := rfl
def q_124 : mQ := (yX7_keeps, cX7_keeps, 1, none, 0, 7, 0, 0)
theorem qm_124 : mtL[124]? = some q_124 := rfl
def q_125 : mQ := (yX7_copies, cX7_copies, 5, none, 4, 7, 0, 0)
theorem qm_125 : mtL[125]? = some q_125 := rfl
def q_126 : mQ := (yX7_addsTold, cX7_addsTold, 5, (some FieldType.int), 3, 7, 0, 0)
theorem qm_126 : mtL[126]? = some q_126 := rfl
def q_127 : mQ := (yX7_isIn, cX7_isIn, 3, (some FieldType.boolean), 3, 7, 0, 0)
theorem qm_127 : mtL[127]? = some q_127 := rfl
def q_128 : mQ := (yX7_laysSizes, cX7_laysSizes, 6, (some FieldType.int), 1, 7, 0, 0)
theorem qm_128 : mtL[128]? = some q_128 := rfl
def q_129 : mQ := (yX7_digits, cX7_digits, 3, (some FieldType.int), 1, 7, 0, 0)
theorem qm_129 : mtL[129]? = some q_129 := rfl
def q_130 : mQ := (yX7_areSizes, cX7_areSizes, 3, (some FieldType.boolean), 2, 7, 0, 0)
theorem qm_130 : mtL[130]? = some q_130 := rfl
def q_131 : mQ := (yX7_sumOfNew, cX7_sumOfNew, 4, (some FieldType.int), 1, 7, 0, 0)
theorem qm_131 : mtL[131]? = some q_131 := rfl
def q_132 : mQ := (yX7_laysCreases, cX7_laysCreases, 6, (some FieldType.boolean), 2, 7, 0, 0)
theorem qm_132 : mtL[132]? = some q_132 := rfl
def q_133 : mQ := (yX7_adds, cX7_adds, 5, (some FieldType.int), 2, 7, 0, 0)
theorem qm_133 : mtL[133]? = some q_133 := rfl
def q_134 : mQ := (yX7_refuses, cX7_refuses, 3, (some FieldType.int), 2, 7, 0, 0)
theorem qm_134 : mtL[134]? = some q_134 := rfl
def q_135 : mQ := (yX7_at, cX7_at, 2, (some FieldType.int), 2, 7, 0, 0)
theorem qm_135 : mtL[135]? = some q_135 := rfl
def q_136 : mQ := (yX7_creases, cX7_creases, 2, (some FieldType.int), 1, 7, 0, 0)
theorem qm_136 : mtL[136]? = some q_136 := rfl
def q_137 : mQ := (yX7_of, cX7_of, 3, (some FieldType.int), 2, 7, 0, 0)
theorem qm_137 : mtL[137]? = some q_137 := rfl
def q_138 : mQ := (yX7_isCorner, cX7_isCorner, 2, (some FieldType.boolean), 1, 7, 0, 0)
theorem qm_138 : mtL[138]? = some q_138 := rfl
def q_139 : mQ := (yX7_ends, cX7_ends, 2, (some FieldType.int), 1, 7, 0, 0)
theorem qm_139 : mtL[139]? = some q_139 := rfl
def q_140 : mQ := (yX7_changed, cX7_changed, 2, none, 0, 7, 0, 0)
theorem qm_140 : mtL[140]? = some q_140 := rfl
def q_141 : mQ := (yX7_mark, cX7_mark, 4, (some FieldType.int), 3, 7, 0, 0)
theorem qm_141 : mtL[141]? = some q_141 := rfl
def q_142 : mQ := (yX7_marks, cX7_marks, 5, (some FieldType.int), 3, 7, 0, 0)
theorem qm_142 : mtL[142]? = some q_142 := rfl
def q_143 : mQ := (yX7_isCrease, cX7_isCrease, 3, (some FieldType.boolean), 2, 7, 0, 0)
theorem qm_143 : mtL[143]? = some q_143 := rfl
def q_144 : mQ := (yX7_isPiece, cX7_isPiece, 2, (some FieldType.boolean), 1, 7, 0, 0)
theorem qm_144 : mtL[144]? = some q_144 := rfl
def q_145 : mQ := (yX7_isFolded, cX7_isFolded, 2, (some FieldType.boolean), 1, 7, 0, 0)
theorem qm_145 : mtL[145]? = some q_145 := rfl
def q_146 : mQ := (yX7_creaseOf, cX7_creaseOf, 3, (some FieldType.int), 2, 7, 0, 0)
theorem qm_146 : mtL[146]? = some q_146 := rfl
def q_147 : mQ := (yX7_turn, cX7_turn, 2, (some FieldType.int), 1, 7, 0, 0)
theorem qm_147 : mtL[147]? = some q_147 := rfl
def q_148 : mQ := (yX7_turns, cX7_turns, 4, (some FieldType.int), 1, 7, 0, 0)
theorem qm_148 : mtL[148]? = some q_148 := rfl
def q_149 : mQ := (yX7_countOf, cX7_countOf, 5, (some FieldType.int), 2, 7, 0, 0)
theorem qm_149 : mtL[149]? = some q_149 := rfl
def q_150 : mQ := (yX7_rotate, cX7_rotate, 3, (some FieldType.int), 2, 7, 0, 0)
theorem qm_150 : mtL[150]? = some q_150 := rfl
def q_151 : mQ := (yX7_rotates, cX7_rotates, 6, (some FieldType.int), 2, 7, 0, 0)
theorem qm_151 : mtL[151]? = some q_151 := rfl
def q_152 : mQ := (yX7_sizeOf, cX7_sizeOf, 3, (some FieldType.int), 2, 7, 0, 0)
theorem qm_152 : mtL[152]? = some q_152 := rfl
def q_153 : mQ := (yX7_join, cX7_join, 4, (some FieldType.int), 3, 7, 0, 0)
theorem qm_153 : mtL[153]? = some q_153 := rfl
def q_154 : mQ := (yX7_joins, cX7_joins, 7, (some FieldType.int), 3, 7, 0, 0)
theorem qm_154 : mtL[154]? = some q_154 := rfl
def q_155 : mQ := (yX7_goes, cX7_goes, 3, none, 1, 7, 0, 0)
theorem qm_155 : mtL[155]? = some q_155 := rfl
def q_156 : mQ := (yX7_cut, cX7_cut, 3, (some FieldType.int), 2, 7, 0, 0)
theorem qm_156 : mtL[156]? = some q_156 := rfl
def q_157 : mQ := (yX7_cuts, cX7_cuts, 7, (some FieldType.int), 2, 7, 0, 0)
theorem qm_157 : mtL[157]? = some q_157 := rfl
def q_158 : mQ := (yX7_lesser, cX7_lesser, 2, (some FieldType.int), 2, 7, 0, 0)
theorem qm_158 : mtL[158]? = some q_158 := rfl
def q_159 : mQ := (yX7_why, cX7_why, 2, (some FieldType.int), 1, 7, 0, 0)
theorem qm_159 : mtL[159]? = some q_159 := rfl
def q_160 : mQ := (yX7_whyNot, cX7_whyNot, 3, (some FieldType.int), 1, 7, 0, 0)
theorem qm_160 : mtL[160]? = some q_160 := rfl
def q_161 : mQ := (yX7_evenAngles, cX7_evenAngles, 4, (some FieldType.int), 1, 7, 0, 0)
theorem qm_161 : mtL[161]? = some q_161 := rfl
def q_162 : mQ := (yX7_hasSharp, cX7_hasSharp, 6, (some FieldType.boolean), 1, 7, 0, 0)
theorem qm_162 : mtL[162]? = some q_162 := rfl
def q_163 : mQ := (yX7_foldsNow, cX7_foldsNow, 2, (some FieldType.boolean), 1, 7, 0, 0)
theorem qm_163 : mtL[163]? = some q_163 := rfl
def q_164 : mQ := (yX7_lays, cX7_lays, 3, none, 1, 7, 0, 0)
theorem qm_164 : mtL[164]? = some q_164 := rfl
def q_165 : mQ := (yX7_folds, cX7_folds, 2, (some FieldType.boolean), 0, 7, 0, 0)
theorem qm_165 : mtL[165]? = some q_165 := rfl
def q_166 : mQ := (yX7_reduces, cX7_reduces, 3, (some FieldType.int), 0, 7, 0, 0)
theorem qm_166 : mtL[166]? = some q_166 := rfl
def q_167 : mQ := (yX7_stepNow, cX7_stepNow, 2, (some FieldType.int), 0, 7, 0, 0)
theorem qm_167 : mtL[167]? = some q_167 := rfl
def q_168 : mQ := (yX7_crimped, cX7_crimped, 6, (some FieldType.int), 0, 7, 0, 0)
theorem qm_168 : mtL[168]? = some q_168 := rfl
def q_169 : mQ := (yX7_makes, cX7_makes, 2, none, 1, 7, 0, 0)
theorem qm_169 : mtL[169]? = some q_169 := rfl
def q_170 : mQ := (yX7_dropsSize, cX7_dropsSize, 3, none, 1, 7, 0, 0)
theorem qm_170 : mtL[170]? = some q_170 := rfl
def q_171 : mQ := (yX7_dropsCrease, cX7_dropsCrease, 3, none, 1, 7, 0, 0)
theorem qm_171 : mtL[171]? = some q_171 := rfl
def q_172 : mQ := (yX7_crimpsCorner, cX7_crimpsCorner, 6, none, 1, 7, 0, 0)
theorem qm_172 : mtL[172]? = some q_172 := rfl
def q_173 : mQ := (yX7_greater, cX7_greater, 2, (some FieldType.int), 2, 7, 0, 0)
theorem qm_173 : mtL[173]? = some q_173 := rfl
def q_174 : mQ := (yX7_crimpsStrip, cX7_crimpsStrip, 2, none, 1, 7, 0, 0)
theorem qm_174 : mtL[174]? = some q_174 := rfl
def q_175 : mQ := (yX7_step, cX7_step, 3, (some FieldType.int), 1, 7, 0, 0)
theorem qm_175 : mtL[175]? = some q_175 := rfl
def q_176 : mQ := (yX7_steps, cX7_steps, 2, (some FieldType.int), 1, 7, 0, 0)
theorem qm_176 : mtL[176]? = some q_176 := rfl
def q_177 : mQ := (yX7_ways, cX7_ways, 4, (some FieldType.int), 1, 7, 0, 0)
theorem qm_177 : mtL[177]? = some q_177 := rfl
def q_178 : mQ := (yX7_otherwise, cX7_otherwise, 6, (some FieldType.int), 2, 7, 0, 0)
theorem qm_178 : mtL[178]? = some q_178 := rfl
def q_179 : mQ := (yX7_foldsBy, cX7_foldsBy, 3, (some FieldType.boolean), 2, 7, 0, 0)
theorem qm_179 : mtL[179]? = some q_179 := rfl
def q_180 : mQ := (yX7_laysBy, cX7_laysBy, 4, none, 2, 7, 0, 0)
theorem qm_180 : mtL[180]? = some q_180 := rfl
def q_181 : mQ := (yX7_fewest, cX7_fewest, 5, (some FieldType.int), 1, 7, 0, 0)
theorem qm_181 : mtL[181]? = some q_181 := rfl
def q_182 : mQ := (yX7_stage, cX7_stage, 2, (some FieldType.int), 1, 7, 0, 0)
theorem qm_182 : mtL[182]? = some q_182 := rfl
def q_183 : mQ := (yX7_stages, cX7_stages, 3, (some FieldType.int), 1, 7, 0, 0)
theorem qm_183 : mtL[183]? = some q_183 := rfl
def q_184 : mQ := (yX7_used, cX7_used, 3, (some FieldType.int), 0, 7, 0, 0)
theorem qm_184 : mtL[184]? = some q_184 := rfl
def q_185 : mQ := (yX7_widthOf, cX7_widthOf, 5, (some FieldType.int), 1, 7, 0, 0)
theorem qm_185 : mtL[185]? = some q_185 := rfl
def q_186 : mQ := (yX7_placeOf, cX7_placeOf, 5, (some FieldType.int), 2, 7, 0, 0)
theorem qm_186 : mtL[186]? = some q_186 := rfl
def q_187 : mQ := (yX7_fold, cX7_fold, 2, (some FieldType.int), 1, 7, 0, 0)
theorem qm_187 : mtL[187]? = some q_187 := rfl
def q_188 : mQ := (yX7_foldsOnStage, cX7_foldsOnStage, 4, (some FieldType.int), 1, 7, 0, 0)
theorem qm_188 : mtL[188]? = some q_188 := rfl
def q_189 : mQ := (yX7_lowestOpen, cX7_lowestOpen, 3, (some FieldType.int), 1, 7, 0, 0)
theorem qm_189 : mtL[189]? = some q_189 := rfl
def q_190 : mQ := (yX7_unfold, cX7_unfold, 2, (some FieldType.int), 1, 7, 0, 0)
theorem qm_190 : mtL[190]? = some q_190 := rfl
def q_191 : mQ := (yX7_unfolds, cX7_unfolds, 2, (some FieldType.int), 1, 7, 0, 0)
theorem qm_191 : mtL[191]? = some q_191 := rfl
def q_192 : mQ := (yX7_drop, cX7_drop, 2, (some FieldType.int), 1, 7, 0, 0)
theorem qm_192 : mtL[192]? = some q_192 := rfl
def q_193 : mQ := (yX7_drops, cX7_drops, 2, (some FieldType.int), 1, 7, 0, 0)
theorem qm_193 : mtL[193]? = some q_193 := rfl
def q_194 : mQ := (yX7_piece, cX7_piece, 3, (some FieldType.int), 2, 7, 0, 0)
theorem qm_194 : mtL[194]? = some q_194 := rfl
def q_195 : mQ := (yX7_sumOf, cX7_sumOf, 4, (some FieldType.int), 1, 7, 0, 0)
theorem qm_195 : mtL[195]? = some q_195 := rfl
def q_196 : mQ := (yX7_size, cX7_size, 3, (some FieldType.int), 2, 7, 0, 0)
theorem qm_196 : mtL[196]? = some q_196 := rfl
def q_197 : mQ := (yX7_crease, cX7_crease, 3, (some FieldType.int), 2, 7, 0, 0)
theorem qm_197 : mtL[197]? = some q_197 := rfl
def q_198 : mQ := (yX7_foldsAgain, cX7_foldsAgain, 3, (some FieldType.int), 1, 7, 0, 0)
theorem qm_198 : mtL[198]? = some q_198 := rfl
def q_199 : mQ := (yX7_wrongStrip, cX7_wrongStrip, 2, (some FieldType.int), 1, 7, 0, 0)
theorem qm_199 : mtL[199]? = some q_199 := rfl
def q_200 : mQ := (yX7_ordersOf, cX7_ordersOf, 3, (some FieldType.int), 1, 7, 0, 0)
theorem qm_200 : mtL[200]? = some q_200 := rfl
def q_201 : mQ := (yX7_gives, cX7_gives, 3, none, 1, 7, 0, 0)
theorem qm_201 : mtL[201]? = some q_201 := rfl
def q_202 : mQ := (yX7_isPossible, cX7_isPossible, 2, (some FieldType.boolean), 0, 7, 0, 0)
theorem qm_202 : mtL[202]? = some q_202 := rfl
def q_203 : mQ := (yX7_collides, cX7_collides, 4, (some FieldType.boolean), 1, 7, 0, 0)
theorem qm_203 : mtL[203]? = some q_203 := rfl
def q_204 : mQ := (yX7_reachesOver, cX7_reachesOver, 3, (some FieldType.boolean), 2, 7, 0, 0)
theorem qm_204 : mtL[204]? = some q_204 := rfl
def q_205 : mQ := (yX7_isBetween, cX7_isBetween, 5, (some FieldType.boolean), 2, 7, 0, 0)
theorem qm_205 : mtL[205]? = some q_205 := rfl
def q_206 : mQ := (yX7_isAbove, cX7_isAbove, 2, (some FieldType.boolean), 1, 7, 0, 0)
theorem qm_206 : mtL[206]? = some q_206 := rfl
def q_207 : mQ := (yX7_orders, cX7_orders, 3, (some FieldType.int), 1, 7, 0, 0)
theorem qm_207 : mtL[207]? = some q_207 := rfl
def q_208 : mQ := (yX7_layer, cX7_layer, 4, (some FieldType.int), 2, 7, 0, 0)
theorem qm_208 : mtL[208]? = some q_208 := rfl
def q_209 : mQ := (yX7_isStripWithout, cX7_isStripWithout, 4, (some FieldType.boolean), 3, 7, 0, 0)
theorem qm_209 : mtL[209]? = some q_209 := rfl
def q_210 : mQ := (yX7_place, cX7_place, 3, (some FieldType.int), 2, 7, 0, 0)
theorem qm_210 : mtL[210]? = some q_210 := rfl
def q_211 : mQ := (yX7_thickest, cX7_thickest, 7, (some FieldType.int), 1, 7, 0, 0)
theorem qm_211 : mtL[211]? = some q_211 := rfl
def q_212 : mQ := (yX7_overAt, cX7_overAt, 7, (some FieldType.int), 2, 7, 0, 0)
theorem qm_212 : mtL[212]? = some q_212 := rfl
def q_213 : mQ := (yX7_reflected, cX7_reflected, 5, (some FieldType.int), 1, 7, 0, 0)
theorem qm_213 : mtL[213]? = some q_213 := rfl
def q_214 : mQ := (yX7_append, cX7_append, 2, (some FieldType.int), 1, 7, 0, 0)
theorem qm_214 : mtL[214]? = some q_214 := rfl
def q_215 : mQ := (yX7_read, cX7_read, 2, (some FieldType.int), 0, 7, 0, 0)
theorem qm_215 : mtL[215]? = some q_215 := rfl
def q_216 : mQ := (yX7_isText, cX7_isText, 2, (some FieldType.boolean), 0, 7, 0, 0)
theorem qm_216 : mtL[216]? = some q_216 := rfl
def q_217 : mQ := (yX7_readsCommand, cX7_readsCommand, 1, (some FieldType.boolean), 0, 7, 0, 0)
theorem qm_217 : mtL[217]? = some q_217 := rfl
def q_218 : mQ := (yX7_sign, cX7_sign, 1, (some FieldType.int), 0, 7, 0, 0)
theorem qm_218 : mtL[218]? = some q_218 := rfl
def q_219 : mQ := (yX7_readsSizes, cX7_readsSizes, 2, (some FieldType.boolean), 0, 7, 0, 0)
theorem qm_219 : mtL[219]? = some q_219 := rfl
def q_220 : mQ := (yX7_takes, cX7_takes, 3, (some FieldType.boolean), 1, 7, 0, 0)
theorem qm_220 : mtL[220]? = some q_220 := rfl
def q_221 : mQ := (yX7_readsSigns, cX7_readsSigns, 1, (some FieldType.boolean), 0, 7, 0, 0)
theorem qm_221 : mtL[221]? = some q_221 := rfl
def q_222 : mQ := (yX7_kindOf, cX7_kindOf, 1, (some FieldType.int), 1, 7, 0, 0)
theorem qm_222 : mtL[222]? = some q_222 := rfl
def q_223 : mQ := (yX7_digit, cX7_digit, 1, (some FieldType.int), 0, 7, 0, 0)
theorem qm_223 : mtL[223]? = some q_223 := rfl
def q_224 : mQ := (yX7_readsMark, cX7_readsMark, 1, (some FieldType.boolean), 0, 7, 0, 0)
theorem qm_224 : mtL[224]? = some q_224 := rfl
def q_225 : mQ := (yX7_doesAll, cX7_doesAll, 4, (some FieldType.int), 0, 7, 0, 0)
theorem qm_225 : mtL[225]? = some q_225 := rfl
def q_226 : mQ := (yX7_does, cX7_does, 1, (some FieldType.int), 0, 7, 0, 0)
theorem qm_226 : mtL[226]? = some q_226 := rfl
def q_227 : mQ := (yX7_addsSigned, cX7_addsSigned, 3, (some FieldType.int), 0, 7, 0, 0)
theorem qm_227 : mtL[227]? = some q_227 := rfl
def q_228 : mQ := (yX7_refusal, cX7_refusal, 2, (some FieldType.int), 1, 7, 0, 0)
theorem qm_228 : mtL[228]? = some q_228 := rfl
def q_229 : mQ := (yX7_account, cX7_account, 2, (some FieldType.int), 1, 7, 0, 0)
theorem qm_229 : mtL[229]? = some q_229 := rfl
def q_230 : mQ := (yX7_allOf, cX7_allOf, 4, (some FieldType.int), 1, 7, 0, 0)
theorem qm_230 : mtL[230]? = some q_230 := rfl
def q_231 : mQ := (yX7_panelsOfAll, cX7_panelsOfAll, 3, (some FieldType.int), 0, 7, 0, 0)
theorem qm_231 : mtL[231]? = some q_231 := rfl
def q_232 : mQ := (yX7_share, cX7_share, 1, (some FieldType.int), 0, 7, 0, 0)
theorem qm_232 : mtL[232]? = some q_232 := rfl
def q_233 : mQ := (yX7_undo, cX7_undo, 1, (some FieldType.int), 0, 7, 0, 0)
theorem qm_233 : mtL[233]? = some q_233 := rfl
def q_234 : mQ := (yX7_save, cX7_save, 1, (some FieldType.int), 0, 7, 0, 0)
theorem qm_234 : mtL[234]? = some q_234 := rfl
def q_235 : mQ := (yX7_restore, cX7_restore, 1, (some FieldType.int), 0, 7, 0, 0)
theorem qm_235 : mtL[235]? = some q_235 := rfl
def q_236 : mQ := (yJ9_floorMod_7cf53, cJ9_floorMod_7cf53, 3, (some FieldType.int), 2, 9, 0, 0)
theorem qm_236 : mtL[236]? = some q_236 := rfl
def q_237 : mQ := (yJxf58ca_floatToIntBits_5c35a, cJxf58ca_floatToIntBits_5c35a, 1, (some FieldType.int), 1, 10, 0, 0)
theorem qm_237 : mtL[237]? = some q_237 := rfl
def q_238 : mQ := (yJxf58ca_isNaN_12338, cJxf58ca_isNaN_12338, 1, (some FieldType.boolean), 1, 10, 0, 0)
theorem qm_238 : mtL[238]? = some q_238 := rfl
