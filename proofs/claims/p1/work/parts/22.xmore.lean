/-! the class, on a fresh object: stage, append, read, refusal, account, save (written by a program) -/
theorem dX0_push_0 : decode cX0_push 0 = .ok (.aload_n 0, 1) := by decide +kernel
theorem dX0_push_1 : decode cX0_push 1 = .ok (.aload_n 0, 1) := by decide +kernel
theorem dX0_push_2 : decode cX0_push 2 = .ok (.getfield 18, 3) := by decide +kernel
theorem dX0_push_5 : decode cX0_push 5 = .ok (.invokevirtual 22, 3) := by decide +kernel
theorem dX0_push_8 : decode cX0_push 8 = .ok (.astore_n 2, 1) := by decide +kernel
theorem dX0_push_9 : decode cX0_push 9 = .ok (.aload_n 2, 1) := by decide +kernel
theorem dX0_push_10 : decode cX0_push 10 = .ok (.ifnull 53, 3) := by decide +kernel
theorem dX0_push_13 : decode cX0_push 13 = .ok (.aload_n 0, 1) := by decide +kernel
theorem dX0_push_14 : decode cX0_push 14 = .ok (.getfield 26, 3) := by decide +kernel
theorem dX0_push_17 : decode cX0_push 17 = .ok (.ifCond .ne 46, 3) := by decide +kernel
theorem dX0_push_20 : decode cX0_push 20 = .ok (.aload_n 2, 1) := by decide +kernel
theorem dX0_push_21 : decode cX0_push 21 = .ok (.aload_n 1, 1) := by decide +kernel
theorem dX0_push_22 : decode cX0_push 22 = .ok (.invokevirtual 30, 3) := by decide +kernel
theorem dX0_push_25 : decode cX0_push 25 = .ok (.aload_n 0, 1) := by decide +kernel
theorem dX0_push_26 : decode cX0_push 26 = .ok (.aload_n 0, 1) := by decide +kernel
theorem dX0_push_27 : decode cX0_push 27 = .ok (.getfield 18, 3) := by decide +kernel
theorem dX0_push_30 : decode cX0_push 30 = .ok (.bipush 7, 2) := by decide +kernel
theorem dX0_push_32 : decode cX0_push 32 = .ok (.if_icmp .ge 12, 3) := by decide +kernel
theorem dX0_push_35 : decode cX0_push 35 = .ok (.aload_n 0, 1) := by decide +kernel
theorem dX0_push_36 : decode cX0_push 36 = .ok (.getfield 18, 3) := by decide +kernel
theorem dX0_push_39 : decode cX0_push 39 = .ok (.iconst 1, 1) := by decide +kernel
theorem dX0_push_40 : decode cX0_push 40 = .ok (.iadd, 1) := by decide +kernel
theorem dX0_push_41 : decode cX0_push 41 = .ok (.goto 4, 3) := by decide +kernel
theorem dX0_push_45 : decode cX0_push 45 = .ok (.putfield 18, 3) := by decide +kernel
theorem dX0_push_48 : decode cX0_push 48 = .ok (.aload_n 0, 1) := by decide +kernel
theorem dX0_push_49 : decode cX0_push 49 = .ok (.aload_n 0, 1) := by decide +kernel
theorem dX0_push_50 : decode cX0_push 50 = .ok (.getfield 34, 3) := by decide +kernel
theorem dX0_push_53 : decode cX0_push 53 = .ok (.iconst 1, 1) := by decide +kernel
theorem dX0_push_54 : decode cX0_push 54 = .ok (.iadd, 1) := by decide +kernel
theorem dX0_push_55 : decode cX0_push 55 = .ok (.bipush 8, 2) := by decide +kernel
theorem dX0_push_57 : decode cX0_push 57 = .ok (.invokestatic 37, 3) := by decide +kernel
theorem dX0_push_60 : decode cX0_push 60 = .ok (.putfield 34, 3) := by decide +kernel
theorem dX0_push_63 : decode cX0_push 63 = .ok (.return_, 1) := by decide +kernel
theorem dX0_stateAt_0 : decode cX0_stateAt 0 = .ok (.iload_n 1, 1) := by decide +kernel
theorem dX0_stateAt_1 : decode cX0_stateAt 1 = .ok (.ifCond .lt 21, 3) := by decide +kernel
theorem dX0_stateAt_4 : decode cX0_stateAt 4 = .ok (.iload_n 1, 1) := by decide +kernel
theorem dX0_stateAt_5 : decode cX0_stateAt 5 = .ok (.aload_n 0, 1) := by decide +kernel
theorem dX0_stateAt_6 : decode cX0_stateAt 6 = .ok (.getfield 11, 3) := by decide +kernel
theorem dX0_stateAt_9 : decode cX0_stateAt 9 = .ok (.arraylength, 1) := by decide +kernel
theorem dX0_stateAt_10 : decode cX0_stateAt 10 = .ok (.if_icmp .ge 12, 3) := by decide +kernel
theorem dX0_stateAt_13 : decode cX0_stateAt 13 = .ok (.aload_n 0, 1) := by decide +kernel
theorem dX0_stateAt_14 : decode cX0_stateAt 14 = .ok (.getfield 11, 3) := by decide +kernel
theorem dX0_stateAt_17 : decode cX0_stateAt 17 = .ok (.iload_n 1, 1) := by decide +kernel
theorem dX0_stateAt_18 : decode cX0_stateAt 18 = .ok (.aaload, 1) := by decide +kernel
theorem dX0_stateAt_19 : decode cX0_stateAt 19 = .ok (.goto 4, 3) := by decide +kernel
theorem dX0_stateAt_23 : decode cX0_stateAt 23 = .ok (.areturn, 1) := by decide +kernel
theorem dX4_clear_0 : decode cX4_clear 0 = .ok (.aload_n 0, 1) := by decide +kernel
theorem dX4_clear_1 : decode cX4_clear 1 = .ok (.iconst 0, 1) := by decide +kernel
theorem dX4_clear_2 : decode cX4_clear 2 = .ok (.putfield 15, 3) := by decide +kernel
theorem dX4_clear_5 : decode cX4_clear 5 = .ok (.return_, 1) := by decide +kernel
theorem dX4_faultPosition_0 : decode cX4_faultPosition 0 = .ok (.aload_n 0, 1) := by decide +kernel
theorem dX4_faultPosition_1 : decode cX4_faultPosition 1 = .ok (.invokevirtual 26, 3) := by decide +kernel
theorem dX4_faultPosition_4 : decode cX4_faultPosition 4 = .ok (.iconst 0, 1) := by decide +kernel
theorem dX4_faultPosition_5 : decode cX4_faultPosition 5 = .ok (.istore_n 1, 1) := by decide +kernel
theorem dX4_faultPosition_6 : decode cX4_faultPosition 6 = .ok (.iload_n 1, 1) := by decide +kernel
theorem dX4_faultPosition_7 : decode cX4_faultPosition 7 = .ok (.bipush 80, 2) := by decide +kernel
theorem dX4_faultPosition_9 : decode cX4_faultPosition 9 = .ok (.if_icmp .ge 45, 3) := by decide +kernel
theorem dX4_faultPosition_12 : decode cX4_faultPosition 12 = .ok (.aload_n 0, 1) := by decide +kernel
theorem dX4_faultPosition_13 : decode cX4_faultPosition 13 = .ok (.invokevirtual 29, 3) := by decide +kernel
theorem dX4_faultPosition_16 : decode cX4_faultPosition 16 = .ok (.ifCond .eq 38, 3) := by decide +kernel
theorem dX4_faultPosition_54 : decode cX4_faultPosition 54 = .ok (.aload_n 0, 1) := by decide +kernel
theorem dX4_faultPosition_55 : decode cX4_faultPosition 55 = .ok (.getfield 23, 3) := by decide +kernel
theorem dX4_faultPosition_58 : decode cX4_faultPosition 58 = .ok (.ireturn, 1) := by decide +kernel
theorem dX4_rewind_0 : decode cX4_rewind 0 = .ok (.aload_n 0, 1) := by decide +kernel
theorem dX4_rewind_1 : decode cX4_rewind 1 = .ok (.iconst 0, 1) := by decide +kernel
theorem dX4_rewind_2 : decode cX4_rewind 2 = .ok (.putfield 23, 3) := by decide +kernel
theorem dX4_rewind_5 : decode cX4_rewind 5 = .ok (.return_, 1) := by decide +kernel
theorem dX4_takeCommand_0 : decode cX4_takeCommand 0 = .ok (.aload_n 0, 1) := by decide +kernel
theorem dX4_takeCommand_1 : decode cX4_takeCommand 1 = .ok (.aload_n 0, 1) := by decide +kernel
theorem dX4_takeCommand_2 : decode cX4_takeCommand 2 = .ok (.invokevirtual 37, 3) := by decide +kernel
theorem dX4_takeCommand_5 : decode cX4_takeCommand 5 = .ok (.putfield 41, 3) := by decide +kernel
theorem dX4_takeCommand_8 : decode cX4_takeCommand 8 = .ok (.aload_n 0, 1) := by decide +kernel
theorem dX4_takeCommand_9 : decode cX4_takeCommand 9 = .ok (.getfield 41, 3) := by decide +kernel
theorem dX4_takeCommand_12 : decode cX4_takeCommand 12 = .ok (.tableswitch 213 99 120 #[104, 213, 213, 198, 213, 213, 213, 213, 213, 213, 143, 213, 213, 213, 213, 213, 104, 198, 198, 213, 213, 198], 104) := by decide +kernel
theorem dX4_takeCommand_225 : decode cX4_takeCommand 225 = .ok (.iconst 0, 1) := by decide +kernel
theorem dX4_takeCommand_226 : decode cX4_takeCommand 226 = .ok (.ireturn, 1) := by decide +kernel
theorem dX4_write_0 : decode cX4_write 0 = .ok (.aload_n 0, 1) := by decide +kernel
theorem dX4_write_1 : decode cX4_write 1 = .ok (.getfield 9, 3) := by decide +kernel
theorem dX4_write_4 : decode cX4_write 4 = .ok (.aload_n 0, 1) := by decide +kernel
theorem dX4_write_5 : decode cX4_write 5 = .ok (.getfield 15, 3) := by decide +kernel
theorem dX4_write_8 : decode cX4_write 8 = .ok (.iload_n 1, 1) := by decide +kernel
theorem dX4_write_9 : decode cX4_write 9 = .ok (.invokestatic 19, 3) := by decide +kernel
theorem dX4_write_12 : decode cX4_write 12 = .ok (.aload_n 0, 1) := by decide +kernel
theorem dX4_write_13 : decode cX4_write 13 = .ok (.dup, 1) := by decide +kernel
theorem dX4_write_14 : decode cX4_write 14 = .ok (.getfield 15, 3) := by decide +kernel
theorem dX4_write_17 : decode cX4_write 17 = .ok (.iconst 1, 1) := by decide +kernel
theorem dX4_write_18 : decode cX4_write 18 = .ok (.iadd, 1) := by decide +kernel
theorem dX4_write_19 : decode cX4_write 19 = .ok (.putfield 15, 3) := by decide +kernel
theorem dX4_write_22 : decode cX4_write 22 = .ok (.return_, 1) := by decide +kernel
theorem dX5_copyFrom_0 : decode cX5_copyFrom 0 = .ok (.aload_n 0, 1) := by decide +kernel
theorem dX5_copyFrom_1 : decode cX5_copyFrom 1 = .ok (.aload_n 1, 1) := by decide +kernel
theorem dX5_copyFrom_2 : decode cX5_copyFrom 2 = .ok (.getfield 22, 3) := by decide +kernel
theorem dX5_copyFrom_5 : decode cX5_copyFrom 5 = .ok (.putfield 22, 3) := by decide +kernel
theorem dX5_copyFrom_8 : decode cX5_copyFrom 8 = .ok (.aload_n 0, 1) := by decide +kernel
theorem dX5_copyFrom_9 : decode cX5_copyFrom 9 = .ok (.aload_n 1, 1) := by decide +kernel
theorem dX5_copyFrom_10 : decode cX5_copyFrom 10 = .ok (.getfield 17, 3) := by decide +kernel
theorem dX5_copyFrom_13 : decode cX5_copyFrom 13 = .ok (.putfield 17, 3) := by decide +kernel
theorem dX5_copyFrom_16 : decode cX5_copyFrom 16 = .ok (.aload_n 0, 1) := by decide +kernel
theorem dX5_copyFrom_17 : decode cX5_copyFrom 17 = .ok (.aload_n 1, 1) := by decide +kernel
theorem dX5_copyFrom_18 : decode cX5_copyFrom 18 = .ok (.getfield 25, 3) := by decide +kernel
theorem dX5_copyFrom_21 : decode cX5_copyFrom 21 = .ok (.putfield 25, 3) := by decide +kernel
theorem dX5_copyFrom_24 : decode cX5_copyFrom 24 = .ok (.iconst 0, 1) := by decide +kernel
theorem dX5_copyFrom_25 : decode cX5_copyFrom 25 = .ok (.istore_n 2, 1) := by decide +kernel
theorem dX5_copyFrom_26 : decode cX5_copyFrom 26 = .ok (.iload_n 2, 1) := by decide +kernel
theorem dX5_copyFrom_27 : decode cX5_copyFrom 27 = .ok (.aload_n 0, 1) := by decide +kernel
theorem dX5_copyFrom_28 : decode cX5_copyFrom 28 = .ok (.getfield 22, 3) := by decide +kernel
theorem dX5_copyFrom_31 : decode cX5_copyFrom 31 = .ok (.if_icmp .ge 37, 3) := by decide +kernel
theorem dX5_copyFrom_68 : decode cX5_copyFrom 68 = .ok (.return_, 1) := by decide +kernel
theorem dX6_account_0 : decode cX6_account 0 = .ok (.iload_n 1, 1) := by decide +kernel
theorem dX6_account_1 : decode cX6_account 1 = .ok (.tableswitch 184 0 12 #[67, 75, 84, 93, 101, 109, 125, 133, 142, 151, 160, 168, 176], 67) := by decide +kernel
theorem dX6_account_68 : decode cX6_account 68 = .ok (.aload_n 0, 1) := by decide +kernel
theorem dX6_account_69 : decode cX6_account 69 = .ok (.getfield 10, 3) := by decide +kernel
theorem dX6_account_72 : decode cX6_account 72 = .ok (.getfield 87, 3) := by decide +kernel
theorem dX6_account_75 : decode cX6_account 75 = .ok (.ireturn, 1) := by decide +kernel
theorem dX6_account_76 : decode cX6_account 76 = .ok (.aload_n 0, 1) := by decide +kernel
theorem dX6_account_77 : decode cX6_account 77 = .ok (.getfield 10, 3) := by decide +kernel
theorem dX6_account_80 : decode cX6_account 80 = .ok (.iconst 0, 1) := by decide +kernel
theorem dX6_account_81 : decode cX6_account 81 = .ok (.invokevirtual 252, 3) := by decide +kernel
theorem dX6_account_84 : decode cX6_account 84 = .ok (.ireturn, 1) := by decide +kernel
theorem dX6_account_85 : decode cX6_account 85 = .ok (.aload_n 0, 1) := by decide +kernel
theorem dX6_account_86 : decode cX6_account 86 = .ok (.getfield 10, 3) := by decide +kernel
theorem dX6_account_89 : decode cX6_account 89 = .ok (.iconst 1, 1) := by decide +kernel
theorem dX6_account_90 : decode cX6_account 90 = .ok (.invokevirtual 252, 3) := by decide +kernel
theorem dX6_account_93 : decode cX6_account 93 = .ok (.ireturn, 1) := by decide +kernel
theorem dX6_account_94 : decode cX6_account 94 = .ok (.aload_n 0, 1) := by decide +kernel
theorem dX6_account_95 : decode cX6_account 95 = .ok (.getfield 10, 3) := by decide +kernel
theorem dX6_account_98 : decode cX6_account 98 = .ok (.invokevirtual 255, 3) := by decide +kernel
theorem dX6_account_101 : decode cX6_account 101 = .ok (.ireturn, 1) := by decide +kernel
theorem dX6_account_102 : decode cX6_account 102 = .ok (.aload_n 0, 1) := by decide +kernel
theorem dX6_account_103 : decode cX6_account 103 = .ok (.getfield 10, 3) := by decide +kernel
theorem dX6_account_106 : decode cX6_account 106 = .ok (.getfield 76, 3) := by decide +kernel
theorem dX6_account_109 : decode cX6_account 109 = .ok (.ireturn, 1) := by decide +kernel
theorem dX6_account_110 : decode cX6_account 110 = .ok (.aload_n 0, 1) := by decide +kernel
theorem dX6_account_111 : decode cX6_account 111 = .ok (.getfield 10, 3) := by decide +kernel
theorem dX6_account_114 : decode cX6_account 114 = .ok (.getfield 76, 3) := by decide +kernel
theorem dX6_account_117 : decode cX6_account 117 = .ok (.aload_n 0, 1) := by decide +kernel
theorem dX6_account_118 : decode cX6_account 118 = .ok (.getfield 10, 3) := by decide +kernel
theorem dX6_account_121 : decode cX6_account 121 = .ok (.invokevirtual 64, 3) := by decide +kernel
theorem dX6_account_124 : decode cX6_account 124 = .ok (.isub, 1) := by decide +kernel
theorem dX6_account_125 : decode cX6_account 125 = .ok (.ireturn, 1) := by decide +kernel
theorem dX6_account_126 : decode cX6_account 126 = .ok (.aload_n 0, 1) := by decide +kernel
theorem dX6_account_127 : decode cX6_account 127 = .ok (.getfield 10, 3) := by decide +kernel
theorem dX6_account_130 : decode cX6_account 130 = .ok (.invokevirtual 258, 3) := by decide +kernel
theorem dX6_account_133 : decode cX6_account 133 = .ok (.ireturn, 1) := by decide +kernel
theorem dX6_account_134 : decode cX6_account 134 = .ok (.aload_n 0, 1) := by decide +kernel
theorem dX6_account_135 : decode cX6_account 135 = .ok (.getfield 10, 3) := by decide +kernel
theorem dX6_account_138 : decode cX6_account 138 = .ok (.iconst 1, 1) := by decide +kernel
theorem dX6_account_139 : decode cX6_account 139 = .ok (.invokevirtual 261, 3) := by decide +kernel
theorem dX6_account_142 : decode cX6_account 142 = .ok (.ireturn, 1) := by decide +kernel
theorem dX6_account_143 : decode cX6_account 143 = .ok (.aload_n 0, 1) := by decide +kernel
theorem dX6_account_144 : decode cX6_account 144 = .ok (.getfield 10, 3) := by decide +kernel
theorem dX6_account_147 : decode cX6_account 147 = .ok (.iconst 2, 1) := by decide +kernel
theorem dX6_account_148 : decode cX6_account 148 = .ok (.invokevirtual 261, 3) := by decide +kernel
theorem dX6_account_151 : decode cX6_account 151 = .ok (.ireturn, 1) := by decide +kernel
theorem dX6_account_152 : decode cX6_account 152 = .ok (.aload_n 0, 1) := by decide +kernel
theorem dX6_account_153 : decode cX6_account 153 = .ok (.getfield 10, 3) := by decide +kernel
theorem dX6_account_156 : decode cX6_account 156 = .ok (.iconst 0, 1) := by decide +kernel
theorem dX6_account_157 : decode cX6_account 157 = .ok (.invokevirtual 261, 3) := by decide +kernel
theorem dX6_account_160 : decode cX6_account 160 = .ok (.ireturn, 1) := by decide +kernel
theorem dX6_account_161 : decode cX6_account 161 = .ok (.aload_n 0, 1) := by decide +kernel
theorem dX6_account_162 : decode cX6_account 162 = .ok (.getfield 10, 3) := by decide +kernel
theorem dX6_account_165 : decode cX6_account 165 = .ok (.getfield 172, 3) := by decide +kernel
theorem dX6_account_168 : decode cX6_account 168 = .ok (.ireturn, 1) := by decide +kernel
theorem dX6_account_169 : decode cX6_account 169 = .ok (.aload_n 0, 1) := by decide +kernel
theorem dX6_account_170 : decode cX6_account 170 = .ok (.getfield 32, 3) := by decide +kernel
theorem dX6_account_173 : decode cX6_account 173 = .ok (.getfield 216, 3) := by decide +kernel
theorem dX6_account_176 : decode cX6_account 176 = .ok (.ireturn, 1) := by decide +kernel
theorem dX6_account_177 : decode cX6_account 177 = .ok (.aload_n 0, 1) := by decide +kernel
theorem dX6_account_178 : decode cX6_account 178 = .ok (.getfield 25, 3) := by decide +kernel
theorem dX6_account_181 : decode cX6_account 181 = .ok (.getfield 264, 3) := by decide +kernel
theorem dX6_account_184 : decode cX6_account 184 = .ok (.ireturn, 1) := by decide +kernel
theorem dX6_account_185 : decode cX6_account 185 = .ok (.sipush (-1002), 3) := by decide +kernel
theorem dX6_account_188 : decode cX6_account 188 = .ok (.ireturn, 1) := by decide +kernel
theorem dX6_append_0 : decode cX6_append 0 = .ok (.iload_n 1, 1) := by decide +kernel
theorem dX6_append_1 : decode cX6_append 1 = .ok (.bipush 32, 2) := by decide +kernel
theorem dX6_append_3 : decode cX6_append 3 = .ok (.if_icmp .lt 21, 3) := by decide +kernel
theorem dX6_append_6 : decode cX6_append 6 = .ok (.iload_n 1, 1) := by decide +kernel
theorem dX6_append_7 : decode cX6_append 7 = .ok (.bipush 126, 2) := by decide +kernel
theorem dX6_append_9 : decode cX6_append 9 = .ok (.if_icmp .gt 15, 3) := by decide +kernel
theorem dX6_append_12 : decode cX6_append 12 = .ok (.aload_n 0, 1) := by decide +kernel
theorem dX6_append_13 : decode cX6_append 13 = .ok (.getfield 32, 3) := by decide +kernel
theorem dX6_append_16 : decode cX6_append 16 = .ok (.getfield 216, 3) := by decide +kernel
theorem dX6_append_19 : decode cX6_append 19 = .ok (.bipush 80, 2) := by decide +kernel
theorem dX6_append_21 : decode cX6_append 21 = .ok (.if_icmp .lt 7, 3) := by decide +kernel
theorem dX6_append_24 : decode cX6_append 24 = .ok (.sipush (-1002), 3) := by decide +kernel
theorem dX6_append_27 : decode cX6_append 27 = .ok (.ireturn, 1) := by decide +kernel
theorem dX6_append_28 : decode cX6_append 28 = .ok (.aload_n 0, 1) := by decide +kernel
theorem dX6_append_29 : decode cX6_append 29 = .ok (.getfield 32, 3) := by decide +kernel
theorem dX6_append_32 : decode cX6_append 32 = .ok (.iload_n 1, 1) := by decide +kernel
theorem dX6_append_33 : decode cX6_append 33 = .ok (.invokevirtual 219, 3) := by decide +kernel
theorem dX6_append_36 : decode cX6_append 36 = .ok (.aload_n 0, 1) := by decide +kernel
theorem dX6_append_37 : decode cX6_append 37 = .ok (.getfield 32, 3) := by decide +kernel
theorem dX6_append_40 : decode cX6_append 40 = .ok (.getfield 216, 3) := by decide +kernel
theorem dX6_append_43 : decode cX6_append 43 = .ok (.ireturn, 1) := by decide +kernel
theorem dX6_put_0 : decode cX6_put 0 = .ok (.iload_n 1, 1) := by decide +kernel
theorem dX6_put_1 : decode cX6_put 1 = .ok (.ifCond .lt 13, 3) := by decide +kernel
theorem dX6_put_4 : decode cX6_put 4 = .ok (.iload_n 1, 1) := by decide +kernel
theorem dX6_put_5 : decode cX6_put 5 = .ok (.aload_n 0, 1) := by decide +kernel
theorem dX6_put_6 : decode cX6_put 6 = .ok (.arraylength, 1) := by decide +kernel
theorem dX6_put_7 : decode cX6_put 7 = .ok (.if_icmp .ge 7, 3) := by decide +kernel
theorem dX6_put_10 : decode cX6_put 10 = .ok (.aload_n 0, 1) := by decide +kernel
theorem dX6_put_11 : decode cX6_put 11 = .ok (.iload_n 1, 1) := by decide +kernel
theorem dX6_put_12 : decode cX6_put 12 = .ok (.iload_n 2, 1) := by decide +kernel
theorem dX6_put_13 : decode cX6_put 13 = .ok (.iastore, 1) := by decide +kernel
theorem dX6_put_14 : decode cX6_put 14 = .ok (.return_, 1) := by decide +kernel
theorem dX6_read_0 : decode cX6_read 0 = .ok (.aload_n 0, 1) := by decide +kernel
theorem dX6_read_1 : decode cX6_read 1 = .ok (.getfield 32, 3) := by decide +kernel
theorem dX6_read_4 : decode cX6_read 4 = .ok (.invokevirtual 222, 3) := by decide +kernel
theorem dX6_read_7 : decode cX6_read 7 = .ok (.istore_n 1, 1) := by decide +kernel
theorem dX6_read_8 : decode cX6_read 8 = .ok (.iload_n 1, 1) := by decide +kernel
theorem dX6_read_9 : decode cX6_read 9 = .ok (.sipush (-1004), 3) := by decide +kernel
theorem dX6_read_12 : decode cX6_read 12 = .ok (.if_icmp .eq 16, 3) := by decide +kernel
theorem dX6_read_15 : decode cX6_read 15 = .ok (.aload_n 0, 1) := by decide +kernel
theorem dX6_read_16 : decode cX6_read 16 = .ok (.getfield 32, 3) := by decide +kernel
theorem dX6_read_19 : decode cX6_read 19 = .ok (.invokevirtual 225, 3) := by decide +kernel
theorem dX6_read_22 : decode cX6_read 22 = .ok (.sipush (-2000), 3) := by decide +kernel
theorem dX6_read_25 : decode cX6_read 25 = .ok (.iload_n 1, 1) := by decide +kernel
theorem dX6_read_26 : decode cX6_read 26 = .ok (.isub, 1) := by decide +kernel
theorem dX6_read_27 : decode cX6_read 27 = .ok (.ireturn, 1) := by decide +kernel
theorem dX6_refusal_0 : decode cX6_refusal 0 = .ok (.iload_n 1, 1) := by decide +kernel
theorem dX6_refusal_1 : decode cX6_refusal 1 = .ok (.ifCond .lt 8, 3) := by decide +kernel
theorem dX6_refusal_4 : decode cX6_refusal 4 = .ok (.iload_n 1, 1) := by decide +kernel
theorem dX6_refusal_5 : decode cX6_refusal 5 = .ok (.iconst 2, 1) := by decide +kernel
theorem dX6_refusal_6 : decode cX6_refusal 6 = .ok (.if_icmp .le 7, 3) := by decide +kernel
theorem dX6_refusal_9 : decode cX6_refusal 9 = .ok (.sipush (-1002), 3) := by decide +kernel
theorem dX6_refusal_12 : decode cX6_refusal 12 = .ok (.ireturn, 1) := by decide +kernel
theorem dX6_refusal_13 : decode cX6_refusal 13 = .ok (.aload_n 0, 1) := by decide +kernel
theorem dX6_refusal_14 : decode cX6_refusal 14 = .ok (.getfield 246, 3) := by decide +kernel
theorem dX6_refusal_17 : decode cX6_refusal 17 = .ok (.ifCond .ne 7, 3) := by decide +kernel
theorem dX6_refusal_20 : decode cX6_refusal 20 = .ok (.sipush (-1004), 3) := by decide +kernel
theorem dX6_refusal_23 : decode cX6_refusal 23 = .ok (.ireturn, 1) := by decide +kernel
theorem dX6_save_0 : decode cX6_save 0 = .ok (.aload_n 0, 1) := by decide +kernel
theorem dX6_save_1 : decode cX6_save 1 = .ok (.getfield 19, 3) := by decide +kernel
theorem dX6_save_4 : decode cX6_save 4 = .ok (.aload_n 0, 1) := by decide +kernel
theorem dX6_save_5 : decode cX6_save 5 = .ok (.getfield 10, 3) := by decide +kernel
theorem dX6_save_8 : decode cX6_save 8 = .ok (.invokevirtual 228, 3) := by decide +kernel
theorem dX6_save_11 : decode cX6_save 11 = .ok (.aload_n 0, 1) := by decide +kernel
theorem dX6_save_12 : decode cX6_save 12 = .ok (.iconst 1, 1) := by decide +kernel
theorem dX6_save_13 : decode cX6_save 13 = .ok (.putfield 272, 3) := by decide +kernel
theorem dX6_save_16 : decode cX6_save 16 = .ok (.aload_n 0, 1) := by decide +kernel
theorem dX6_save_17 : decode cX6_save 17 = .ok (.getfield 10, 3) := by decide +kernel
theorem dX6_save_20 : decode cX6_save 20 = .ok (.getfield 87, 3) := by decide +kernel
theorem dX6_save_23 : decode cX6_save 23 = .ok (.ireturn, 1) := by decide +kernel
theorem dX6_stage_0 : decode cX6_stage 0 = .ok (.iload_n 1, 1) := by decide +kernel
theorem dX6_stage_1 : decode cX6_stage 1 = .ok (.iconst 1, 1) := by decide +kernel
theorem dX6_stage_2 : decode cX6_stage 2 = .ok (.if_icmp .lt 9, 3) := by decide +kernel
theorem dX6_stage_5 : decode cX6_stage 5 = .ok (.iload_n 1, 1) := by decide +kernel
theorem dX6_stage_6 : decode cX6_stage 6 = .ok (.bipush 99, 2) := by decide +kernel
theorem dX6_stage_8 : decode cX6_stage 8 = .ok (.if_icmp .le 7, 3) := by decide +kernel
theorem dX6_stage_11 : decode cX6_stage 11 = .ok (.sipush (-1002), 3) := by decide +kernel
theorem dX6_stage_14 : decode cX6_stage 14 = .ok (.ireturn, 1) := by decide +kernel
theorem dX6_stage_15 : decode cX6_stage 15 = .ok (.aload_n 0, 1) := by decide +kernel
theorem dX6_stage_16 : decode cX6_stage 16 = .ok (.getfield 10, 3) := by decide +kernel
theorem dX6_stage_19 : decode cX6_stage 19 = .ok (.invokevirtual 64, 3) := by decide +kernel
theorem dX6_stage_22 : decode cX6_stage 22 = .ok (.iload_n 1, 1) := by decide +kernel
theorem dX6_stage_23 : decode cX6_stage 23 = .ok (.isub, 1) := by decide +kernel
theorem dX6_stage_24 : decode cX6_stage 24 = .ok (.istore_n 2, 1) := by decide +kernel
theorem dX6_stage_25 : decode cX6_stage 25 = .ok (.iload_n 2, 1) := by decide +kernel
theorem dX6_stage_26 : decode cX6_stage 26 = .ok (.ifCond .le 11, 3) := by decide +kernel
theorem dX6_stage_37 : decode cX6_stage 37 = .ok (.aload_n 0, 1) := by decide +kernel
theorem dX6_stage_38 : decode cX6_stage 38 = .ok (.getfield 25, 3) := by decide +kernel
theorem dX6_stage_41 : decode cX6_stage 41 = .ok (.aload_n 0, 1) := by decide +kernel
theorem dX6_stage_42 : decode cX6_stage 42 = .ok (.getfield 10, 3) := by decide +kernel
theorem dX6_stage_45 : decode cX6_stage 45 = .ok (.invokevirtual 72, 3) := by decide +kernel
theorem dX6_stage_48 : decode cX6_stage 48 = .ok (.aload_n 0, 1) := by decide +kernel
theorem dX6_stage_49 : decode cX6_stage 49 = .ok (.getfield 10, 3) := by decide +kernel
theorem dX6_stage_52 : decode cX6_stage 52 = .ok (.getfield 76, 3) := by decide +kernel
theorem dX6_stage_55 : decode cX6_stage 55 = .ok (.istore_n 3, 1) := by decide +kernel
theorem dX6_stage_56 : decode cX6_stage 56 = .ok (.aload_n 0, 1) := by decide +kernel
theorem dX6_stage_57 : decode cX6_stage 57 = .ok (.getfield 10, 3) := by decide +kernel
theorem dX6_stage_60 : decode cX6_stage 60 = .ok (.iload_n 1, 1) := by decide +kernel
theorem dX6_stage_61 : decode cX6_stage 61 = .ok (.putfield 76, 3) := by decide +kernel
theorem dX6_stage_64 : decode cX6_stage 64 = .ok (.iload_n 3, 1) := by decide +kernel
theorem dX6_stage_65 : decode cX6_stage 65 = .ok (.ireturn, 1) := by decide +kernel
def q_7 : mQ := (yX6_stage, cX6_stage, 4, (some FieldType.int), 1, 6, 0, 0)
theorem qm_7 : mtL[7]? = some q_7 := rfl
def q_15 : mQ := (yX0_push, cX0_push, 3, none, 1, 0, 0, 0)
theorem qm_15 : mtL[15]? = some q_15 := rfl
def q_16 : mQ := (yX0_stateAt, cX0_stateAt, 2, (some (FieldType.object "FoldedTheatre$State")), 1, 0, 0, 0)
theorem qm_16 : mtL[16]? = some q_16 := rfl
def q_17 : mQ := (yX5_copyFrom, cX5_copyFrom, 5, none, 1, 5, 0, 0)
theorem qm_17 : mtL[17]? = some q_17 := rfl
def q_22 : mQ := (yX6_put, cX6_put, 3, none, 3, 6, 0, 0)
theorem qm_22 : mtL[22]? = some q_22 := rfl
def q_92 : mQ := (yX6_append, cX6_append, 2, (some FieldType.int), 1, 6, 0, 0)
theorem qm_92 : mtL[92]? = some q_92 := rfl
def q_93 : mQ := (yX4_write, cX4_write, 2, none, 1, 4, 0, 0)
theorem qm_93 : mtL[93]? = some q_93 := rfl
def q_94 : mQ := (yX6_read, cX6_read, 4, (some FieldType.int), 0, 6, 0, 0)
theorem qm_94 : mtL[94]? = some q_94 := rfl
def q_95 : mQ := (yX4_faultPosition, cX4_faultPosition, 2, (some FieldType.int), 0, 4, 0, 0)
theorem qm_95 : mtL[95]? = some q_95 := rfl
def q_96 : mQ := (yX4_rewind, cX4_rewind, 1, none, 0, 4, 0, 0)
theorem qm_96 : mtL[96]? = some q_96 := rfl
def q_97 : mQ := (yX4_takeCommand, cX4_takeCommand, 1, (some FieldType.boolean), 0, 4, 0, 0)
theorem qm_97 : mtL[97]? = some q_97 := rfl
def q_106 : mQ := (yX4_clear, cX4_clear, 1, none, 0, 4, 0, 0)
theorem qm_106 : mtL[106]? = some q_106 := rfl
def q_109 : mQ := (yX6_refusal, cX6_refusal, 2, (some FieldType.int), 1, 6, 0, 0)
theorem qm_109 : mtL[109]? = some q_109 := rfl
def q_110 : mQ := (yX6_account, cX6_account, 2, (some FieldType.int), 1, 6, 0, 0)
theorem qm_110 : mtL[110]? = some q_110 := rfl
def q_119 : mQ := (yX6_save, cX6_save, 1, (some FieldType.int), 0, 6, 0, 0)
theorem qm_119 : mtL[119]? = some q_119 := rfl
set_option maxRecDepth 100000 in
set_option maxHeartbeats 4000000 in
theorem x_stateAt {P : mP} {v1 v2 v3 : Value} (h : P[79]? = some (0, [.ref 80, v1, v2, v3])) (h2 : P[80]? = some (11, [.ref 81, .ref 107, .ref 133, .ref 159, .ref 185, .ref 211, .ref 237, .ref 263])) : EvP 1 16 [.ref 79, .int 0] P (fun r P' => r = some (.ref 81) ∧ P' = P) := by
  refine EvP.of qm_16 (Nat.le_of_ble_eq_true rfl) rfl ?_
  show MEvP _ none q_16 0 [(0, .ref 79), (1, .int 0)] [] _ 0 0 _
  refine mp_a (a_iload_n dX0_stateAt_0 rfl) (mpp 1 rfl ?_)
  refine mp_Tf (t := 22) (j_if_lt dX0_stateAt_1) (by decide) (by decide) (mpp 4 rfl ?_)
  refine mp_a (a_iload_n dX0_stateAt_4 rfl) (mpp 5 rfl ?_)
  refine mp_a (a_aload_n dX0_stateAt_5 rfl) (mpp 6 rfl ?_)
  refine mp_get (i := 11) (v := .ref 80) dX0_stateAt_6 rfl h rfl (mpp 9 rfl ?_)
  refine mp_len (n := 8) dX0_stateAt_9 h2 (by decide) rfl (mpp 10 rfl ?_)
  refine mp_Tf (t := 22) (j_icmp_ge dX0_stateAt_10) (by decide) (by decide) (mpp 13 rfl ?_)
  refine mp_a (a_aload_n dX0_stateAt_13 rfl) (mpp 14 rfl ?_)
  refine mp_get (i := 11) (v := .ref 80) dX0_stateAt_14 rfl h rfl (mpp 17 rfl ?_)
  refine mp_a (a_iload_n dX0_stateAt_17 rfl) (mpp 18 rfl ?_)
  refine mp_aal (N := 8) (v := .ref 81) dX0_stateAt_18 h2 (by decide) rfl (by decide) rfl (mpp 19 rfl ?_)
  refine mp_a (a_goto (t := 23) dX0_stateAt_19 (by decide)) ?_
  exact mp_aret (⟨rfl, rfl⟩) dX0_stateAt_23 rfl

set_option maxRecDepth 100000 in
set_option maxHeartbeats 4000000 in
theorem x_copyState {P : mP} {a b : Nat} {c1 w1 f1 w2 f2 : Int32} {q1 q2 : Nat} (ha : P[a]? = some (5, [.ref q1, .int c1, .int w1, .int f1])) (hb : P[b]? = some (5, [.ref q2, .int 0, .int w2, .int f2])) (hab : a ≠ b) : EvP 3 17 [.ref a, .ref b] P (fun r P' => r = none ∧ ∀ j : Nat, j ≠ a → P'[j]? = P[j]?) := by
  refine EvP.of qm_17 (Nat.le_of_ble_eq_true rfl) rfl ?_
  show MEvP _ none q_17 0 [(0, .ref a), (1, .ref b)] [] _ 0 0 _
  refine mp_a (a_aload_n dX5_copyFrom_0 rfl) (mpp 1 rfl ?_)
  refine mp_a (a_aload_n dX5_copyFrom_1 rfl) (mpp 2 rfl ?_)
  refine mp_get (i := 22) (v := .int 0) dX5_copyFrom_2 rfl hb rfl (mpp 5 rfl ?_)
  refine mp_put (i := 22) dX5_copyFrom_5 rfl ha (Nat.le_of_ble_eq_true rfl) rfl (Or.inl rfl) (mpp 8 rfl ?_)
  refine mp_a (a_aload_n dX5_copyFrom_8 rfl) (mpp 9 rfl ?_)
  refine mp_a (a_aload_n dX5_copyFrom_9 rfl) (mpp 10 rfl ?_)
  refine mp_get (i := 17) (v := .int w2) dX5_copyFrom_10 rfl (mset_ne hb hab) rfl (mpp 13 rfl ?_)
  refine mp_put (i := 17) dX5_copyFrom_13 rfl (mset_eq ha) (Nat.le_of_ble_eq_true rfl) rfl (Or.inl rfl) (mpp 16 rfl ?_)
  refine mp_a (a_aload_n dX5_copyFrom_16 rfl) (mpp 17 rfl ?_)
  refine mp_a (a_aload_n dX5_copyFrom_17 rfl) (mpp 18 rfl ?_)
  refine mp_get (i := 25) (v := .int f2) dX5_copyFrom_18 rfl (mset_ne (mset_ne hb hab) hab) rfl (mpp 21 rfl ?_)
  refine mp_put (i := 25) dX5_copyFrom_21 rfl (mset_eq (mset_eq ha)) (Nat.le_of_ble_eq_true rfl) rfl (Or.inl rfl) (mpp 24 rfl ?_)
  refine mp_a (a_iconst (v := 0) dX5_copyFrom_24 rfl) (mpp 25 rfl ?_)
  refine mp_a (a_istore_n (L' := [(2, .int 0), (0, .ref a), (1, .ref b)]) dX5_copyFrom_25 (by decide) rfl) (mpp 26 rfl ?_)
  refine mp_a (a_iload_n dX5_copyFrom_26 rfl) (mpp 27 rfl ?_)
  refine mp_a (a_aload_n dX5_copyFrom_27 rfl) (mpp 28 rfl ?_)
  refine mp_get (i := 22) (v := .int 0) dX5_copyFrom_28 rfl (mset_eq (mset_eq (mset_eq ha))) rfl (mpp 31 rfl ?_)
  refine mp_Tt (t := 68) (j_icmp_ge dX5_copyFrom_31) (by decide) (by decide) ?_
  exact mp_ret (⟨rfl, fun j hj => by repeat rw [List.getElem?_set_ne (Ne.symm hj)]⟩) dX5_copyFrom_68 rfl

set_option maxRecDepth 100000 in
set_option maxHeartbeats 4000000 in
theorem x_push {P : mP} (h79 : P[79]? = some (0, [.ref 80, .int 0, .int 0, .int 0])) (h80 : P[80]? = some (11, [.ref 81, .ref 107, .ref 133, .ref 159, .ref 185, .ref 211, .ref 237, .ref 263])) (h81 : P[81]? = some (5, [.ref 82, .int 0, .int 30, .int 0])) (h1 : P[1]? = some (5, [.ref 2, .int 0, .int 30, .int 0])) : EvP 4 15 [.ref 79, .ref 1] P (fun r P' => r = none ∧ ∀ j : Nat, j ≠ 79 → j ≠ 81 → P'[j]? = P[j]?) := by
  refine EvP.of qm_15 (Nat.le_of_ble_eq_true rfl) rfl ?_
  show MEvP _ none q_15 0 [(0, .ref 79), (1, .ref 1)] [] _ 0 0 _
  refine mp_a (a_aload_n dX0_push_0 rfl) (mpp 1 rfl ?_)
  refine mp_a (a_aload_n dX0_push_1 rfl) (mpp 2 rfl ?_)
  refine mp_get (i := 18) (v := .int 0) dX0_push_2 rfl h79 rfl (mpp 5 rfl ?_)
  refine mp_callv (i := 22) (q' := q_16) (As := [.int 0]) (rest := []) dX0_push_5 rfl qm_16 (by decide) rfl h79 (by decide) (Nat.le_of_ble_eq_true rfl) rfl ⟨rfl, rfl⟩ ⟨Nat.le_of_ble_eq_true rfl, Nat.le_of_ble_eq_true rfl⟩ (EvP.mono (by decide) (x_stateAt h79 h80)) (fun r1 P1 g1 => mpp 8 rfl ?_)
  obtain ⟨rfl, rfl⟩ := g1
  show MEvP _ none q_15 8 [(0, .ref 79), (1, .ref 1)] [.ref 81] _ _ _ _
  refine mp_a (a_astore_n (L' := [(2, .ref 81), (0, .ref 79), (1, .ref 1)]) dX0_push_8 (by decide) rfl) (mpp 9 rfl ?_)
  refine mp_a (a_aload_n dX0_push_9 rfl) (mpp 10 rfl ?_)
  refine mp_t (s_ifnullR dX0_push_10) (mpp 13 rfl ?_)
  refine mp_a (a_aload_n dX0_push_13 rfl) (mpp 14 rfl ?_)
  refine mp_get (i := 26) (v := .int 0) dX0_push_14 rfl h79 rfl (mpp 17 rfl ?_)
  refine mp_Tf (t := 63) (j_if_ne dX0_push_17) (by decide) (by decide) (mpp 20 rfl ?_)
  refine mp_a (a_aload_n dX0_push_20 rfl) (mpp 21 rfl ?_)
  refine mp_a (a_aload_n dX0_push_21 rfl) (mpp 22 rfl ?_)
  refine mp_callv (i := 30) (q' := q_17) (As := [.ref 1]) (rest := []) dX0_push_22 rfl qm_17 (by decide) rfl h81 (by decide) (Nat.le_of_ble_eq_true rfl) rfl ⟨rfl, rfl⟩ ⟨Nat.le_of_ble_eq_true rfl, Nat.le_of_ble_eq_true rfl⟩ (EvP.mono (by decide) (x_copyState h81 h1 (by decide))) (fun r1 P1 g2 => mpp 25 rfl ?_)
  obtain ⟨rfl, g2⟩ := g2
  show MEvP _ none q_15 25 [(2, .ref 81), (0, .ref 79), (1, .ref 1)] [] _ _ _ _
  refine mp_a (a_aload_n dX0_push_25 rfl) (mpp 26 rfl ?_)
  refine mp_a (a_aload_n dX0_push_26 rfl) (mpp 27 rfl ?_)
  refine mp_get (i := 18) (v := .int 0) dX0_push_27 rfl ((g2 79 (by decide)).trans h79) rfl (mpp 30 rfl ?_)
  refine mp_a (a_bipush (v := 7) dX0_push_30 rfl) (mpp 32 rfl ?_)
  refine mp_Tf (t := 44) (j_icmp_ge dX0_push_32) (by decide) (by decide) (mpp 35 rfl ?_)
  refine mp_a (a_aload_n dX0_push_35 rfl) (mpp 36 rfl ?_)
  refine mp_get (i := 18) (v := .int 0) dX0_push_36 rfl ((g2 79 (by decide)).trans h79) rfl (mpp 39 rfl ?_)
  refine mp_a (a_iconst (v := 1) dX0_push_39 rfl) (mpp 40 rfl ?_)
  refine mp_t (s_iadd (v := 1) dX0_push_40 rfl) (mpp 41 rfl ?_)
  refine mp_a (a_goto (t := 45) dX0_push_41 (by decide)) ?_
  refine mp_put (i := 18) dX0_push_45 rfl ((g2 79 (by decide)).trans h79) (Nat.le_of_ble_eq_true rfl) rfl (Or.inl rfl) (mpp 48 rfl ?_)
  refine mp_a (a_aload_n dX0_push_48 rfl) (mpp 49 rfl ?_)
  refine mp_a (a_aload_n dX0_push_49 rfl) (mpp 50 rfl ?_)
  refine mp_get (i := 34) (v := .int 0) dX0_push_50 rfl (mset_eq ((g2 79 (by decide)).trans h79)) rfl (mpp 53 rfl ?_)
  refine mp_a (a_iconst (v := 1) dX0_push_53 rfl) (mpp 54 rfl ?_)
  refine mp_t (s_iadd (v := 1) dX0_push_54 rfl) (mpp 55 rfl ?_)
  refine mp_a (a_bipush (v := 8) dX0_push_55 rfl) (mpp 57 rfl ?_)
  refine mp_math (i := 37) (k := 0) (v := 1) dX0_push_57 rfl (by decide) (Nat.le_of_ble_eq_true rfl) rfl ⟨Nat.le_of_ble_eq_true rfl, Nat.le_of_ble_eq_true rfl⟩ (mpp 60 rfl ?_)
  refine mp_put (i := 34) dX0_push_60 rfl (mset_eq ((g2 79 (by decide)).trans h79)) (Nat.le_of_ble_eq_true rfl) rfl (Or.inl rfl) (mpp 63 rfl ?_)
  exact mp_ret (⟨rfl, fun j h7 h8 => by rw [List.getElem?_set_ne (Ne.symm h7), List.getElem?_set_ne (Ne.symm h7)]; exact g2 j h8⟩) dX0_push_63 rfl


theorem i_len {i : Int32} {N : Nat} (hN : N < 2 ^ 31) (hi : ¬ (i < 0 ∨ N ≤ i.toNatClampNeg)) : ¬ i < 0 ∧ ¬ Int32.ofNat N ≤ i := by
  have h1 : ¬ i < 0 := fun q => hi (Or.inl q)
  refine ⟨h1, fun q => ?_⟩
  obtain ⟨j, hj, rfl⟩ := nI_of h1
  have e : (nI j).toNatClampNeg = j := nI_clamp hj
  rw [e] at hi
  have h3 : nI N ≤ nI j := q
  rw [nI_leI hN hj] at h3
  exact hi (Or.inr h3)

set_option maxRecDepth 100000 in
set_option maxHeartbeats 4000000 in
theorem x_put {P : mP} {a N : Nat} {vs : List Value} {i x : Int32} (h : P[a]? = some (8, vs)) (hN : vs.length = N) (hN2 : N < 2 ^ 31) (hi : ¬ (i < 0 ∨ N ≤ i.toNatClampNeg)) : EvP 1 22 [.ref a, .int i, .int x] P (fun r P' => r = none ∧ P' = P.set a (8, vs.set i.toNatClampNeg (.int x))) := by
  refine EvP.of qm_22 (Nat.le_of_ble_eq_true rfl) rfl ?_
  show MEvP _ none q_22 0 [(0, .ref a), (1, .int i), (2, .int x)] [] _ 0 0 _
  obtain ⟨h1, h2⟩ := i_len hN2 hi
  refine mp_a (a_iload_n dX6_put_0 rfl) (mpp 1 rfl ?_)
  refine mp_Tf (t := 14) (j_if_lt dX6_put_1) h1 (by decide) (mpp 4 rfl ?_)
  refine mp_a (a_iload_n dX6_put_4 rfl) (mpp 5 rfl ?_)
  refine mp_a (a_aload_n dX6_put_5 rfl) (mpp 6 rfl ?_)
  refine mp_len (n := Int32.ofNat N) dX6_put_6 h (by decide) (by rw [hN]) (mpp 7 rfl ?_)
  refine mp_Tf (t := 14) (j_icmp_ge dX6_put_7) h2 (by decide) (mpp 10 rfl ?_)
  refine mp_a (a_aload_n dX6_put_10 rfl) (mpp 11 rfl ?_)
  refine mp_a (a_iload_n dX6_put_11 rfl) (mpp 12 rfl ?_)
  refine mp_a (a_iload_n dX6_put_12 rfl) (mpp 13 rfl ?_)
  refine mp_ias dX6_put_13 h hN hi (mpp 14 rfl ?_)
  exact mp_ret ⟨rfl, rfl⟩ dX6_put_14 rfl

set_option maxRecDepth 100000 in
set_option maxHeartbeats 4000000 in
theorem x_sclear {P : mP} {a tx : Nat} {s1 s2 s3 s4 s5 s6 s7 : Int32} (h : P[a]? = some (4, [.ref tx, .int s1, .int s2, .int s3, .int s4, .int s5, .int s6, .int s7])) : EvP 2 106 [.ref a] P (fun r P' => r = none ∧ P' = P.set a (4, [.ref tx, .int 0, .int s2, .int s3, .int s4, .int s5, .int s6, .int s7])) := by
  refine EvP.of qm_106 (Nat.le_of_ble_eq_true rfl) rfl ?_
  show MEvP _ none q_106 0 [(0, .ref a)] [] _ 0 0 _
  refine mp_a (a_aload_n dX4_clear_0 rfl) (mpp 1 rfl ?_)
  refine mp_a (a_iconst (v := 0) dX4_clear_1 rfl) (mpp 2 rfl ?_)
  refine mp_put (i := 15) dX4_clear_2 rfl h (Nat.le_of_ble_eq_true rfl) rfl (Or.inl rfl) (mpp 5 rfl ?_)
  exact mp_ret (⟨rfl, rfl⟩) dX4_clear_5 rfl

set_option maxRecDepth 100000 in
set_option maxHeartbeats 4000000 in
theorem x_rewind {P : mP} {a tx : Nat} {s1 s2 s3 s4 s5 s6 s7 : Int32} (h : P[a]? = some (4, [.ref tx, .int s1, .int s2, .int s3, .int s4, .int s5, .int s6, .int s7])) : EvP 2 96 [.ref a] P (fun r P' => r = none ∧ P' = P.set a (4, [.ref tx, .int s1, .int 0, .int s3, .int s4, .int s5, .int s6, .int s7])) := by
  refine EvP.of qm_96 (Nat.le_of_ble_eq_true rfl) rfl ?_
  show MEvP _ none q_96 0 [(0, .ref a)] [] _ 0 0 _
  refine mp_a (a_aload_n dX4_rewind_0 rfl) (mpp 1 rfl ?_)
  refine mp_a (a_iconst (v := 0) dX4_rewind_1 rfl) (mpp 2 rfl ?_)
  refine mp_put (i := 23) dX4_rewind_2 rfl h (Nat.le_of_ble_eq_true rfl) rfl (Or.inl rfl) (mpp 5 rfl ?_)
  exact mp_ret (⟨rfl, rfl⟩) dX4_rewind_5 rfl

set_option maxRecDepth 100000 in
set_option maxHeartbeats 4000000 in
theorem x_takeCommand {P : mP} {a tx : Nat} {s3 s4 s5 s6 s7 : Int32} (h : P[a]? = some (4, [.ref tx, .int 0, .int 0, .int s3, .int s4, .int s5, .int s6, .int s7])) : EvP 3 97 [.ref a] P (fun r P' => r = some (.int 0) ∧ P' = P.set a (4, [.ref tx, .int 0, .int 0, .int 0, .int s4, .int s5, .int s6, .int s7])) := by
  refine EvP.of qm_97 (Nat.le_of_ble_eq_true rfl) rfl ?_
  show MEvP _ none q_97 0 [(0, .ref a)] [] _ 0 0 _
  refine mp_a (a_aload_n dX4_takeCommand_0 rfl) (mpp 1 rfl ?_)
  refine mp_a (a_aload_n dX4_takeCommand_1 rfl) (mpp 2 rfl ?_)
  refine mp_callv (i := 37) (q' := q_98) (As := []) (rest := [.ref a]) dX4_takeCommand_2 rfl qm_98 (by decide) rfl h (by decide) (Nat.le_of_ble_eq_true rfl) rfl ⟨rfl, rfl⟩ ⟨Nat.le_of_ble_eq_true rfl, Nat.le_of_ble_eq_true rfl⟩ (EvP.mono (by decide) (x_codeHere h)) (fun r1 P1 g1 => mpp 5 rfl ?_)
  obtain ⟨rfl, rfl⟩ := g1
  show MEvP _ none q_97 5 [(0, .ref a)] [.int 0, .ref a] _ _ _ _
  refine mp_put (i := 41) dX4_takeCommand_5 rfl h (Nat.le_of_ble_eq_true rfl) rfl (Or.inl rfl) (mpp 8 rfl ?_)
  refine mp_a (a_aload_n dX4_takeCommand_8 rfl) (mpp 9 rfl ?_)
  refine mp_get (i := 41) (v := .int 0) dX4_takeCommand_9 rfl (mset_eq h) rfl (mpp 12 rfl ?_)
  refine mp_t (s_tabOut (t := 225) dX4_takeCommand_12 (by decide) (by decide)) ?_
  refine mp_a (a_iconst (v := 0) dX4_takeCommand_225 rfl) (mpp 226 rfl ?_)
  exact mp_iret (⟨rfl, rfl⟩) dX4_takeCommand_226 (Or.inr ⟨rfl, by decide⟩)

set_option maxRecDepth 100000 in
set_option maxHeartbeats 4000000 in
theorem x_faultPosition {P : mP} {a tx : Nat} {s2 s3 s4 s5 s6 s7 : Int32} (h : P[a]? = some (4, [.ref tx, .int 0, .int s2, .int s3, .int s4, .int s5, .int s6, .int s7])) : EvP 4 95 [.ref a] P (fun r P' => r = some (.int 0) ∧ P' = (P.set a (4, [.ref tx, .int 0, .int 0, .int s3, .int s4, .int s5, .int s6, .int s7])).set a (4, [.ref tx, .int 0, .int 0, .int 0, .int s4, .int s5, .int s6, .int s7])) := by
  refine EvP.of qm_95 (Nat.le_of_ble_eq_true rfl) rfl ?_
  show MEvP _ none q_95 0 [(0, .ref a)] [] _ 0 0 _
  refine mp_a (a_aload_n dX4_faultPosition_0 rfl) (mpp 1 rfl ?_)
  refine mp_callv (i := 26) (q' := q_96) (As := []) (rest := []) dX4_faultPosition_1 rfl qm_96 (by decide) rfl h (by decide) (Nat.le_of_ble_eq_true rfl) rfl ⟨rfl, rfl⟩ ⟨Nat.le_of_ble_eq_true rfl, Nat.le_of_ble_eq_true rfl⟩ (EvP.mono (by decide) (x_rewind h)) (fun r1 P1 g1 => mpp 4 rfl ?_)
  obtain ⟨rfl, rfl⟩ := g1
  show MEvP _ none q_95 4 [(0, .ref a)] [] _ _ _ _
  refine mp_a (a_iconst (v := 0) dX4_faultPosition_4 rfl) (mpp 5 rfl ?_)
  refine mp_a (a_istore_n (L' := [(1, .int 0), (0, .ref a)]) dX4_faultPosition_5 (by decide) rfl) (mpp 6 rfl ?_)
  refine mp_a (a_iload_n dX4_faultPosition_6 rfl) (mpp 7 rfl ?_)
  refine mp_a (a_bipush (v := 80) dX4_faultPosition_7 rfl) (mpp 9 rfl ?_)
  refine mp_Tf (t := 54) (j_icmp_ge dX4_faultPosition_9) (by decide) (by decide) (mpp 12 rfl ?_)
  refine mp_a (a_aload_n dX4_faultPosition_12 rfl) (mpp 13 rfl ?_)
  refine mp_callv (i := 29) (q' := q_97) (As := []) (rest := []) dX4_faultPosition_13 rfl qm_97 (by decide) rfl (mset_eq h) (by decide) (Nat.le_of_ble_eq_true rfl) rfl ⟨rfl, rfl⟩ ⟨Nat.le_of_ble_eq_true rfl, Nat.le_of_ble_eq_true rfl⟩ (EvP.mono (by decide) (x_takeCommand (mset_eq h))) (fun r1 P1 g2 => mpp 16 rfl ?_)
  obtain ⟨rfl, rfl⟩ := g2
  show MEvP _ none q_95 16 [(1, .int 0), (0, .ref a)] [.int 0] _ _ _ _
  refine mp_Tt (t := 54) (j_if_eq dX4_faultPosition_16) (by decide) (by decide) ?_
  refine mp_a (a_aload_n dX4_faultPosition_54 rfl) (mpp 55 rfl ?_)
  refine mp_get (i := 23) (v := .int 0) dX4_faultPosition_55 rfl (mset_eq (mset_eq h)) rfl (mpp 58 rfl ?_)
  exact mp_iret (⟨rfl, rfl⟩) dX4_faultPosition_58 (Or.inl rfl)

set_option maxRecDepth 100000 in
set_option maxHeartbeats 4000000 in
theorem x_write {P : mP} {x : Int32} (h : P[289]? = some (4, [.ref 290, .int 0, .int 0, .int 0, .int 0, .int 0, .int 0, .int 0])) (h2 : P[290]? = some (8, List.replicate 80 (.int 0))) : EvP 2 93 [.ref 289, .int x] P (fun r P' => r = none ∧ P' = (P.set 290 (8, (List.replicate 80 (.int 0)).set 0 (.int x))).set 289 (4, [.ref 290, .int 1, .int 0, .int 0, .int 0, .int 0, .int 0, .int 0])) := by
  refine EvP.of qm_93 (Nat.le_of_ble_eq_true rfl) rfl ?_
  show MEvP _ none q_93 0 [(0, .ref 289), (1, .int x)] [] _ 0 0 _
  refine mp_a (a_aload_n dX4_write_0 rfl) (mpp 1 rfl ?_)
  refine mp_get (i := 9) (v := .ref 290) dX4_write_1 rfl h rfl (mpp 4 rfl ?_)
  refine mp_a (a_aload_n dX4_write_4 rfl) (mpp 5 rfl ?_)
  refine mp_get (i := 15) (v := .int 0) dX4_write_5 rfl h rfl (mpp 8 rfl ?_)
  refine mp_a (a_iload_n dX4_write_8 rfl) (mpp 9 rfl ?_)
  refine mp_calls (i := 19) (q' := q_22) (As := [.ref 290, .int 0, .int x]) (rest := []) dX4_write_9 rfl qm_22 (by decide) rfl (Nat.le_of_ble_eq_true rfl) rfl ⟨rfl, rfl⟩ ⟨Nat.le_of_ble_eq_true rfl, Nat.le_of_ble_eq_true rfl⟩ (EvP.mono (by decide) (x_put (i := 0) (N := 80) h2 rfl (by decide) (by decide))) (fun r1 P1 g1 => mpp 12 rfl ?_)
  obtain ⟨rfl, rfl⟩ := g1
  show MEvP _ none q_93 12 [(0, .ref 289), (1, .int x)] [] _ _ _ _
  refine mp_a (a_aload_n dX4_write_12 rfl) (mpp 13 rfl ?_)
  refine mp_t (s_dup dX4_write_13 rfl) (mpp 14 rfl ?_)
  refine mp_get (i := 15) (v := .int 0) dX4_write_14 rfl (mset_ne h (by decide)) rfl (mpp 17 rfl ?_)
  refine mp_a (a_iconst (v := 1) dX4_write_17 rfl) (mpp 18 rfl ?_)
  refine mp_t (s_iadd (v := 1) dX4_write_18 rfl) (mpp 19 rfl ?_)
  refine mp_put (i := 15) dX4_write_19 rfl (mset_ne h (by decide)) (Nat.le_of_ble_eq_true rfl) rfl (Or.inl rfl) (mpp 22 rfl ?_)
  exact mp_ret (⟨rfl, rfl⟩) dX4_write_22 rfl

set_option maxRecDepth 100000 in
set_option maxHeartbeats 4000000 in
theorem xo_refusal_1 (a1 : Int32)  (h1 : a1 < 0) : EvP 10 109 [.ref 0, .int a1] P0 (fun r P' => r = some (.int (-1002)) ∧ MOD P') := by
  refine EvP.of qm_109 (Nat.le_of_ble_eq_true rfl) rfl ?_
  show MEvP _ none q_109 0 [(0, .ref 0), (1, .int a1)] [] _ 0 0 _
  refine mp_a (a_iload_n dX6_refusal_0 rfl) (mpp 1 rfl ?_)
  refine mp_Tt (t := 9) (j_if_lt dX6_refusal_1) h1 (by decide) ?_
  refine mp_a (a_sipush (v := -1002) dX6_refusal_9 rfl) (mpp 12 rfl ?_)
  exact mp_iret (⟨rfl, MOD.r⟩) dX6_refusal_12 (Or.inl rfl)

set_option maxRecDepth 100000 in
set_option maxHeartbeats 4000000 in
theorem xo_refusal_2 (a1 : Int32)  (h1 : ¬ a1 < 0) (h2 : 2 < a1) : EvP 10 109 [.ref 0, .int a1] P0 (fun r P' => r = some (.int (-1002)) ∧ MOD P') := by
  refine EvP.of qm_109 (Nat.le_of_ble_eq_true rfl) rfl ?_
  show MEvP _ none q_109 0 [(0, .ref 0), (1, .int a1)] [] _ 0 0 _
  refine mp_a (a_iload_n dX6_refusal_0 rfl) (mpp 1 rfl ?_)
  refine mp_Tf (t := 9) (j_if_lt dX6_refusal_1) h1 (by decide) (mpp 4 rfl ?_)
  refine mp_a (a_iload_n dX6_refusal_4 rfl) (mpp 5 rfl ?_)
  refine mp_a (a_iconst (v := 2) dX6_refusal_5 rfl) (mpp 6 rfl ?_)
  refine mp_Tb (t := 13) (j_icmp_le dX6_refusal_6) (by decide) (fun c1 => ?_) (fun c1 => mpp 9 rfl ?_)
  · exfalso; have k0 : (0 : Int32).toInt = 0 := rfl; have k1 : (2 : Int32).toInt = 2 := rfl; simp only [Int32.lt_iff_toInt_lt, Int32.le_iff_toInt_le, ← Int32.toInt_inj, Decidable.not_not] at h1 h2 c1; omega
  · refine mp_a (a_sipush (v := -1002) dX6_refusal_9 rfl) (mpp 12 rfl ?_)
    exact mp_iret (⟨rfl, MOD.r⟩) dX6_refusal_12 (Or.inl rfl)

set_option maxRecDepth 100000 in
set_option maxHeartbeats 4000000 in
theorem xo_refusal_3 (a1 : Int32)  (h1 : ¬ a1 < 0) (h2 : ¬ 2 < a1) : EvP 10 109 [.ref 0, .int a1] P0 (fun r P' => r = some (.int (-1004)) ∧ MOD P') := by
  refine EvP.of qm_109 (Nat.le_of_ble_eq_true rfl) rfl ?_
  show MEvP _ none q_109 0 [(0, .ref 0), (1, .int a1)] [] _ 0 0 _
  refine mp_a (a_iload_n dX6_refusal_0 rfl) (mpp 1 rfl ?_)
  refine mp_Tf (t := 9) (j_if_lt dX6_refusal_1) h1 (by decide) (mpp 4 rfl ?_)
  refine mp_a (a_iload_n dX6_refusal_4 rfl) (mpp 5 rfl ?_)
  refine mp_a (a_iconst (v := 2) dX6_refusal_5 rfl) (mpp 6 rfl ?_)
  refine mp_Tb (t := 13) (j_icmp_le dX6_refusal_6) (by decide) (fun c1 => ?_) (fun c1 => mpp 9 rfl ?_)
  · refine mp_a (a_aload_n dX6_refusal_13 rfl) (mpp 14 rfl ?_)
    refine mp_get (i := 246) (v := .int 0) dX6_refusal_14 rfl p0_0 rfl (mpp 17 rfl ?_)
    refine mp_Tf (t := 24) (j_if_ne dX6_refusal_17) (by decide) (by decide) (mpp 20 rfl ?_)
    refine mp_a (a_sipush (v := -1004) dX6_refusal_20 rfl) (mpp 23 rfl ?_)
    exact mp_iret (⟨rfl, MOD.r⟩) dX6_refusal_23 (Or.inl rfl)
  · exfalso; have k0 : (0 : Int32).toInt = 0 := rfl; have k1 : (2 : Int32).toInt = 2 := rfl; simp only [Int32.lt_iff_toInt_lt, Int32.le_iff_toInt_le, ← Int32.toInt_inj, Decidable.not_not] at h1 h2 c1; omega

set_option maxRecDepth 100000 in
set_option maxHeartbeats 4000000 in
theorem xo_account_0   : EvP 10 110 [.ref 0, .int 0] P0 (fun r P' => r = some (.int 0) ∧ MOD P') := by
  refine EvP.of qm_110 (Nat.le_of_ble_eq_true rfl) rfl ?_
  show MEvP _ none q_110 0 [(0, .ref 0), (1, .int 0)] [] _ 0 0 _
  refine mp_a (a_iload_n dX6_account_0 rfl) (mpp 1 rfl ?_)
  refine mp_t (s_tabIn (t := 68) dX6_account_1 (by decide) rfl (by decide)) ?_
  refine mp_a (a_aload_n dX6_account_68 rfl) (mpp 69 rfl ?_)
  refine mp_get (i := 10) (v := .ref 1) dX6_account_69 rfl p0_0 rfl (mpp 72 rfl ?_)
  refine mp_get (i := 87) (v := .int 0) dX6_account_72 rfl p0_1 rfl (mpp 75 rfl ?_)
  exact mp_iret (⟨rfl, MOD.r⟩) dX6_account_75 (Or.inl rfl)

set_option maxRecDepth 100000 in
set_option maxHeartbeats 4000000 in
theorem xo_account_1   : EvP 10 110 [.ref 0, .int 1] P0 (fun r P' => r = some (.int 0) ∧ MOD P') := by
  refine EvP.of qm_110 (Nat.le_of_ble_eq_true rfl) rfl ?_
  show MEvP _ none q_110 0 [(0, .ref 0), (1, .int 1)] [] _ 0 0 _
  refine mp_a (a_iload_n dX6_account_0 rfl) (mpp 1 rfl ?_)
  refine mp_t (s_tabIn (t := 76) dX6_account_1 (by decide) rfl (by decide)) ?_
  refine mp_a (a_aload_n dX6_account_76 rfl) (mpp 77 rfl ?_)
  refine mp_get (i := 10) (v := .ref 1) dX6_account_77 rfl p0_0 rfl (mpp 80 rfl ?_)
  refine mp_a (a_iconst (v := 0) dX6_account_80 rfl) (mpp 81 rfl ?_)
  refine mp_callv (i := 252) (q' := q_111) (As := [.int 0]) (rest := []) dX6_account_81 rfl qm_111 (by decide) rfl p0_1 (by decide) (Nat.le_of_ble_eq_true rfl) rfl ⟨rfl, rfl⟩ ⟨Nat.le_of_ble_eq_true rfl, Nat.le_of_ble_eq_true rfl⟩ (EvP.mono (by decide) (x_countOfKind p0_1)) (fun r1 P1 g1 => mpp 84 rfl ?_)
  obtain ⟨rfl, rfl⟩ := g1
  show MEvP _ none q_110 84 [(0, .ref 0), (1, .int 1)] [.int 0] _ _ _ _
  exact mp_iret (⟨rfl, MOD.r⟩) dX6_account_84 (Or.inl rfl)

set_option maxRecDepth 100000 in
set_option maxHeartbeats 4000000 in
theorem xo_account_2   : EvP 10 110 [.ref 0, .int 2] P0 (fun r P' => r = some (.int 0) ∧ MOD P') := by
  refine EvP.of qm_110 (Nat.le_of_ble_eq_true rfl) rfl ?_
  show MEvP _ none q_110 0 [(0, .ref 0), (1, .int 2)] [] _ 0 0 _
  refine mp_a (a_iload_n dX6_account_0 rfl) (mpp 1 rfl ?_)
  refine mp_t (s_tabIn (t := 85) dX6_account_1 (by decide) rfl (by decide)) ?_
  refine mp_a (a_aload_n dX6_account_85 rfl) (mpp 86 rfl ?_)
  refine mp_get (i := 10) (v := .ref 1) dX6_account_86 rfl p0_0 rfl (mpp 89 rfl ?_)
  refine mp_a (a_iconst (v := 1) dX6_account_89 rfl) (mpp 90 rfl ?_)
  refine mp_callv (i := 252) (q' := q_111) (As := [.int 1]) (rest := []) dX6_account_90 rfl qm_111 (by decide) rfl p0_1 (by decide) (Nat.le_of_ble_eq_true rfl) rfl ⟨rfl, rfl⟩ ⟨Nat.le_of_ble_eq_true rfl, Nat.le_of_ble_eq_true rfl⟩ (EvP.mono (by decide) (x_countOfKind p0_1)) (fun r1 P1 g1 => mpp 93 rfl ?_)
  obtain ⟨rfl, rfl⟩ := g1
  show MEvP _ none q_110 93 [(0, .ref 0), (1, .int 2)] [.int 0] _ _ _ _
  exact mp_iret (⟨rfl, MOD.r⟩) dX6_account_93 (Or.inl rfl)

set_option maxRecDepth 100000 in
set_option maxHeartbeats 4000000 in
theorem xo_account_3   : EvP 10 110 [.ref 0, .int 3] P0 (fun r P' => r = some (.int 0) ∧ MOD P') := by
  refine EvP.of qm_110 (Nat.le_of_ble_eq_true rfl) rfl ?_
  show MEvP _ none q_110 0 [(0, .ref 0), (1, .int 3)] [] _ 0 0 _
  refine mp_a (a_iload_n dX6_account_0 rfl) (mpp 1 rfl ?_)
  refine mp_t (s_tabIn (t := 94) dX6_account_1 (by decide) rfl (by decide)) ?_
  refine mp_a (a_aload_n dX6_account_94 rfl) (mpp 95 rfl ?_)
  refine mp_get (i := 10) (v := .ref 1) dX6_account_95 rfl p0_0 rfl (mpp 98 rfl ?_)
  refine mp_callv (i := 255) (q' := q_112) (As := []) (rest := []) dX6_account_98 rfl qm_112 (by decide) rfl p0_1 (by decide) (Nat.le_of_ble_eq_true rfl) rfl ⟨rfl, rfl⟩ ⟨Nat.le_of_ble_eq_true rfl, Nat.le_of_ble_eq_true rfl⟩ (EvP.mono (by decide) (x_foldedCount p0_1)) (fun r1 P1 g1 => mpp 101 rfl ?_)
  obtain ⟨rfl, rfl⟩ := g1
  show MEvP _ none q_110 101 [(0, .ref 0), (1, .int 3)] [.int 0] _ _ _ _
  exact mp_iret (⟨rfl, MOD.r⟩) dX6_account_101 (Or.inl rfl)

set_option maxRecDepth 100000 in
set_option maxHeartbeats 4000000 in
theorem xo_account_4   : EvP 10 110 [.ref 0, .int 4] P0 (fun r P' => r = some (.int 30) ∧ MOD P') := by
  refine EvP.of qm_110 (Nat.le_of_ble_eq_true rfl) rfl ?_
  show MEvP _ none q_110 0 [(0, .ref 0), (1, .int 4)] [] _ 0 0 _
  refine mp_a (a_iload_n dX6_account_0 rfl) (mpp 1 rfl ?_)
  refine mp_t (s_tabIn (t := 102) dX6_account_1 (by decide) rfl (by decide)) ?_
  refine mp_a (a_aload_n dX6_account_102 rfl) (mpp 103 rfl ?_)
  refine mp_get (i := 10) (v := .ref 1) dX6_account_103 rfl p0_0 rfl (mpp 106 rfl ?_)
  refine mp_get (i := 76) (v := .int 30) dX6_account_106 rfl p0_1 rfl (mpp 109 rfl ?_)
  exact mp_iret (⟨rfl, MOD.r⟩) dX6_account_109 (Or.inl rfl)

set_option maxRecDepth 100000 in
set_option maxHeartbeats 4000000 in
theorem xo_account_5   : EvP 10 110 [.ref 0, .int 5] P0 (fun r P' => r = some (.int 30) ∧ MOD P') := by
  refine EvP.of qm_110 (Nat.le_of_ble_eq_true rfl) rfl ?_
  show MEvP _ none q_110 0 [(0, .ref 0), (1, .int 5)] [] _ 0 0 _
  refine mp_a (a_iload_n dX6_account_0 rfl) (mpp 1 rfl ?_)
  refine mp_t (s_tabIn (t := 110) dX6_account_1 (by decide) rfl (by decide)) ?_
  refine mp_a (a_aload_n dX6_account_110 rfl) (mpp 111 rfl ?_)
  refine mp_get (i := 10) (v := .ref 1) dX6_account_111 rfl p0_0 rfl (mpp 114 rfl ?_)
  refine mp_get (i := 76) (v := .int 30) dX6_account_114 rfl p0_1 rfl (mpp 117 rfl ?_)
  refine mp_a (a_aload_n dX6_account_117 rfl) (mpp 118 rfl ?_)
  refine mp_get (i := 10) (v := .ref 1) dX6_account_118 rfl p0_0 rfl (mpp 121 rfl ?_)
  refine mp_callv (i := 64) (q' := q_8) (As := []) (rest := [.int 30]) dX6_account_121 rfl qm_8 (by decide) rfl p0_1 (by decide) (Nat.le_of_ble_eq_true rfl) rfl ⟨rfl, rfl⟩ ⟨Nat.le_of_ble_eq_true rfl, Nat.le_of_ble_eq_true rfl⟩ (EvP.mono (by decide) (x_occupied p0_1)) (fun r1 P1 g1 => mpp 124 rfl ?_)
  obtain ⟨rfl, rfl⟩ := g1
  show MEvP _ none q_110 124 [(0, .ref 0), (1, .int 5)] [.int 0, .int 30] _ _ _ _
  refine mp_t (s_isub (v := 30) dX6_account_124 rfl) (mpp 125 rfl ?_)
  exact mp_iret (⟨rfl, MOD.r⟩) dX6_account_125 (Or.inl rfl)

set_option maxRecDepth 100000 in
set_option maxHeartbeats 4000000 in
theorem xo_account_6   : EvP 10 110 [.ref 0, .int 6] P0 (fun r P' => r = some (.int 0) ∧ MOD P') := by
  refine EvP.of qm_110 (Nat.le_of_ble_eq_true rfl) rfl ?_
  show MEvP _ none q_110 0 [(0, .ref 0), (1, .int 6)] [] _ 0 0 _
  refine mp_a (a_iload_n dX6_account_0 rfl) (mpp 1 rfl ?_)
  refine mp_t (s_tabIn (t := 126) dX6_account_1 (by decide) rfl (by decide)) ?_
  refine mp_a (a_aload_n dX6_account_126 rfl) (mpp 127 rfl ?_)
  refine mp_get (i := 10) (v := .ref 1) dX6_account_127 rfl p0_0 rfl (mpp 130 rfl ?_)
  refine mp_callv (i := 258) (q' := q_113) (As := []) (rest := []) dX6_account_130 rfl qm_113 (by decide) rfl p0_1 (by decide) (Nat.le_of_ble_eq_true rfl) rfl ⟨rfl, rfl⟩ ⟨Nat.le_of_ble_eq_true rfl, Nat.le_of_ble_eq_true rfl⟩ (EvP.mono (by decide) (x_panelCount p0_1)) (fun r1 P1 g1 => mpp 133 rfl ?_)
  obtain ⟨rfl, rfl⟩ := g1
  show MEvP _ none q_110 133 [(0, .ref 0), (1, .int 6)] [.int 0] _ _ _ _
  exact mp_iret (⟨rfl, MOD.r⟩) dX6_account_133 (Or.inl rfl)

set_option maxRecDepth 100000 in
set_option maxHeartbeats 4000000 in
theorem xo_account_7   : EvP 10 110 [.ref 0, .int 7] P0 (fun r P' => r = some (.int 0) ∧ MOD P') := by
  refine EvP.of qm_110 (Nat.le_of_ble_eq_true rfl) rfl ?_
  show MEvP _ none q_110 0 [(0, .ref 0), (1, .int 7)] [] _ 0 0 _
  refine mp_a (a_iload_n dX6_account_0 rfl) (mpp 1 rfl ?_)
  refine mp_t (s_tabIn (t := 134) dX6_account_1 (by decide) rfl (by decide)) ?_
  refine mp_a (a_aload_n dX6_account_134 rfl) (mpp 135 rfl ?_)
  refine mp_get (i := 10) (v := .ref 1) dX6_account_135 rfl p0_0 rfl (mpp 138 rfl ?_)
  refine mp_a (a_iconst (v := 1) dX6_account_138 rfl) (mpp 139 rfl ?_)
  refine mp_callv (i := 261) (q' := q_114) (As := [.int 1]) (rest := []) dX6_account_139 rfl qm_114 (by decide) rfl p0_1 (by decide) (Nat.le_of_ble_eq_true rfl) rfl ⟨rfl, rfl⟩ ⟨Nat.le_of_ble_eq_true rfl, Nat.le_of_ble_eq_true rfl⟩ (EvP.mono (by decide) (x_creasesOf p0_1)) (fun r1 P1 g1 => mpp 142 rfl ?_)
  obtain ⟨rfl, rfl⟩ := g1
  show MEvP _ none q_110 142 [(0, .ref 0), (1, .int 7)] [.int 0] _ _ _ _
  exact mp_iret (⟨rfl, MOD.r⟩) dX6_account_142 (Or.inl rfl)

set_option maxRecDepth 100000 in
set_option maxHeartbeats 4000000 in
theorem xo_account_8   : EvP 10 110 [.ref 0, .int 8] P0 (fun r P' => r = some (.int 0) ∧ MOD P') := by
  refine EvP.of qm_110 (Nat.le_of_ble_eq_true rfl) rfl ?_
  show MEvP _ none q_110 0 [(0, .ref 0), (1, .int 8)] [] _ 0 0 _
  refine mp_a (a_iload_n dX6_account_0 rfl) (mpp 1 rfl ?_)
  refine mp_t (s_tabIn (t := 143) dX6_account_1 (by decide) rfl (by decide)) ?_
  refine mp_a (a_aload_n dX6_account_143 rfl) (mpp 144 rfl ?_)
  refine mp_get (i := 10) (v := .ref 1) dX6_account_144 rfl p0_0 rfl (mpp 147 rfl ?_)
  refine mp_a (a_iconst (v := 2) dX6_account_147 rfl) (mpp 148 rfl ?_)
  refine mp_callv (i := 261) (q' := q_114) (As := [.int 2]) (rest := []) dX6_account_148 rfl qm_114 (by decide) rfl p0_1 (by decide) (Nat.le_of_ble_eq_true rfl) rfl ⟨rfl, rfl⟩ ⟨Nat.le_of_ble_eq_true rfl, Nat.le_of_ble_eq_true rfl⟩ (EvP.mono (by decide) (x_creasesOf p0_1)) (fun r1 P1 g1 => mpp 151 rfl ?_)
  obtain ⟨rfl, rfl⟩ := g1
  show MEvP _ none q_110 151 [(0, .ref 0), (1, .int 8)] [.int 0] _ _ _ _
  exact mp_iret (⟨rfl, MOD.r⟩) dX6_account_151 (Or.inl rfl)

set_option maxRecDepth 100000 in
set_option maxHeartbeats 4000000 in
theorem xo_account_9   : EvP 10 110 [.ref 0, .int 9] P0 (fun r P' => r = some (.int 0) ∧ MOD P') := by
  refine EvP.of qm_110 (Nat.le_of_ble_eq_true rfl) rfl ?_
  show MEvP _ none q_110 0 [(0, .ref 0), (1, .int 9)] [] _ 0 0 _
  refine mp_a (a_iload_n dX6_account_0 rfl) (mpp 1 rfl ?_)
  refine mp_t (s_tabIn (t := 152) dX6_account_1 (by decide) rfl (by decide)) ?_
  refine mp_a (a_aload_n dX6_account_152 rfl) (mpp 153 rfl ?_)
  refine mp_get (i := 10) (v := .ref 1) dX6_account_153 rfl p0_0 rfl (mpp 156 rfl ?_)
  refine mp_a (a_iconst (v := 0) dX6_account_156 rfl) (mpp 157 rfl ?_)
  refine mp_callv (i := 261) (q' := q_114) (As := [.int 0]) (rest := []) dX6_account_157 rfl qm_114 (by decide) rfl p0_1 (by decide) (Nat.le_of_ble_eq_true rfl) rfl ⟨rfl, rfl⟩ ⟨Nat.le_of_ble_eq_true rfl, Nat.le_of_ble_eq_true rfl⟩ (EvP.mono (by decide) (x_creasesOf p0_1)) (fun r1 P1 g1 => mpp 160 rfl ?_)
  obtain ⟨rfl, rfl⟩ := g1
  show MEvP _ none q_110 160 [(0, .ref 0), (1, .int 9)] [.int 0] _ _ _ _
  exact mp_iret (⟨rfl, MOD.r⟩) dX6_account_160 (Or.inl rfl)

set_option maxRecDepth 100000 in
set_option maxHeartbeats 4000000 in
theorem xo_account_10   : EvP 10 110 [.ref 0, .int 10] P0 (fun r P' => r = some (.int 0) ∧ MOD P') := by
  refine EvP.of qm_110 (Nat.le_of_ble_eq_true rfl) rfl ?_
  show MEvP _ none q_110 0 [(0, .ref 0), (1, .int 10)] [] _ 0 0 _
  refine mp_a (a_iload_n dX6_account_0 rfl) (mpp 1 rfl ?_)
  refine mp_t (s_tabIn (t := 161) dX6_account_1 (by decide) rfl (by decide)) ?_
  refine mp_a (a_aload_n dX6_account_161 rfl) (mpp 162 rfl ?_)
  refine mp_get (i := 10) (v := .ref 1) dX6_account_162 rfl p0_0 rfl (mpp 165 rfl ?_)
  refine mp_get (i := 172) (v := .int 0) dX6_account_165 rfl p0_1 rfl (mpp 168 rfl ?_)
  exact mp_iret (⟨rfl, MOD.r⟩) dX6_account_168 (Or.inl rfl)

set_option maxRecDepth 100000 in
set_option maxHeartbeats 4000000 in
theorem xo_account_11   : EvP 10 110 [.ref 0, .int 11] P0 (fun r P' => r = some (.int 0) ∧ MOD P') := by
  refine EvP.of qm_110 (Nat.le_of_ble_eq_true rfl) rfl ?_
  show MEvP _ none q_110 0 [(0, .ref 0), (1, .int 11)] [] _ 0 0 _
  refine mp_a (a_iload_n dX6_account_0 rfl) (mpp 1 rfl ?_)
  refine mp_t (s_tabIn (t := 169) dX6_account_1 (by decide) rfl (by decide)) ?_
  refine mp_a (a_aload_n dX6_account_169 rfl) (mpp 170 rfl ?_)
  refine mp_get (i := 32) (v := .ref 289) dX6_account_170 rfl p0_0 rfl (mpp 173 rfl ?_)
  refine mp_get (i := 216) (v := .int 0) dX6_account_173 rfl p0_289 rfl (mpp 176 rfl ?_)
  exact mp_iret (⟨rfl, MOD.r⟩) dX6_account_176 (Or.inl rfl)

set_option maxRecDepth 100000 in
set_option maxHeartbeats 4000000 in
theorem xo_account_12   : EvP 10 110 [.ref 0, .int 12] P0 (fun r P' => r = some (.int 0) ∧ MOD P') := by
  refine EvP.of qm_110 (Nat.le_of_ble_eq_true rfl) rfl ?_
  show MEvP _ none q_110 0 [(0, .ref 0), (1, .int 12)] [] _ 0 0 _
  refine mp_a (a_iload_n dX6_account_0 rfl) (mpp 1 rfl ?_)
  refine mp_t (s_tabIn (t := 177) dX6_account_1 (by decide) rfl (by decide)) ?_
  refine mp_a (a_aload_n dX6_account_177 rfl) (mpp 178 rfl ?_)
  refine mp_get (i := 25) (v := .ref 79) dX6_account_178 rfl p0_0 rfl (mpp 181 rfl ?_)
  refine mp_get (i := 264) (v := .int 0) dX6_account_181 rfl p0_79 rfl (mpp 184 rfl ?_)
  exact mp_iret (⟨rfl, MOD.r⟩) dX6_account_184 (Or.inl rfl)

set_option maxRecDepth 100000 in
set_option maxHeartbeats 4000000 in
theorem xo_account_o (a1 : Int32)  (h1 : a1.toInt < 0 ∨ 12 < a1.toInt) : EvP 10 110 [.ref 0, .int a1] P0 (fun r P' => r = some (.int (-1002)) ∧ MOD P') := by
  refine EvP.of qm_110 (Nat.le_of_ble_eq_true rfl) rfl ?_
  show MEvP _ none q_110 0 [(0, .ref 0), (1, .int a1)] [] _ 0 0 _
  refine mp_a (a_iload_n dX6_account_0 rfl) (mpp 1 rfl ?_)
  refine mp_t (s_tabOut (t := 185) dX6_account_1 h1 (by decide)) ?_
  refine mp_a (a_sipush (v := -1002) dX6_account_185 rfl) (mpp 188 rfl ?_)
  exact mp_iret (⟨rfl, MOD.r⟩) dX6_account_188 (Or.inl rfl)

set_option maxRecDepth 100000 in
set_option maxHeartbeats 4000000 in
theorem xo_append_1 (a1 : Int32)  (h1 : a1 < 32) : EvP 10 92 [.ref 0, .int a1] P0 (fun r P' => r = some (.int (-1002)) ∧ MOD P') := by
  refine EvP.of qm_92 (Nat.le_of_ble_eq_true rfl) rfl ?_
  show MEvP _ none q_92 0 [(0, .ref 0), (1, .int a1)] [] _ 0 0 _
  refine mp_a (a_iload_n dX6_append_0 rfl) (mpp 1 rfl ?_)
  refine mp_a (a_bipush (v := 32) dX6_append_1 rfl) (mpp 3 rfl ?_)
  refine mp_Tt (t := 24) (j_icmp_lt dX6_append_3) h1 (by decide) ?_
  refine mp_a (a_sipush (v := -1002) dX6_append_24 rfl) (mpp 27 rfl ?_)
  exact mp_iret (⟨rfl, MOD.r⟩) dX6_append_27 (Or.inl rfl)

set_option maxRecDepth 100000 in
set_option maxHeartbeats 4000000 in
theorem xo_append_2 (a1 : Int32)  (h1 : ¬ a1 < 32) (h2 : 126 < a1) : EvP 10 92 [.ref 0, .int a1] P0 (fun r P' => r = some (.int (-1002)) ∧ MOD P') := by
  refine EvP.of qm_92 (Nat.le_of_ble_eq_true rfl) rfl ?_
  show MEvP _ none q_92 0 [(0, .ref 0), (1, .int a1)] [] _ 0 0 _
  refine mp_a (a_iload_n dX6_append_0 rfl) (mpp 1 rfl ?_)
  refine mp_a (a_bipush (v := 32) dX6_append_1 rfl) (mpp 3 rfl ?_)
  refine mp_Tf (t := 24) (j_icmp_lt dX6_append_3) h1 (by decide) (mpp 6 rfl ?_)
  refine mp_a (a_iload_n dX6_append_6 rfl) (mpp 7 rfl ?_)
  refine mp_a (a_bipush (v := 126) dX6_append_7 rfl) (mpp 9 rfl ?_)
  refine mp_Tt (t := 24) (j_icmp_gt dX6_append_9) h2 (by decide) ?_
  refine mp_a (a_sipush (v := -1002) dX6_append_24 rfl) (mpp 27 rfl ?_)
  exact mp_iret (⟨rfl, MOD.r⟩) dX6_append_27 (Or.inl rfl)

set_option maxRecDepth 100000 in
set_option maxHeartbeats 4000000 in
theorem xo_append_3 (a1 : Int32)  (h1 : ¬ a1 < 32) (h2 : ¬ 126 < a1) : EvP 10 92 [.ref 0, .int a1] P0 (fun r P' => r = some (.int 1) ∧ MOD P') := by
  refine EvP.of qm_92 (Nat.le_of_ble_eq_true rfl) rfl ?_
  show MEvP _ none q_92 0 [(0, .ref 0), (1, .int a1)] [] _ 0 0 _
  refine mp_a (a_iload_n dX6_append_0 rfl) (mpp 1 rfl ?_)
  refine mp_a (a_bipush (v := 32) dX6_append_1 rfl) (mpp 3 rfl ?_)
  refine mp_Tf (t := 24) (j_icmp_lt dX6_append_3) h1 (by decide) (mpp 6 rfl ?_)
  refine mp_a (a_iload_n dX6_append_6 rfl) (mpp 7 rfl ?_)
  refine mp_a (a_bipush (v := 126) dX6_append_7 rfl) (mpp 9 rfl ?_)
  refine mp_Tf (t := 24) (j_icmp_gt dX6_append_9) h2 (by decide) (mpp 12 rfl ?_)
  refine mp_a (a_aload_n dX6_append_12 rfl) (mpp 13 rfl ?_)
  refine mp_get (i := 32) (v := .ref 289) dX6_append_13 rfl p0_0 rfl (mpp 16 rfl ?_)
  refine mp_get (i := 216) (v := .int 0) dX6_append_16 rfl p0_289 rfl (mpp 19 rfl ?_)
  refine mp_a (a_bipush (v := 80) dX6_append_19 rfl) (mpp 21 rfl ?_)
  refine mp_Tt (t := 28) (j_icmp_lt dX6_append_21) (by decide) (by decide) ?_
  refine mp_a (a_aload_n dX6_append_28 rfl) (mpp 29 rfl ?_)
  refine mp_get (i := 32) (v := .ref 289) dX6_append_29 rfl p0_0 rfl (mpp 32 rfl ?_)
  refine mp_a (a_iload_n dX6_append_32 rfl) (mpp 33 rfl ?_)
  refine mp_callv (i := 219) (q' := q_93) (As := [.int a1]) (rest := []) dX6_append_33 rfl qm_93 (by decide) rfl p0_289 (by decide) (Nat.le_of_ble_eq_true rfl) rfl ⟨rfl, rfl⟩ ⟨Nat.le_of_ble_eq_true rfl, Nat.le_of_ble_eq_true rfl⟩ (EvP.mono (by decide) (x_write p0_289 p0_290)) (fun r1 P1 g1 => mpp 36 rfl ?_)
  obtain ⟨rfl, rfl⟩ := g1
  show MEvP _ none q_92 36 [(0, .ref 0), (1, .int a1)] [] _ _ _ _
  refine mp_a (a_aload_n dX6_append_36 rfl) (mpp 37 rfl ?_)
  refine mp_get (i := 32) (v := .ref 289) dX6_append_37 rfl (mset_ne (mset_ne p0_0 (by decide)) (by decide)) rfl (mpp 40 rfl ?_)
  refine mp_get (i := 216) (v := .int 1) dX6_append_40 rfl (mset_eq (mset_ne p0_289 (by decide))) rfl (mpp 43 rfl ?_)
  exact mp_iret (⟨rfl, (MOD.set (MOD.set MOD.r (by decide)) (by decide))⟩) dX6_append_43 (Or.inl rfl)

set_option maxRecDepth 100000 in
set_option maxHeartbeats 4000000 in
theorem xo_stage_1 (a1 : Int32)  (h1 : a1 < 1) : EvP 10 7 [.ref 0, .int a1] P0 (fun r P' => r = some (.int (-1002)) ∧ MOD P') := by
  refine EvP.of qm_7 (Nat.le_of_ble_eq_true rfl) rfl ?_
  show MEvP _ none q_7 0 [(0, .ref 0), (1, .int a1)] [] _ 0 0 _
  refine mp_a (a_iload_n dX6_stage_0 rfl) (mpp 1 rfl ?_)
  refine mp_a (a_iconst (v := 1) dX6_stage_1 rfl) (mpp 2 rfl ?_)
  refine mp_Tt (t := 11) (j_icmp_lt dX6_stage_2) h1 (by decide) ?_
  refine mp_a (a_sipush (v := -1002) dX6_stage_11 rfl) (mpp 14 rfl ?_)
  exact mp_iret (⟨rfl, MOD.r⟩) dX6_stage_14 (Or.inl rfl)

set_option maxRecDepth 100000 in
set_option maxHeartbeats 4000000 in
theorem xo_stage_2 (a1 : Int32)  (h1 : ¬ a1 < 1) (h2 : 99 < a1) : EvP 10 7 [.ref 0, .int a1] P0 (fun r P' => r = some (.int (-1002)) ∧ MOD P') := by
  refine EvP.of qm_7 (Nat.le_of_ble_eq_true rfl) rfl ?_
  show MEvP _ none q_7 0 [(0, .ref 0), (1, .int a1)] [] _ 0 0 _
  refine mp_a (a_iload_n dX6_stage_0 rfl) (mpp 1 rfl ?_)
  refine mp_a (a_iconst (v := 1) dX6_stage_1 rfl) (mpp 2 rfl ?_)
  refine mp_Tf (t := 11) (j_icmp_lt dX6_stage_2) h1 (by decide) (mpp 5 rfl ?_)
  refine mp_a (a_iload_n dX6_stage_5 rfl) (mpp 6 rfl ?_)
  refine mp_a (a_bipush (v := 99) dX6_stage_6 rfl) (mpp 8 rfl ?_)
  refine mp_Tb (t := 15) (j_icmp_le dX6_stage_8) (by decide) (fun c1 => ?_) (fun c1 => mpp 11 rfl ?_)
  · exfalso; have k0 : (1 : Int32).toInt = 1 := rfl; have k1 : (99 : Int32).toInt = 99 := rfl; simp only [Int32.lt_iff_toInt_lt, Int32.le_iff_toInt_le, ← Int32.toInt_inj, Decidable.not_not] at h1 h2 c1; omega
  · refine mp_a (a_sipush (v := -1002) dX6_stage_11 rfl) (mpp 14 rfl ?_)
    exact mp_iret (⟨rfl, MOD.r⟩) dX6_stage_14 (Or.inl rfl)

set_option maxRecDepth 100000 in
set_option maxHeartbeats 4000000 in
theorem xo_stage_3 (a1 : Int32)  (h1 : ¬ a1 < 1) (h2 : ¬ 99 < a1) (h3 : 0 - a1 ≤ 0) : EvP 10 7 [.ref 0, .int a1] P0 (fun r P' => r = some (.int 30) ∧ MOD P') := by
  refine EvP.of qm_7 (Nat.le_of_ble_eq_true rfl) rfl ?_
  show MEvP _ none q_7 0 [(0, .ref 0), (1, .int a1)] [] _ 0 0 _
  refine mp_a (a_iload_n dX6_stage_0 rfl) (mpp 1 rfl ?_)
  refine mp_a (a_iconst (v := 1) dX6_stage_1 rfl) (mpp 2 rfl ?_)
  refine mp_Tf (t := 11) (j_icmp_lt dX6_stage_2) h1 (by decide) (mpp 5 rfl ?_)
  refine mp_a (a_iload_n dX6_stage_5 rfl) (mpp 6 rfl ?_)
  refine mp_a (a_bipush (v := 99) dX6_stage_6 rfl) (mpp 8 rfl ?_)
  refine mp_Tb (t := 15) (j_icmp_le dX6_stage_8) (by decide) (fun c1 => ?_) (fun c1 => mpp 11 rfl ?_)
  · refine mp_a (a_aload_n dX6_stage_15 rfl) (mpp 16 rfl ?_)
    refine mp_get (i := 10) (v := .ref 1) dX6_stage_16 rfl p0_0 rfl (mpp 19 rfl ?_)
    refine mp_callv (i := 64) (q' := q_8) (As := []) (rest := []) dX6_stage_19 rfl qm_8 (by decide) rfl p0_1 (by decide) (Nat.le_of_ble_eq_true rfl) rfl ⟨rfl, rfl⟩ ⟨Nat.le_of_ble_eq_true rfl, Nat.le_of_ble_eq_true rfl⟩ (EvP.mono (by decide) (x_occupied p0_1)) (fun r1 P1 g2 => mpp 22 rfl ?_)
    obtain ⟨rfl, rfl⟩ := g2
    show MEvP _ none q_7 22 [(0, .ref 0), (1, .int a1)] [.int 0] _ _ _ _
    refine mp_a (a_iload_n dX6_stage_22 rfl) (mpp 23 rfl ?_)
    refine mp_t (s_isub (v := (0 - a1)) dX6_stage_23 rfl) (mpp 24 rfl ?_)
    refine mp_a (a_istore_n (L' := [(2, .int (0 - a1)), (0, .ref 0), (1, .int a1)]) dX6_stage_24 (by decide) rfl) (mpp 25 rfl ?_)
    refine mp_a (a_iload_n dX6_stage_25 rfl) (mpp 26 rfl ?_)
    refine mp_Tt (t := 37) (j_if_le dX6_stage_26) h3 (by decide) ?_
    refine mp_a (a_aload_n dX6_stage_37 rfl) (mpp 38 rfl ?_)
    refine mp_get (i := 25) (v := .ref 79) dX6_stage_38 rfl p0_0 rfl (mpp 41 rfl ?_)
    refine mp_a (a_aload_n dX6_stage_41 rfl) (mpp 42 rfl ?_)
    refine mp_get (i := 10) (v := .ref 1) dX6_stage_42 rfl p0_0 rfl (mpp 45 rfl ?_)
    refine mp_callv (i := 72) (q' := q_15) (As := [.ref 1]) (rest := []) dX6_stage_45 rfl qm_15 (by decide) rfl p0_79 (by decide) (Nat.le_of_ble_eq_true rfl) rfl ⟨rfl, rfl⟩ ⟨Nat.le_of_ble_eq_true rfl, Nat.le_of_ble_eq_true rfl⟩ (EvP.mono (by decide) (x_push p0_79 p0_80 p0_81 p0_1)) (fun r1 P1 g3 => mpp 48 rfl ?_)
    obtain ⟨rfl, g3⟩ := g3
    show MEvP _ none q_7 48 [(2, .int (0 - a1)), (0, .ref 0), (1, .int a1)] [] _ _ _ _
    refine mp_a (a_aload_n dX6_stage_48 rfl) (mpp 49 rfl ?_)
    refine mp_get (i := 10) (v := .ref 1) dX6_stage_49 rfl ((g3 0 (by decide) (by decide)).trans p0_0) rfl (mpp 52 rfl ?_)
    refine mp_get (i := 76) (v := .int 30) dX6_stage_52 rfl ((g3 1 (by decide) (by decide)).trans p0_1) rfl (mpp 55 rfl ?_)
    refine mp_a (a_istore_n (L' := [(3, .int 30), (2, .int (0 - a1)), (0, .ref 0), (1, .int a1)]) dX6_stage_55 (by decide) rfl) (mpp 56 rfl ?_)
    refine mp_a (a_aload_n dX6_stage_56 rfl) (mpp 57 rfl ?_)
    refine mp_get (i := 10) (v := .ref 1) dX6_stage_57 rfl ((g3 0 (by decide) (by decide)).trans p0_0) rfl (mpp 60 rfl ?_)
    refine mp_a (a_iload_n dX6_stage_60 rfl) (mpp 61 rfl ?_)
    refine mp_put (i := 76) dX6_stage_61 rfl ((g3 1 (by decide) (by decide)).trans p0_1) (Nat.le_of_ble_eq_true rfl) rfl (Or.inl rfl) (mpp 64 rfl ?_)
    refine mp_a (a_iload_n dX6_stage_64 rfl) (mpp 65 rfl ?_)
    exact mp_iret (⟨rfl, (MOD.set (MOD.ne2 MOD.r g3 (by decide) (by decide)) (by decide))⟩) dX6_stage_65 (Or.inl rfl)
  · exfalso; have k0 : (0 : Int32).toInt = 0 := rfl; have k1 : (1 : Int32).toInt = 1 := rfl; have k2 : (99 : Int32).toInt = 99 := rfl; simp only [Int32.lt_iff_toInt_lt, Int32.le_iff_toInt_le, ← Int32.toInt_inj, Decidable.not_not] at h1 h2 h3 c1; omega

set_option maxRecDepth 100000 in
set_option maxHeartbeats 4000000 in
theorem xo_read   : EvP 10 94 [.ref 0] P0 (fun r P' => r = some (.int (-2000)) ∧ MOD P') := by
  refine EvP.of qm_94 (Nat.le_of_ble_eq_true rfl) rfl ?_
  show MEvP _ none q_94 0 [(0, .ref 0)] [] _ 0 0 _
  refine mp_a (a_aload_n dX6_read_0 rfl) (mpp 1 rfl ?_)
  refine mp_get (i := 32) (v := .ref 289) dX6_read_1 rfl p0_0 rfl (mpp 4 rfl ?_)
  refine mp_callv (i := 222) (q' := q_95) (As := []) (rest := []) dX6_read_4 rfl qm_95 (by decide) rfl p0_289 (by decide) (Nat.le_of_ble_eq_true rfl) rfl ⟨rfl, rfl⟩ ⟨Nat.le_of_ble_eq_true rfl, Nat.le_of_ble_eq_true rfl⟩ (EvP.mono (by decide) (x_faultPosition p0_289)) (fun r1 P1 g1 => mpp 7 rfl ?_)
  obtain ⟨rfl, rfl⟩ := g1
  show MEvP _ none q_94 7 [(0, .ref 0)] [.int 0] _ _ _ _
  refine mp_a (a_istore_n (L' := [(1, .int 0), (0, .ref 0)]) dX6_read_7 (by decide) rfl) (mpp 8 rfl ?_)
  refine mp_a (a_iload_n dX6_read_8 rfl) (mpp 9 rfl ?_)
  refine mp_a (a_sipush (v := -1004) dX6_read_9 rfl) (mpp 12 rfl ?_)
  refine mp_Tf (t := 28) (j_icmp_eq dX6_read_12) (by decide) (by decide) (mpp 15 rfl ?_)
  refine mp_a (a_aload_n dX6_read_15 rfl) (mpp 16 rfl ?_)
  refine mp_get (i := 32) (v := .ref 289) dX6_read_16 rfl (mset_ne (mset_ne p0_0 (by decide)) (by decide)) rfl (mpp 19 rfl ?_)
  refine mp_callv (i := 225) (q' := q_106) (As := []) (rest := []) dX6_read_19 rfl qm_106 (by decide) rfl (mset_eq (mset_eq p0_289)) (by decide) (Nat.le_of_ble_eq_true rfl) rfl ⟨rfl, rfl⟩ ⟨Nat.le_of_ble_eq_true rfl, Nat.le_of_ble_eq_true rfl⟩ (EvP.mono (by decide) (x_sclear (mset_eq (mset_eq p0_289)))) (fun r1 P1 g2 => mpp 22 rfl ?_)
  obtain ⟨rfl, rfl⟩ := g2
  show MEvP _ none q_94 22 [(1, .int 0), (0, .ref 0)] [] _ _ _ _
  refine mp_a (a_sipush (v := -2000) dX6_read_22 rfl) (mpp 25 rfl ?_)
  refine mp_a (a_iload_n dX6_read_25 rfl) (mpp 26 rfl ?_)
  refine mp_t (s_isub (v := (-2000)) dX6_read_26 rfl) (mpp 27 rfl ?_)
  exact mp_iret (⟨rfl, (MOD.set (MOD.set (MOD.set MOD.r (by decide)) (by decide)) (by decide))⟩) dX6_read_27 (Or.inl rfl)

set_option maxRecDepth 100000 in
set_option maxHeartbeats 4000000 in
theorem xo_save   : EvP 10 119 [.ref 0] P0 (fun r P' => r = some (.int 0) ∧ MOD P') := by
  refine EvP.of qm_119 (Nat.le_of_ble_eq_true rfl) rfl ?_
  show MEvP _ none q_119 0 [(0, .ref 0)] [] _ 0 0 _
  refine mp_a (a_aload_n dX6_save_0 rfl) (mpp 1 rfl ?_)
  refine mp_get (i := 19) (v := .ref 53) dX6_save_1 rfl p0_0 rfl (mpp 4 rfl ?_)
  refine mp_a (a_aload_n dX6_save_4 rfl) (mpp 5 rfl ?_)
  refine mp_get (i := 10) (v := .ref 1) dX6_save_5 rfl p0_0 rfl (mpp 8 rfl ?_)
  refine mp_callv (i := 228) (q' := q_17) (As := [.ref 1]) (rest := []) dX6_save_8 rfl qm_17 (by decide) rfl p0_53 (by decide) (Nat.le_of_ble_eq_true rfl) rfl ⟨rfl, rfl⟩ ⟨Nat.le_of_ble_eq_true rfl, Nat.le_of_ble_eq_true rfl⟩ (EvP.mono (by decide) (x_copyState p0_53 p0_1 (by decide))) (fun r1 P1 g1 => mpp 11 rfl ?_)
  obtain ⟨rfl, g1⟩ := g1
  show MEvP _ none q_119 11 [(0, .ref 0)] [] _ _ _ _
  refine mp_a (a_aload_n dX6_save_11 rfl) (mpp 12 rfl ?_)
  refine mp_a (a_iconst (v := 1) dX6_save_12 rfl) (mpp 13 rfl ?_)
  refine mp_put (i := 272) dX6_save_13 rfl ((g1 0 (by decide)).trans p0_0) (Nat.le_of_ble_eq_true rfl) rfl (Or.inl rfl) (mpp 16 rfl ?_)
  refine mp_a (a_aload_n dX6_save_16 rfl) (mpp 17 rfl ?_)
  refine mp_get (i := 10) (v := .ref 1) dX6_save_17 rfl (mset_eq ((g1 0 (by decide)).trans p0_0)) rfl (mpp 20 rfl ?_)
  refine mp_get (i := 87) (v := .int 0) dX6_save_20 rfl (mset_ne ((g1 1 (by decide)).trans p0_1) (by decide)) rfl (mpp 23 rfl ?_)
  exact mp_iret (⟨rfl, (MOD.set (MOD.ne MOD.r g1 (by decide)) (by decide))⟩) dX6_save_23 (Or.inl rfl)
