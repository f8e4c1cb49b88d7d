/-! the reference, on a fresh object (written by a program) -/
theorem dX7_account_0 : decode cX7_account 0 = .ok (.iload_n 1, 1) := by decide +kernel
theorem dX7_account_1 : decode cX7_account 1 = .ok (.tableswitch 159 0 12 #[67, 74, 87, 93, 100, 107, 119, 124, 130, 136, 142, 149, 154], 67) := by decide +kernel
theorem dX7_account_68 : decode cX7_account 68 = .ok (.aload_n 0, 1) := by decide +kernel
theorem dX7_account_69 : decode cX7_account 69 = .ok (.getfield 9, 3) := by decide +kernel
theorem dX7_account_72 : decode cX7_account 72 = .ok (.iconst 0, 1) := by decide +kernel
theorem dX7_account_73 : decode cX7_account 73 = .ok (.iaload, 1) := by decide +kernel
theorem dX7_account_74 : decode cX7_account 74 = .ok (.ireturn, 1) := by decide +kernel
theorem dX7_account_75 : decode cX7_account 75 = .ok (.aload_n 0, 1) := by decide +kernel
theorem dX7_account_76 : decode cX7_account 76 = .ok (.getfield 9, 3) := by decide +kernel
theorem dX7_account_79 : decode cX7_account 79 = .ok (.iconst 0, 1) := by decide +kernel
theorem dX7_account_80 : decode cX7_account 80 = .ok (.iaload, 1) := by decide +kernel
theorem dX7_account_81 : decode cX7_account 81 = .ok (.aload_n 0, 1) := by decide +kernel
theorem dX7_account_82 : decode cX7_account 82 = .ok (.iconst 0, 1) := by decide +kernel
theorem dX7_account_83 : decode cX7_account 83 = .ok (.invokevirtual 351, 3) := by decide +kernel
theorem dX7_account_86 : decode cX7_account 86 = .ok (.isub, 1) := by decide +kernel
theorem dX7_account_87 : decode cX7_account 87 = .ok (.ireturn, 1) := by decide +kernel
theorem dX7_account_88 : decode cX7_account 88 = .ok (.aload_n 0, 1) := by decide +kernel
theorem dX7_account_89 : decode cX7_account 89 = .ok (.iconst 0, 1) := by decide +kernel
theorem dX7_account_90 : decode cX7_account 90 = .ok (.invokevirtual 351, 3) := by decide +kernel
theorem dX7_account_93 : decode cX7_account 93 = .ok (.ireturn, 1) := by decide +kernel
theorem dX7_account_94 : decode cX7_account 94 = .ok (.aload_n 0, 1) := by decide +kernel
theorem dX7_account_95 : decode cX7_account 95 = .ok (.bipush 7, 2) := by decide +kernel
theorem dX7_account_97 : decode cX7_account 97 = .ok (.invokevirtual 351, 3) := by decide +kernel
theorem dX7_account_100 : decode cX7_account 100 = .ok (.ireturn, 1) := by decide +kernel
theorem dX7_account_101 : decode cX7_account 101 = .ok (.aload_n 0, 1) := by decide +kernel
theorem dX7_account_102 : decode cX7_account 102 = .ok (.getfield 9, 3) := by decide +kernel
theorem dX7_account_105 : decode cX7_account 105 = .ok (.iconst 1, 1) := by decide +kernel
theorem dX7_account_106 : decode cX7_account 106 = .ok (.iaload, 1) := by decide +kernel
theorem dX7_account_107 : decode cX7_account 107 = .ok (.ireturn, 1) := by decide +kernel
theorem dX7_account_108 : decode cX7_account 108 = .ok (.aload_n 0, 1) := by decide +kernel
theorem dX7_account_109 : decode cX7_account 109 = .ok (.getfield 9, 3) := by decide +kernel
theorem dX7_account_112 : decode cX7_account 112 = .ok (.iconst 1, 1) := by decide +kernel
theorem dX7_account_113 : decode cX7_account 113 = .ok (.iaload, 1) := by decide +kernel
theorem dX7_account_114 : decode cX7_account 114 = .ok (.aload_n 0, 1) := by decide +kernel
theorem dX7_account_115 : decode cX7_account 115 = .ok (.invokevirtual 231, 3) := by decide +kernel
theorem dX7_account_118 : decode cX7_account 118 = .ok (.isub, 1) := by decide +kernel
theorem dX7_account_119 : decode cX7_account 119 = .ok (.ireturn, 1) := by decide +kernel
theorem dX7_account_120 : decode cX7_account 120 = .ok (.aload_n 0, 1) := by decide +kernel
theorem dX7_account_121 : decode cX7_account 121 = .ok (.invokevirtual 354, 3) := by decide +kernel
theorem dX7_account_124 : decode cX7_account 124 = .ok (.ireturn, 1) := by decide +kernel
theorem dX7_account_125 : decode cX7_account 125 = .ok (.aload_n 0, 1) := by decide +kernel
theorem dX7_account_126 : decode cX7_account 126 = .ok (.iconst 3, 1) := by decide +kernel
theorem dX7_account_127 : decode cX7_account 127 = .ok (.invokevirtual 351, 3) := by decide +kernel
theorem dX7_account_130 : decode cX7_account 130 = .ok (.ireturn, 1) := by decide +kernel
theorem dX7_account_131 : decode cX7_account 131 = .ok (.aload_n 0, 1) := by decide +kernel
theorem dX7_account_132 : decode cX7_account 132 = .ok (.iconst 4, 1) := by decide +kernel
theorem dX7_account_133 : decode cX7_account 133 = .ok (.invokevirtual 351, 3) := by decide +kernel
theorem dX7_account_136 : decode cX7_account 136 = .ok (.ireturn, 1) := by decide +kernel
theorem dX7_account_137 : decode cX7_account 137 = .ok (.aload_n 0, 1) := by decide +kernel
theorem dX7_account_138 : decode cX7_account 138 = .ok (.iconst 5, 1) := by decide +kernel
theorem dX7_account_139 : decode cX7_account 139 = .ok (.invokevirtual 351, 3) := by decide +kernel
theorem dX7_account_142 : decode cX7_account 142 = .ok (.ireturn, 1) := by decide +kernel
theorem dX7_account_143 : decode cX7_account 143 = .ok (.aload_n 0, 1) := by decide +kernel
theorem dX7_account_144 : decode cX7_account 144 = .ok (.getfield 9, 3) := by decide +kernel
theorem dX7_account_147 : decode cX7_account 147 = .ok (.iconst 2, 1) := by decide +kernel
theorem dX7_account_148 : decode cX7_account 148 = .ok (.iaload, 1) := by decide +kernel
theorem dX7_account_149 : decode cX7_account 149 = .ok (.ireturn, 1) := by decide +kernel
theorem dX7_account_150 : decode cX7_account 150 = .ok (.aload_n 0, 1) := by decide +kernel
theorem dX7_account_151 : decode cX7_account 151 = .ok (.getfield 291, 3) := by decide +kernel
theorem dX7_account_154 : decode cX7_account 154 = .ok (.ireturn, 1) := by decide +kernel
theorem dX7_account_155 : decode cX7_account 155 = .ok (.aload_n 0, 1) := by decide +kernel
theorem dX7_account_156 : decode cX7_account 156 = .ok (.getfield 58, 3) := by decide +kernel
theorem dX7_account_159 : decode cX7_account 159 = .ok (.ireturn, 1) := by decide +kernel
theorem dX7_account_160 : decode cX7_account 160 = .ok (.sipush (-1002), 3) := by decide +kernel
theorem dX7_account_163 : decode cX7_account 163 = .ok (.ireturn, 1) := by decide +kernel
theorem dX7_allOf_0 : decode cX7_allOf 0 = .ok (.iconst 0, 1) := by decide +kernel
theorem dX7_allOf_1 : decode cX7_allOf 1 = .ok (.istore_n 2, 1) := by decide +kernel
theorem dX7_allOf_2 : decode cX7_allOf 2 = .ok (.iconst 0, 1) := by decide +kernel
theorem dX7_allOf_3 : decode cX7_allOf 3 = .ok (.istore_n 3, 1) := by decide +kernel
theorem dX7_allOf_4 : decode cX7_allOf 4 = .ok (.iload_n 3, 1) := by decide +kernel
theorem dX7_allOf_5 : decode cX7_allOf 5 = .ok (.aload_n 0, 1) := by decide +kernel
theorem dX7_allOf_6 : decode cX7_allOf 6 = .ok (.getfield 9, 3) := by decide +kernel
theorem dX7_allOf_9 : decode cX7_allOf 9 = .ok (.iconst 0, 1) := by decide +kernel
theorem dX7_allOf_10 : decode cX7_allOf 10 = .ok (.iaload, 1) := by decide +kernel
theorem dX7_allOf_11 : decode cX7_allOf 11 = .ok (.if_icmp .ge 18, 3) := by decide +kernel
theorem dX7_allOf_29 : decode cX7_allOf 29 = .ok (.iload_n 2, 1) := by decide +kernel
theorem dX7_allOf_30 : decode cX7_allOf 30 = .ok (.ireturn, 1) := by decide +kernel
theorem dX7_append_0 : decode cX7_append 0 = .ok (.iload_n 1, 1) := by decide +kernel
theorem dX7_append_1 : decode cX7_append 1 = .ok (.bipush 32, 2) := by decide +kernel
theorem dX7_append_3 : decode cX7_append 3 = .ok (.bipush 126, 2) := by decide +kernel
theorem dX7_append_5 : decode cX7_append 5 = .ok (.invokestatic 61, 3) := by decide +kernel
theorem dX7_append_8 : decode cX7_append 8 = .ok (.ifCond .eq 12, 3) := by decide +kernel
theorem dX7_append_11 : decode cX7_append 11 = .ok (.aload_n 0, 1) := by decide +kernel
theorem dX7_append_12 : decode cX7_append 12 = .ok (.getfield 291, 3) := by decide +kernel
theorem dX7_append_15 : decode cX7_append 15 = .ok (.bipush 80, 2) := by decide +kernel
theorem dX7_append_17 : decode cX7_append 17 = .ok (.if_icmp .ne 7, 3) := by decide +kernel
theorem dX7_append_20 : decode cX7_append 20 = .ok (.sipush (-1002), 3) := by decide +kernel
theorem dX7_append_23 : decode cX7_append 23 = .ok (.ireturn, 1) := by decide +kernel
theorem dX7_append_24 : decode cX7_append 24 = .ok (.aload_n 0, 1) := by decide +kernel
theorem dX7_append_25 : decode cX7_append 25 = .ok (.getfield 47, 3) := by decide +kernel
theorem dX7_append_28 : decode cX7_append 28 = .ok (.aload_n 0, 1) := by decide +kernel
theorem dX7_append_29 : decode cX7_append 29 = .ok (.getfield 291, 3) := by decide +kernel
theorem dX7_append_32 : decode cX7_append 32 = .ok (.iload_n 1, 1) := by decide +kernel
theorem dX7_append_33 : decode cX7_append 33 = .ok (.iastore, 1) := by decide +kernel
theorem dX7_append_34 : decode cX7_append 34 = .ok (.aload_n 0, 1) := by decide +kernel
theorem dX7_append_35 : decode cX7_append 35 = .ok (.dup, 1) := by decide +kernel
theorem dX7_append_36 : decode cX7_append 36 = .ok (.getfield 291, 3) := by decide +kernel
theorem dX7_append_39 : decode cX7_append 39 = .ok (.iconst 1, 1) := by decide +kernel
theorem dX7_append_40 : decode cX7_append 40 = .ok (.iadd, 1) := by decide +kernel
theorem dX7_append_41 : decode cX7_append 41 = .ok (.putfield 291, 3) := by decide +kernel
theorem dX7_append_44 : decode cX7_append 44 = .ok (.aload_n 0, 1) := by decide +kernel
theorem dX7_append_45 : decode cX7_append 45 = .ok (.getfield 291, 3) := by decide +kernel
theorem dX7_append_48 : decode cX7_append 48 = .ok (.ireturn, 1) := by decide +kernel
theorem dX7_changed_0 : decode cX7_changed 0 = .ok (.aload_n 0, 1) := by decide +kernel
theorem dX7_changed_1 : decode cX7_changed 1 = .ok (.getfield 58, 3) := by decide +kernel
theorem dX7_changed_4 : decode cX7_changed 4 = .ok (.bipush 8, 2) := by decide +kernel
theorem dX7_changed_6 : decode cX7_changed 6 = .ok (.if_icmp .ne 50, 3) := by decide +kernel
theorem dX7_changed_56 : decode cX7_changed 56 = .ok (.aload_n 0, 1) := by decide +kernel
theorem dX7_changed_57 : decode cX7_changed 57 = .ok (.getfield 13, 3) := by decide +kernel
theorem dX7_changed_60 : decode cX7_changed 60 = .ok (.iconst 0, 1) := by decide +kernel
theorem dX7_changed_61 : decode cX7_changed 61 = .ok (.aload_n 0, 1) := by decide +kernel
theorem dX7_changed_62 : decode cX7_changed 62 = .ok (.getfield 19, 3) := by decide +kernel
theorem dX7_changed_65 : decode cX7_changed 65 = .ok (.sipush 155, 3) := by decide +kernel
theorem dX7_changed_68 : decode cX7_changed 68 = .ok (.aload_n 0, 1) := by decide +kernel
theorem dX7_changed_69 : decode cX7_changed 69 = .ok (.getfield 58, 3) := by decide +kernel
theorem dX7_changed_72 : decode cX7_changed 72 = .ok (.imul, 1) := by decide +kernel
theorem dX7_changed_73 : decode cX7_changed 73 = .ok (.invokestatic 54, 3) := by decide +kernel
theorem dX7_changed_76 : decode cX7_changed 76 = .ok (.aload_n 0, 1) := by decide +kernel
theorem dX7_changed_77 : decode cX7_changed 77 = .ok (.dup, 1) := by decide +kernel
theorem dX7_changed_78 : decode cX7_changed 78 = .ok (.getfield 58, 3) := by decide +kernel
theorem dX7_changed_81 : decode cX7_changed 81 = .ok (.iconst 1, 1) := by decide +kernel
theorem dX7_changed_82 : decode cX7_changed 82 = .ok (.iadd, 1) := by decide +kernel
theorem dX7_changed_83 : decode cX7_changed 83 = .ok (.putfield 58, 3) := by decide +kernel
theorem dX7_changed_86 : decode cX7_changed 86 = .ok (.return_, 1) := by decide +kernel
theorem dX7_crease_0 : decode cX7_crease 0 = .ok (.aload_n 0, 1) := by decide +kernel
theorem dX7_crease_1 : decode cX7_crease 1 = .ok (.iload_n 1, 1) := by decide +kernel
theorem dX7_crease_2 : decode cX7_crease 2 = .ok (.iload_n 2, 1) := by decide +kernel
theorem dX7_crease_3 : decode cX7_crease 3 = .ok (.invokevirtual 127, 3) := by decide +kernel
theorem dX7_crease_6 : decode cX7_crease 6 = .ok (.ifCond .eq 12, 3) := by decide +kernel
theorem dX7_crease_18 : decode cX7_crease 18 = .ok (.sipush (-1001), 3) := by decide +kernel
theorem dX7_crease_21 : decode cX7_crease 21 = .ok (.ireturn, 1) := by decide +kernel
theorem dX7_cut_0 : decode cX7_cut 0 = .ok (.aload_n 0, 1) := by decide +kernel
theorem dX7_cut_1 : decode cX7_cut 1 = .ok (.invokevirtual 117, 3) := by decide +kernel
theorem dX7_cut_4 : decode cX7_cut 4 = .ok (.aload_n 0, 1) := by decide +kernel
theorem dX7_cut_5 : decode cX7_cut 5 = .ok (.aload_n 0, 1) := by decide +kernel
theorem dX7_cut_6 : decode cX7_cut 6 = .ok (.iload_n 1, 1) := by decide +kernel
theorem dX7_cut_7 : decode cX7_cut 7 = .ok (.iload_n 2, 1) := by decide +kernel
theorem dX7_cut_8 : decode cX7_cut 8 = .ok (.invokevirtual 158, 3) := by decide +kernel
theorem dX7_cut_11 : decode cX7_cut 11 = .ok (.invokevirtual 124, 3) := by decide +kernel
theorem dX7_cut_14 : decode cX7_cut 14 = .ok (.ireturn, 1) := by decide +kernel
theorem dX7_cuts_0 : decode cX7_cuts 0 = .ok (.aload_n 0, 1) := by decide +kernel
theorem dX7_cuts_1 : decode cX7_cuts 1 = .ok (.iload_n 1, 1) := by decide +kernel
theorem dX7_cuts_2 : decode cX7_cuts 2 = .ok (.iload_n 2, 1) := by decide +kernel
theorem dX7_cuts_3 : decode cX7_cuts 3 = .ok (.invokevirtual 127, 3) := by decide +kernel
theorem dX7_cuts_6 : decode cX7_cuts 6 = .ok (.ifCond .ne 7, 3) := by decide +kernel
theorem dX7_cuts_9 : decode cX7_cuts 9 = .ok (.sipush (-1001), 3) := by decide +kernel
theorem dX7_cuts_12 : decode cX7_cuts 12 = .ok (.ireturn, 1) := by decide +kernel
theorem dX7_drop_0 : decode cX7_drop 0 = .ok (.aload_n 0, 1) := by decide +kernel
theorem dX7_drop_1 : decode cX7_drop 1 = .ok (.invokevirtual 117, 3) := by decide +kernel
theorem dX7_drop_4 : decode cX7_drop 4 = .ok (.aload_n 0, 1) := by decide +kernel
theorem dX7_drop_5 : decode cX7_drop 5 = .ok (.aload_n 0, 1) := by decide +kernel
theorem dX7_drop_6 : decode cX7_drop 6 = .ok (.iload_n 1, 1) := by decide +kernel
theorem dX7_drop_7 : decode cX7_drop 7 = .ok (.invokevirtual 246, 3) := by decide +kernel
theorem dX7_drop_10 : decode cX7_drop 10 = .ok (.invokevirtual 124, 3) := by decide +kernel
theorem dX7_drop_13 : decode cX7_drop 13 = .ok (.ireturn, 1) := by decide +kernel
theorem dX7_drops_0 : decode cX7_drops 0 = .ok (.aload_n 0, 1) := by decide +kernel
theorem dX7_drops_1 : decode cX7_drops 1 = .ok (.iload_n 1, 1) := by decide +kernel
theorem dX7_drops_2 : decode cX7_drops 2 = .ok (.invokevirtual 85, 3) := by decide +kernel
theorem dX7_drops_5 : decode cX7_drops 5 = .ok (.ifCond .ne 7, 3) := by decide +kernel
theorem dX7_drops_8 : decode cX7_drops 8 = .ok (.sipush (-1001), 3) := by decide +kernel
theorem dX7_drops_11 : decode cX7_drops 11 = .ok (.ireturn, 1) := by decide +kernel
theorem dX7_ends_0 : decode cX7_ends 0 = .ok (.aload_n 0, 1) := by decide +kernel
theorem dX7_ends_1 : decode cX7_ends 1 = .ok (.iload_n 1, 1) := by decide +kernel
theorem dX7_ends_2 : decode cX7_ends 2 = .ok (.sipush (-1003), 3) := by decide +kernel
theorem dX7_ends_5 : decode cX7_ends 5 = .ok (.if_icmp .ne 9, 3) := by decide +kernel
theorem dX7_ends_14 : decode cX7_ends 14 = .ok (.aload_n 0, 1) := by decide +kernel
theorem dX7_ends_15 : decode cX7_ends 15 = .ok (.getfield 50, 3) := by decide +kernel
theorem dX7_ends_18 : decode cX7_ends 18 = .ok (.putfield 50, 3) := by decide +kernel
theorem dX7_ends_21 : decode cX7_ends 21 = .ok (.iload_n 1, 1) := by decide +kernel
theorem dX7_ends_22 : decode cX7_ends 22 = .ok (.sipush (-1004), 3) := by decide +kernel
theorem dX7_ends_25 : decode cX7_ends 25 = .ok (.sipush (-1001), 3) := by decide +kernel
theorem dX7_ends_28 : decode cX7_ends 28 = .ok (.invokestatic 61, 3) := by decide +kernel
theorem dX7_ends_31 : decode cX7_ends 31 = .ok (.ifCond .ne 7, 3) := by decide +kernel
theorem dX7_ends_34 : decode cX7_ends 34 = .ok (.aload_n 0, 1) := by decide +kernel
theorem dX7_ends_35 : decode cX7_ends 35 = .ok (.invokevirtual 65, 3) := by decide +kernel
theorem dX7_ends_38 : decode cX7_ends 38 = .ok (.iload_n 1, 1) := by decide +kernel
theorem dX7_ends_39 : decode cX7_ends 39 = .ok (.ireturn, 1) := by decide +kernel
theorem dX7_fewest_0 : decode cX7_fewest 0 = .ok (.aload_n 0, 1) := by decide +kernel
theorem dX7_fewest_1 : decode cX7_fewest 1 = .ok (.iload_n 1, 1) := by decide +kernel
theorem dX7_fewest_2 : decode cX7_fewest 2 = .ok (.invokevirtual 85, 3) := by decide +kernel
theorem dX7_fewest_5 : decode cX7_fewest 5 = .ok (.ifCond .ne 7, 3) := by decide +kernel
theorem dX7_fewest_8 : decode cX7_fewest 8 = .ok (.sipush (-1001), 3) := by decide +kernel
theorem dX7_fewest_11 : decode cX7_fewest 11 = .ok (.ireturn, 1) := by decide +kernel
theorem dX7_fold_0 : decode cX7_fold 0 = .ok (.aload_n 0, 1) := by decide +kernel
theorem dX7_fold_1 : decode cX7_fold 1 = .ok (.invokevirtual 117, 3) := by decide +kernel
theorem dX7_fold_4 : decode cX7_fold 4 = .ok (.aload_n 0, 1) := by decide +kernel
theorem dX7_fold_5 : decode cX7_fold 5 = .ok (.aload_n 0, 1) := by decide +kernel
theorem dX7_fold_6 : decode cX7_fold 6 = .ok (.iload_n 1, 1) := by decide +kernel
theorem dX7_fold_7 : decode cX7_fold 7 = .ok (.invokevirtual 240, 3) := by decide +kernel
theorem dX7_fold_10 : decode cX7_fold 10 = .ok (.invokevirtual 124, 3) := by decide +kernel
theorem dX7_fold_13 : decode cX7_fold 13 = .ok (.ireturn, 1) := by decide +kernel
theorem dX7_foldsAgain_0 : decode cX7_foldsAgain 0 = .ok (.aload_n 0, 1) := by decide +kernel
theorem dX7_foldsAgain_1 : decode cX7_foldsAgain 1 = .ok (.iload_n 1, 1) := by decide +kernel
theorem dX7_foldsAgain_2 : decode cX7_foldsAgain 2 = .ok (.invokevirtual 279, 3) := by decide +kernel
theorem dX7_foldsAgain_5 : decode cX7_foldsAgain 5 = .ok (.istore_n 2, 1) := by decide +kernel
theorem dX7_foldsAgain_6 : decode cX7_foldsAgain 6 = .ok (.iload_n 2, 1) := by decide +kernel
theorem dX7_foldsAgain_7 : decode cX7_foldsAgain 7 = .ok (.ifCond .eq 7, 3) := by decide +kernel
theorem dX7_foldsAgain_10 : decode cX7_foldsAgain 10 = .ok (.iload_n 2, 1) := by decide +kernel
theorem dX7_foldsAgain_11 : decode cX7_foldsAgain 11 = .ok (.goto 16, 3) := by decide +kernel
theorem dX7_foldsAgain_27 : decode cX7_foldsAgain 27 = .ok (.ireturn, 1) := by decide +kernel
theorem dX7_foldsOnStage_0 : decode cX7_foldsOnStage 0 = .ok (.aload_n 0, 1) := by decide +kernel
theorem dX7_foldsOnStage_1 : decode cX7_foldsOnStage 1 = .ok (.iload_n 1, 1) := by decide +kernel
theorem dX7_foldsOnStage_2 : decode cX7_foldsOnStage 2 = .ok (.invokevirtual 85, 3) := by decide +kernel
theorem dX7_foldsOnStage_5 : decode cX7_foldsOnStage 5 = .ok (.ifCond .ne 7, 3) := by decide +kernel
theorem dX7_foldsOnStage_8 : decode cX7_foldsOnStage 8 = .ok (.sipush (-1001), 3) := by decide +kernel
theorem dX7_foldsOnStage_11 : decode cX7_foldsOnStage 11 = .ok (.ireturn, 1) := by decide +kernel
theorem dX7_isCrease_0 : decode cX7_isCrease 0 = .ok (.aload_n 0, 1) := by decide +kernel
theorem dX7_isCrease_1 : decode cX7_isCrease 1 = .ok (.iload_n 1, 1) := by decide +kernel
theorem dX7_isCrease_2 : decode cX7_isCrease 2 = .ok (.invokevirtual 85, 3) := by decide +kernel
theorem dX7_isCrease_5 : decode cX7_isCrease 5 = .ok (.ifCond .eq 22, 3) := by decide +kernel
theorem dX7_isCrease_27 : decode cX7_isCrease 27 = .ok (.iconst 0, 1) := by decide +kernel
theorem dX7_isCrease_28 : decode cX7_isCrease 28 = .ok (.ireturn, 1) := by decide +kernel
theorem dX7_isIn_0 : decode cX7_isIn 0 = .ok (.iload_n 0, 1) := by decide +kernel
theorem dX7_isIn_1 : decode cX7_isIn 1 = .ok (.iload_n 1, 1) := by decide +kernel
theorem dX7_isIn_2 : decode cX7_isIn 2 = .ok (.if_icmp .lt 12, 3) := by decide +kernel
theorem dX7_isIn_5 : decode cX7_isIn 5 = .ok (.iload_n 0, 1) := by decide +kernel
theorem dX7_isIn_6 : decode cX7_isIn 6 = .ok (.iload_n 2, 1) := by decide +kernel
theorem dX7_isIn_7 : decode cX7_isIn 7 = .ok (.if_icmp .gt 7, 3) := by decide +kernel
theorem dX7_isIn_10 : decode cX7_isIn 10 = .ok (.iconst 1, 1) := by decide +kernel
theorem dX7_isIn_11 : decode cX7_isIn 11 = .ok (.goto 4, 3) := by decide +kernel
theorem dX7_isIn_14 : decode cX7_isIn 14 = .ok (.iconst 0, 1) := by decide +kernel
theorem dX7_isIn_15 : decode cX7_isIn 15 = .ok (.ireturn, 1) := by decide +kernel
theorem dX7_isPiece_0 : decode cX7_isPiece 0 = .ok (.iload_n 1, 1) := by decide +kernel
theorem dX7_isPiece_1 : decode cX7_isPiece 1 = .ok (.iconst 0, 1) := by decide +kernel
theorem dX7_isPiece_2 : decode cX7_isPiece 2 = .ok (.aload_n 0, 1) := by decide +kernel
theorem dX7_isPiece_3 : decode cX7_isPiece 3 = .ok (.getfield 9, 3) := by decide +kernel
theorem dX7_isPiece_6 : decode cX7_isPiece 6 = .ok (.iconst 0, 1) := by decide +kernel
theorem dX7_isPiece_7 : decode cX7_isPiece 7 = .ok (.iaload, 1) := by decide +kernel
theorem dX7_isPiece_8 : decode cX7_isPiece 8 = .ok (.iconst 1, 1) := by decide +kernel
theorem dX7_isPiece_9 : decode cX7_isPiece 9 = .ok (.isub, 1) := by decide +kernel
theorem dX7_isPiece_10 : decode cX7_isPiece 10 = .ok (.invokestatic 61, 3) := by decide +kernel
theorem dX7_isPiece_13 : decode cX7_isPiece 13 = .ok (.ireturn, 1) := by decide +kernel
theorem dX7_isText_0 : decode cX7_isText 0 = .ok (.aload_n 0, 1) := by decide +kernel
theorem dX7_isText_1 : decode cX7_isText 1 = .ok (.iconst 0, 1) := by decide +kernel
theorem dX7_isText_2 : decode cX7_isText 2 = .ok (.putfield 294, 3) := by decide +kernel
theorem dX7_isText_5 : decode cX7_isText 5 = .ok (.aload_n 0, 1) := by decide +kernel
theorem dX7_isText_6 : decode cX7_isText 6 = .ok (.invokevirtual 333, 3) := by decide +kernel
theorem dX7_isText_9 : decode cX7_isText 9 = .ok (.istore_n 1, 1) := by decide +kernel
theorem dX7_isText_10 : decode cX7_isText 10 = .ok (.iload_n 1, 1) := by decide +kernel
theorem dX7_isText_11 : decode cX7_isText 11 = .ok (.ifCond .eq 20, 3) := by decide +kernel
theorem dX7_isText_31 : decode cX7_isText 31 = .ok (.iload_n 1, 1) := by decide +kernel
theorem dX7_isText_32 : decode cX7_isText 32 = .ok (.ifCond .eq 18, 3) := by decide +kernel
theorem dX7_isText_50 : decode cX7_isText 50 = .ok (.iconst 0, 1) := by decide +kernel
theorem dX7_isText_51 : decode cX7_isText 51 = .ok (.ireturn, 1) := by decide +kernel
theorem dX7_join_0 : decode cX7_join 0 = .ok (.aload_n 0, 1) := by decide +kernel
theorem dX7_join_1 : decode cX7_join 1 = .ok (.invokevirtual 117, 3) := by decide +kernel
theorem dX7_join_4 : decode cX7_join 4 = .ok (.aload_n 0, 1) := by decide +kernel
theorem dX7_join_5 : decode cX7_join 5 = .ok (.aload_n 0, 1) := by decide +kernel
theorem dX7_join_6 : decode cX7_join 6 = .ok (.iload_n 1, 1) := by decide +kernel
theorem dX7_join_7 : decode cX7_join 7 = .ok (.iload_n 2, 1) := by decide +kernel
theorem dX7_join_8 : decode cX7_join 8 = .ok (.iload_n 3, 1) := by decide +kernel
theorem dX7_join_9 : decode cX7_join 9 = .ok (.invokevirtual 152, 3) := by decide +kernel
theorem dX7_join_12 : decode cX7_join 12 = .ok (.invokevirtual 124, 3) := by decide +kernel
theorem dX7_join_15 : decode cX7_join 15 = .ok (.ireturn, 1) := by decide +kernel
theorem dX7_joins_0 : decode cX7_joins 0 = .ok (.aload_n 0, 1) := by decide +kernel
theorem dX7_joins_1 : decode cX7_joins 1 = .ok (.iload_n 1, 1) := by decide +kernel
theorem dX7_joins_2 : decode cX7_joins 2 = .ok (.invokevirtual 85, 3) := by decide +kernel
theorem dX7_joins_5 : decode cX7_joins 5 = .ok (.ifCond .eq 16, 3) := by decide +kernel
theorem dX7_joins_21 : decode cX7_joins 21 = .ok (.sipush (-1001), 3) := by decide +kernel
theorem dX7_joins_24 : decode cX7_joins 24 = .ok (.ireturn, 1) := by decide +kernel
theorem dX7_keeps_0 : decode cX7_keeps 0 = .ok (.aload_n 0, 1) := by decide +kernel
theorem dX7_keeps_1 : decode cX7_keeps 1 = .ok (.getfield 9, 3) := by decide +kernel
theorem dX7_keeps_4 : decode cX7_keeps 4 = .ok (.iconst 0, 1) := by decide +kernel
theorem dX7_keeps_5 : decode cX7_keeps 5 = .ok (.aload_n 0, 1) := by decide +kernel
theorem dX7_keeps_6 : decode cX7_keeps 6 = .ok (.getfield 13, 3) := by decide +kernel
theorem dX7_keeps_9 : decode cX7_keeps 9 = .ok (.iconst 0, 1) := by decide +kernel
theorem dX7_keeps_10 : decode cX7_keeps 10 = .ok (.invokestatic 54, 3) := by decide +kernel
theorem dX7_keeps_13 : decode cX7_keeps 13 = .ok (.return_, 1) := by decide +kernel
theorem dX7_layer_0 : decode cX7_layer 0 = .ok (.aload_n 0, 1) := by decide +kernel
theorem dX7_layer_1 : decode cX7_layer 1 = .ok (.iload_n 1, 1) := by decide +kernel
theorem dX7_layer_2 : decode cX7_layer 2 = .ok (.invokevirtual 85, 3) := by decide +kernel
theorem dX7_layer_5 : decode cX7_layer 5 = .ok (.ifCond .eq 20, 3) := by decide +kernel
theorem dX7_layer_25 : decode cX7_layer 25 = .ok (.sipush (-1001), 3) := by decide +kernel
theorem dX7_layer_28 : decode cX7_layer 28 = .ok (.ireturn, 1) := by decide +kernel
theorem dX7_mark_0 : decode cX7_mark 0 = .ok (.aload_n 0, 1) := by decide +kernel
theorem dX7_mark_1 : decode cX7_mark 1 = .ok (.invokevirtual 117, 3) := by decide +kernel
theorem dX7_mark_4 : decode cX7_mark 4 = .ok (.aload_n 0, 1) := by decide +kernel
theorem dX7_mark_5 : decode cX7_mark 5 = .ok (.aload_n 0, 1) := by decide +kernel
theorem dX7_mark_6 : decode cX7_mark 6 = .ok (.iload_n 1, 1) := by decide +kernel
theorem dX7_mark_7 : decode cX7_mark 7 = .ok (.iload_n 2, 1) := by decide +kernel
theorem dX7_mark_8 : decode cX7_mark 8 = .ok (.iload_n 3, 1) := by decide +kernel
theorem dX7_mark_9 : decode cX7_mark 9 = .ok (.invokevirtual 133, 3) := by decide +kernel
theorem dX7_mark_12 : decode cX7_mark 12 = .ok (.invokevirtual 124, 3) := by decide +kernel
theorem dX7_mark_15 : decode cX7_mark 15 = .ok (.ireturn, 1) := by decide +kernel
theorem dX7_marks_0 : decode cX7_marks 0 = .ok (.aload_n 0, 1) := by decide +kernel
theorem dX7_marks_1 : decode cX7_marks 1 = .ok (.iload_n 1, 1) := by decide +kernel
theorem dX7_marks_2 : decode cX7_marks 2 = .ok (.iload_n 2, 1) := by decide +kernel
theorem dX7_marks_3 : decode cX7_marks 3 = .ok (.invokevirtual 127, 3) := by decide +kernel
theorem dX7_marks_6 : decode cX7_marks 6 = .ok (.ifCond .ne 7, 3) := by decide +kernel
theorem dX7_marks_9 : decode cX7_marks 9 = .ok (.sipush (-1001), 3) := by decide +kernel
theorem dX7_marks_12 : decode cX7_marks 12 = .ok (.ireturn, 1) := by decide +kernel
theorem dX7_orders_0 : decode cX7_orders 0 = .ok (.aload_n 0, 1) := by decide +kernel
theorem dX7_orders_1 : decode cX7_orders 1 = .ok (.iload_n 1, 1) := by decide +kernel
theorem dX7_orders_2 : decode cX7_orders 2 = .ok (.invokevirtual 279, 3) := by decide +kernel
theorem dX7_orders_5 : decode cX7_orders 5 = .ok (.istore_n 2, 1) := by decide +kernel
theorem dX7_orders_6 : decode cX7_orders 6 = .ok (.iload_n 2, 1) := by decide +kernel
theorem dX7_orders_7 : decode cX7_orders 7 = .ok (.ifCond .eq 7, 3) := by decide +kernel
theorem dX7_orders_10 : decode cX7_orders 10 = .ok (.iload_n 2, 1) := by decide +kernel
theorem dX7_orders_11 : decode cX7_orders 11 = .ok (.goto 8, 3) := by decide +kernel
theorem dX7_orders_19 : decode cX7_orders 19 = .ok (.ireturn, 1) := by decide +kernel
theorem dX7_panelsOfAll_0 : decode cX7_panelsOfAll 0 = .ok (.iconst 0, 1) := by decide +kernel
theorem dX7_panelsOfAll_1 : decode cX7_panelsOfAll 1 = .ok (.istore_n 1, 1) := by decide +kernel
theorem dX7_panelsOfAll_2 : decode cX7_panelsOfAll 2 = .ok (.iconst 0, 1) := by decide +kernel
theorem dX7_panelsOfAll_3 : decode cX7_panelsOfAll 3 = .ok (.istore_n 2, 1) := by decide +kernel
theorem dX7_panelsOfAll_4 : decode cX7_panelsOfAll 4 = .ok (.iload_n 2, 1) := by decide +kernel
theorem dX7_panelsOfAll_5 : decode cX7_panelsOfAll 5 = .ok (.aload_n 0, 1) := by decide +kernel
theorem dX7_panelsOfAll_6 : decode cX7_panelsOfAll 6 = .ok (.getfield 9, 3) := by decide +kernel
theorem dX7_panelsOfAll_9 : decode cX7_panelsOfAll 9 = .ok (.iconst 0, 1) := by decide +kernel
theorem dX7_panelsOfAll_10 : decode cX7_panelsOfAll 10 = .ok (.iaload, 1) := by decide +kernel
theorem dX7_panelsOfAll_11 : decode cX7_panelsOfAll 11 = .ok (.if_icmp .ge 30, 3) := by decide +kernel
theorem dX7_panelsOfAll_41 : decode cX7_panelsOfAll 41 = .ok (.iload_n 1, 1) := by decide +kernel
theorem dX7_panelsOfAll_42 : decode cX7_panelsOfAll 42 = .ok (.ireturn, 1) := by decide +kernel
theorem dX7_piece_0 : decode cX7_piece 0 = .ok (.aload_n 0, 1) := by decide +kernel
theorem dX7_piece_1 : decode cX7_piece 1 = .ok (.iload_n 1, 1) := by decide +kernel
theorem dX7_piece_2 : decode cX7_piece 2 = .ok (.invokevirtual 85, 3) := by decide +kernel
theorem dX7_piece_5 : decode cX7_piece 5 = .ok (.ifCond .ne 7, 3) := by decide +kernel
theorem dX7_piece_8 : decode cX7_piece 8 = .ok (.sipush (-1001), 3) := by decide +kernel
theorem dX7_piece_11 : decode cX7_piece 11 = .ok (.ireturn, 1) := by decide +kernel
theorem dX7_place_0 : decode cX7_place 0 = .ok (.aload_n 0, 1) := by decide +kernel
theorem dX7_place_1 : decode cX7_place 1 = .ok (.iload_n 1, 1) := by decide +kernel
theorem dX7_place_2 : decode cX7_place 2 = .ok (.invokevirtual 85, 3) := by decide +kernel
theorem dX7_place_5 : decode cX7_place 5 = .ok (.ifCond .eq 18, 3) := by decide +kernel
theorem dX7_place_23 : decode cX7_place 23 = .ok (.sipush (-1001), 3) := by decide +kernel
theorem dX7_place_26 : decode cX7_place 26 = .ok (.ireturn, 1) := by decide +kernel
theorem dX7_read_0 : decode cX7_read 0 = .ok (.aload_n 0, 1) := by decide +kernel
theorem dX7_read_1 : decode cX7_read 1 = .ok (.invokevirtual 342, 3) := by decide +kernel
theorem dX7_read_4 : decode cX7_read 4 = .ok (.ifCond .ne 17, 3) := by decide +kernel
theorem dX7_read_7 : decode cX7_read 7 = .ok (.aload_n 0, 1) := by decide +kernel
theorem dX7_read_8 : decode cX7_read 8 = .ok (.iconst 0, 1) := by decide +kernel
theorem dX7_read_9 : decode cX7_read 9 = .ok (.putfield 291, 3) := by decide +kernel
theorem dX7_read_12 : decode cX7_read 12 = .ok (.sipush (-2000), 3) := by decide +kernel
theorem dX7_read_15 : decode cX7_read 15 = .ok (.aload_n 0, 1) := by decide +kernel
theorem dX7_read_16 : decode cX7_read 16 = .ok (.getfield 294, 3) := by decide +kernel
theorem dX7_read_19 : decode cX7_read 19 = .ok (.isub, 1) := by decide +kernel
theorem dX7_read_20 : decode cX7_read 20 = .ok (.ireturn, 1) := by decide +kernel
theorem dX7_readsCommand_0 : decode cX7_readsCommand 0 = .ok (.aload_n 0, 1) := by decide +kernel
theorem dX7_readsCommand_1 : decode cX7_readsCommand 1 = .ok (.aload_n 0, 1) := by decide +kernel
theorem dX7_readsCommand_2 : decode cX7_readsCommand 2 = .ok (.invokevirtual 297, 3) := by decide +kernel
theorem dX7_readsCommand_5 : decode cX7_readsCommand 5 = .ok (.putfield 321, 3) := by decide +kernel
theorem dX7_readsCommand_8 : decode cX7_readsCommand 8 = .ok (.aload_n 0, 1) := by decide +kernel
theorem dX7_readsCommand_9 : decode cX7_readsCommand 9 = .ok (.getfield 321, 3) := by decide +kernel
theorem dX7_readsCommand_12 : decode cX7_readsCommand 12 = .ok (.bipush 115, 2) := by decide +kernel
theorem dX7_readsCommand_14 : decode cX7_readsCommand 14 = .ok (.if_icmp .eq 12, 3) := by decide +kernel
theorem dX7_readsCommand_17 : decode cX7_readsCommand 17 = .ok (.aload_n 0, 1) := by decide +kernel
theorem dX7_readsCommand_18 : decode cX7_readsCommand 18 = .ok (.getfield 321, 3) := by decide +kernel
theorem dX7_readsCommand_21 : decode cX7_readsCommand 21 = .ok (.bipush 99, 2) := by decide +kernel
theorem dX7_readsCommand_23 : decode cX7_readsCommand 23 = .ok (.if_icmp .ne 42, 3) := by decide +kernel
theorem dX7_readsCommand_65 : decode cX7_readsCommand 65 = .ok (.aload_n 0, 1) := by decide +kernel
theorem dX7_readsCommand_66 : decode cX7_readsCommand 66 = .ok (.getfield 321, 3) := by decide +kernel
theorem dX7_readsCommand_69 : decode cX7_readsCommand 69 = .ok (.bipush 109, 2) := by decide +kernel
theorem dX7_readsCommand_71 : decode cX7_readsCommand 71 = .ok (.if_icmp .eq 41, 3) := by decide +kernel
theorem dX7_readsCommand_74 : decode cX7_readsCommand 74 = .ok (.aload_n 0, 1) := by decide +kernel
theorem dX7_readsCommand_75 : decode cX7_readsCommand 75 = .ok (.getfield 321, 3) := by decide +kernel
theorem dX7_readsCommand_78 : decode cX7_readsCommand 78 = .ok (.bipush 116, 2) := by decide +kernel
theorem dX7_readsCommand_80 : decode cX7_readsCommand 80 = .ok (.if_icmp .eq 32, 3) := by decide +kernel
theorem dX7_readsCommand_83 : decode cX7_readsCommand 83 = .ok (.aload_n 0, 1) := by decide +kernel
theorem dX7_readsCommand_84 : decode cX7_readsCommand 84 = .ok (.getfield 321, 3) := by decide +kernel
theorem dX7_readsCommand_87 : decode cX7_readsCommand 87 = .ok (.bipush 102, 2) := by decide +kernel
theorem dX7_readsCommand_89 : decode cX7_readsCommand 89 = .ok (.if_icmp .eq 23, 3) := by decide +kernel
theorem dX7_readsCommand_92 : decode cX7_readsCommand 92 = .ok (.aload_n 0, 1) := by decide +kernel
theorem dX7_readsCommand_93 : decode cX7_readsCommand 93 = .ok (.getfield 321, 3) := by decide +kernel
theorem dX7_readsCommand_96 : decode cX7_readsCommand 96 = .ok (.bipush 117, 2) := by decide +kernel
theorem dX7_readsCommand_98 : decode cX7_readsCommand 98 = .ok (.if_icmp .eq 14, 3) := by decide +kernel
theorem dX7_readsCommand_101 : decode cX7_readsCommand 101 = .ok (.aload_n 0, 1) := by decide +kernel
theorem dX7_readsCommand_102 : decode cX7_readsCommand 102 = .ok (.getfield 321, 3) := by decide +kernel
theorem dX7_readsCommand_105 : decode cX7_readsCommand 105 = .ok (.bipush 120, 2) := by decide +kernel
theorem dX7_readsCommand_107 : decode cX7_readsCommand 107 = .ok (.if_icmp .eq 5, 3) := by decide +kernel
theorem dX7_readsCommand_110 : decode cX7_readsCommand 110 = .ok (.iconst 0, 1) := by decide +kernel
theorem dX7_readsCommand_111 : decode cX7_readsCommand 111 = .ok (.ireturn, 1) := by decide +kernel
theorem dX7_reflected_0 : decode cX7_reflected 0 = .ok (.aload_n 0, 1) := by decide +kernel
theorem dX7_reflected_1 : decode cX7_reflected 1 = .ok (.iload_n 1, 1) := by decide +kernel
theorem dX7_reflected_2 : decode cX7_reflected 2 = .ok (.invokevirtual 85, 3) := by decide +kernel
theorem dX7_reflected_5 : decode cX7_reflected 5 = .ok (.ifCond .ne 7, 3) := by decide +kernel
theorem dX7_reflected_8 : decode cX7_reflected 8 = .ok (.sipush (-1001), 3) := by decide +kernel
theorem dX7_reflected_11 : decode cX7_reflected 11 = .ok (.ireturn, 1) := by decide +kernel
theorem dX7_refusal_0 : decode cX7_refusal 0 = .ok (.iload_n 1, 1) := by decide +kernel
theorem dX7_refusal_1 : decode cX7_refusal 1 = .ok (.iconst 0, 1) := by decide +kernel
theorem dX7_refusal_2 : decode cX7_refusal 2 = .ok (.iconst 2, 1) := by decide +kernel
theorem dX7_refusal_3 : decode cX7_refusal 3 = .ok (.invokestatic 61, 3) := by decide +kernel
theorem dX7_refusal_6 : decode cX7_refusal 6 = .ok (.ifCond .ne 7, 3) := by decide +kernel
theorem dX7_refusal_9 : decode cX7_refusal 9 = .ok (.sipush (-1002), 3) := by decide +kernel
theorem dX7_refusal_12 : decode cX7_refusal 12 = .ok (.ireturn, 1) := by decide +kernel
theorem dX7_refusal_13 : decode cX7_refusal 13 = .ok (.aload_n 0, 1) := by decide +kernel
theorem dX7_refusal_14 : decode cX7_refusal 14 = .ok (.getfield 68, 3) := by decide +kernel
theorem dX7_refusal_17 : decode cX7_refusal 17 = .ok (.ifCond .ne 9, 3) := by decide +kernel
theorem dX7_refusal_20 : decode cX7_refusal 20 = .ok (.sipush (-1004), 3) := by decide +kernel
theorem dX7_refusal_23 : decode cX7_refusal 23 = .ok (.goto 30, 3) := by decide +kernel
theorem dX7_refusal_53 : decode cX7_refusal 53 = .ok (.ireturn, 1) := by decide +kernel
theorem dX7_restore_0 : decode cX7_restore 0 = .ok (.aload_n 0, 1) := by decide +kernel
theorem dX7_restore_1 : decode cX7_restore 1 = .ok (.getfield 363, 3) := by decide +kernel
theorem dX7_restore_4 : decode cX7_restore 4 = .ok (.ifCond .ne 7, 3) := by decide +kernel
theorem dX7_restore_7 : decode cX7_restore 7 = .ok (.sipush (-1004), 3) := by decide +kernel
theorem dX7_restore_10 : decode cX7_restore 10 = .ok (.ireturn, 1) := by decide +kernel
theorem dX7_rotate_0 : decode cX7_rotate 0 = .ok (.aload_n 0, 1) := by decide +kernel
theorem dX7_rotate_1 : decode cX7_rotate 1 = .ok (.invokevirtual 117, 3) := by decide +kernel
theorem dX7_rotate_4 : decode cX7_rotate 4 = .ok (.aload_n 0, 1) := by decide +kernel
theorem dX7_rotate_5 : decode cX7_rotate 5 = .ok (.aload_n 0, 1) := by decide +kernel
theorem dX7_rotate_6 : decode cX7_rotate 6 = .ok (.iload_n 1, 1) := by decide +kernel
theorem dX7_rotate_7 : decode cX7_rotate 7 = .ok (.iload_n 2, 1) := by decide +kernel
theorem dX7_rotate_8 : decode cX7_rotate 8 = .ok (.invokevirtual 145, 3) := by decide +kernel
theorem dX7_rotate_11 : decode cX7_rotate 11 = .ok (.invokevirtual 124, 3) := by decide +kernel
theorem dX7_rotate_14 : decode cX7_rotate 14 = .ok (.ireturn, 1) := by decide +kernel
theorem dX7_rotates_0 : decode cX7_rotates 0 = .ok (.aload_n 0, 1) := by decide +kernel
theorem dX7_rotates_1 : decode cX7_rotates 1 = .ok (.iload_n 1, 1) := by decide +kernel
theorem dX7_rotates_2 : decode cX7_rotates 2 = .ok (.iload_n 2, 1) := by decide +kernel
theorem dX7_rotates_3 : decode cX7_rotates 3 = .ok (.invokevirtual 127, 3) := by decide +kernel
theorem dX7_rotates_6 : decode cX7_rotates 6 = .ok (.ifCond .ne 7, 3) := by decide +kernel
theorem dX7_rotates_9 : decode cX7_rotates 9 = .ok (.sipush (-1001), 3) := by decide +kernel
theorem dX7_rotates_12 : decode cX7_rotates 12 = .ok (.ireturn, 1) := by decide +kernel
theorem dX7_save_0 : decode cX7_save 0 = .ok (.aload_n 0, 1) := by decide +kernel
theorem dX7_save_1 : decode cX7_save 1 = .ok (.getfield 9, 3) := by decide +kernel
theorem dX7_save_4 : decode cX7_save 4 = .ok (.iconst 0, 1) := by decide +kernel
theorem dX7_save_5 : decode cX7_save 5 = .ok (.aload_n 0, 1) := by decide +kernel
theorem dX7_save_6 : decode cX7_save 6 = .ok (.getfield 16, 3) := by decide +kernel
theorem dX7_save_9 : decode cX7_save 9 = .ok (.iconst 0, 1) := by decide +kernel
theorem dX7_save_10 : decode cX7_save 10 = .ok (.invokestatic 54, 3) := by decide +kernel
theorem dX7_save_13 : decode cX7_save 13 = .ok (.aload_n 0, 1) := by decide +kernel
theorem dX7_save_14 : decode cX7_save 14 = .ok (.iconst 1, 1) := by decide +kernel
theorem dX7_save_15 : decode cX7_save 15 = .ok (.putfield 363, 3) := by decide +kernel
theorem dX7_save_18 : decode cX7_save 18 = .ok (.aload_n 0, 1) := by decide +kernel
theorem dX7_save_19 : decode cX7_save 19 = .ok (.getfield 9, 3) := by decide +kernel
theorem dX7_save_22 : decode cX7_save 22 = .ok (.iconst 0, 1) := by decide +kernel
theorem dX7_save_23 : decode cX7_save 23 = .ok (.iaload, 1) := by decide +kernel
theorem dX7_save_24 : decode cX7_save 24 = .ok (.ireturn, 1) := by decide +kernel
theorem dX7_share_0 : decode cX7_share 0 = .ok (.aload_n 0, 1) := by decide +kernel
theorem dX7_share_1 : decode cX7_share 1 = .ok (.getfield 9, 3) := by decide +kernel
theorem dX7_share_4 : decode cX7_share 4 = .ok (.iconst 0, 1) := by decide +kernel
theorem dX7_share_5 : decode cX7_share 5 = .ok (.iaload, 1) := by decide +kernel
theorem dX7_share_6 : decode cX7_share 6 = .ok (.ifCond .ne 7, 3) := by decide +kernel
theorem dX7_share_9 : decode cX7_share 9 = .ok (.sipush (-1004), 3) := by decide +kernel
theorem dX7_share_12 : decode cX7_share 12 = .ok (.ireturn, 1) := by decide +kernel
theorem dX7_sign_0 : decode cX7_sign 0 = .ok (.aload_n 0, 1) := by decide +kernel
theorem dX7_sign_1 : decode cX7_sign 1 = .ok (.getfield 294, 3) := by decide +kernel
theorem dX7_sign_4 : decode cX7_sign 4 = .ok (.aload_n 0, 1) := by decide +kernel
theorem dX7_sign_5 : decode cX7_sign 5 = .ok (.getfield 291, 3) := by decide +kernel
theorem dX7_sign_8 : decode cX7_sign 8 = .ok (.if_icmp .ge 15, 3) := by decide +kernel
theorem dX7_sign_23 : decode cX7_sign 23 = .ok (.iconst (-1), 1) := by decide +kernel
theorem dX7_sign_24 : decode cX7_sign 24 = .ok (.ireturn, 1) := by decide +kernel
theorem dX7_size_0 : decode cX7_size 0 = .ok (.aload_n 0, 1) := by decide +kernel
theorem dX7_size_1 : decode cX7_size 1 = .ok (.iload_n 1, 1) := by decide +kernel
theorem dX7_size_2 : decode cX7_size 2 = .ok (.invokevirtual 85, 3) := by decide +kernel
theorem dX7_size_5 : decode cX7_size 5 = .ok (.ifCond .eq 28, 3) := by decide +kernel
theorem dX7_size_33 : decode cX7_size 33 = .ok (.sipush (-1001), 3) := by decide +kernel
theorem dX7_size_36 : decode cX7_size 36 = .ok (.ireturn, 1) := by decide +kernel
theorem dX7_stage_0 : decode cX7_stage 0 = .ok (.aload_n 0, 1) := by decide +kernel
theorem dX7_stage_1 : decode cX7_stage 1 = .ok (.invokevirtual 117, 3) := by decide +kernel
theorem dX7_stage_4 : decode cX7_stage 4 = .ok (.aload_n 0, 1) := by decide +kernel
theorem dX7_stage_5 : decode cX7_stage 5 = .ok (.aload_n 0, 1) := by decide +kernel
theorem dX7_stage_6 : decode cX7_stage 6 = .ok (.iload_n 1, 1) := by decide +kernel
theorem dX7_stage_7 : decode cX7_stage 7 = .ok (.invokevirtual 234, 3) := by decide +kernel
theorem dX7_stage_10 : decode cX7_stage 10 = .ok (.invokevirtual 124, 3) := by decide +kernel
theorem dX7_stage_13 : decode cX7_stage 13 = .ok (.ireturn, 1) := by decide +kernel
theorem dX7_stages_0 : decode cX7_stages 0 = .ok (.iload_n 1, 1) := by decide +kernel
theorem dX7_stages_1 : decode cX7_stages 1 = .ok (.iconst 1, 1) := by decide +kernel
theorem dX7_stages_2 : decode cX7_stages 2 = .ok (.bipush 99, 2) := by decide +kernel
theorem dX7_stages_4 : decode cX7_stages 4 = .ok (.invokestatic 61, 3) := by decide +kernel
theorem dX7_stages_7 : decode cX7_stages 7 = .ok (.ifCond .ne 7, 3) := by decide +kernel
theorem dX7_stages_10 : decode cX7_stages 10 = .ok (.sipush (-1002), 3) := by decide +kernel
theorem dX7_stages_13 : decode cX7_stages 13 = .ok (.ireturn, 1) := by decide +kernel
theorem dX7_stages_14 : decode cX7_stages 14 = .ok (.aload_n 0, 1) := by decide +kernel
theorem dX7_stages_15 : decode cX7_stages 15 = .ok (.invokevirtual 231, 3) := by decide +kernel
theorem dX7_stages_18 : decode cX7_stages 18 = .ok (.iload_n 1, 1) := by decide +kernel
theorem dX7_stages_19 : decode cX7_stages 19 = .ok (.if_icmp .le 16, 3) := by decide +kernel
theorem dX7_stages_35 : decode cX7_stages 35 = .ok (.aload_n 0, 1) := by decide +kernel
theorem dX7_stages_36 : decode cX7_stages 36 = .ok (.getfield 9, 3) := by decide +kernel
theorem dX7_stages_39 : decode cX7_stages 39 = .ok (.iconst 1, 1) := by decide +kernel
theorem dX7_stages_40 : decode cX7_stages 40 = .ok (.iaload, 1) := by decide +kernel
theorem dX7_stages_41 : decode cX7_stages 41 = .ok (.istore_n 2, 1) := by decide +kernel
theorem dX7_stages_42 : decode cX7_stages 42 = .ok (.aload_n 0, 1) := by decide +kernel
theorem dX7_stages_43 : decode cX7_stages 43 = .ok (.getfield 9, 3) := by decide +kernel
theorem dX7_stages_46 : decode cX7_stages 46 = .ok (.iconst 1, 1) := by decide +kernel
theorem dX7_stages_47 : decode cX7_stages 47 = .ok (.iload_n 1, 1) := by decide +kernel
theorem dX7_stages_48 : decode cX7_stages 48 = .ok (.iastore, 1) := by decide +kernel
theorem dX7_stages_49 : decode cX7_stages 49 = .ok (.iload_n 2, 1) := by decide +kernel
theorem dX7_stages_50 : decode cX7_stages 50 = .ok (.ireturn, 1) := by decide +kernel
theorem dX7_step_0 : decode cX7_step 0 = .ok (.aload_n 0, 1) := by decide +kernel
theorem dX7_step_1 : decode cX7_step 1 = .ok (.iload_n 1, 1) := by decide +kernel
theorem dX7_step_2 : decode cX7_step 2 = .ok (.invokevirtual 85, 3) := by decide +kernel
theorem dX7_step_5 : decode cX7_step 5 = .ok (.ifCond .ne 7, 3) := by decide +kernel
theorem dX7_step_8 : decode cX7_step 8 = .ok (.sipush (-1001), 3) := by decide +kernel
theorem dX7_step_11 : decode cX7_step 11 = .ok (.ireturn, 1) := by decide +kernel
theorem dX7_steps_0 : decode cX7_steps 0 = .ok (.aload_n 0, 1) := by decide +kernel
theorem dX7_steps_1 : decode cX7_steps 1 = .ok (.iload_n 1, 1) := by decide +kernel
theorem dX7_steps_2 : decode cX7_steps 2 = .ok (.invokevirtual 85, 3) := by decide +kernel
theorem dX7_steps_5 : decode cX7_steps 5 = .ok (.ifCond .ne 7, 3) := by decide +kernel
theorem dX7_steps_8 : decode cX7_steps 8 = .ok (.sipush (-1001), 3) := by decide +kernel
theorem dX7_steps_11 : decode cX7_steps 11 = .ok (.ireturn, 1) := by decide +kernel
theorem dX7_thickest_0 : decode cX7_thickest 0 = .ok (.aload_n 0, 1) := by decide +kernel
theorem dX7_thickest_1 : decode cX7_thickest 1 = .ok (.iload_n 1, 1) := by decide +kernel
theorem dX7_thickest_2 : decode cX7_thickest 2 = .ok (.invokevirtual 85, 3) := by decide +kernel
theorem dX7_thickest_5 : decode cX7_thickest 5 = .ok (.ifCond .ne 7, 3) := by decide +kernel
theorem dX7_thickest_8 : decode cX7_thickest 8 = .ok (.sipush (-1001), 3) := by decide +kernel
theorem dX7_thickest_11 : decode cX7_thickest 11 = .ok (.ireturn, 1) := by decide +kernel
theorem dX7_turn_0 : decode cX7_turn 0 = .ok (.aload_n 0, 1) := by decide +kernel
theorem dX7_turn_1 : decode cX7_turn 1 = .ok (.invokevirtual 117, 3) := by decide +kernel
theorem dX7_turn_4 : decode cX7_turn 4 = .ok (.aload_n 0, 1) := by decide +kernel
theorem dX7_turn_5 : decode cX7_turn 5 = .ok (.aload_n 0, 1) := by decide +kernel
theorem dX7_turn_6 : decode cX7_turn 6 = .ok (.iload_n 1, 1) := by decide +kernel
theorem dX7_turn_7 : decode cX7_turn 7 = .ok (.invokevirtual 139, 3) := by decide +kernel
theorem dX7_turn_10 : decode cX7_turn 10 = .ok (.invokevirtual 124, 3) := by decide +kernel
theorem dX7_turn_13 : decode cX7_turn 13 = .ok (.ireturn, 1) := by decide +kernel
theorem dX7_turns_0 : decode cX7_turns 0 = .ok (.aload_n 0, 1) := by decide +kernel
theorem dX7_turns_1 : decode cX7_turns 1 = .ok (.iload_n 1, 1) := by decide +kernel
theorem dX7_turns_2 : decode cX7_turns 2 = .ok (.invokevirtual 85, 3) := by decide +kernel
theorem dX7_turns_5 : decode cX7_turns 5 = .ok (.ifCond .ne 7, 3) := by decide +kernel
theorem dX7_turns_8 : decode cX7_turns 8 = .ok (.sipush (-1001), 3) := by decide +kernel
theorem dX7_turns_11 : decode cX7_turns 11 = .ok (.ireturn, 1) := by decide +kernel
theorem dX7_undo_0 : decode cX7_undo 0 = .ok (.aload_n 0, 1) := by decide +kernel
theorem dX7_undo_1 : decode cX7_undo 1 = .ok (.getfield 58, 3) := by decide +kernel
theorem dX7_undo_4 : decode cX7_undo 4 = .ok (.ifCond .ne 7, 3) := by decide +kernel
theorem dX7_undo_7 : decode cX7_undo 7 = .ok (.sipush (-1004), 3) := by decide +kernel
theorem dX7_undo_10 : decode cX7_undo 10 = .ok (.ireturn, 1) := by decide +kernel
theorem dX7_unfold_0 : decode cX7_unfold 0 = .ok (.aload_n 0, 1) := by decide +kernel
theorem dX7_unfold_1 : decode cX7_unfold 1 = .ok (.invokevirtual 117, 3) := by decide +kernel
theorem dX7_unfold_4 : decode cX7_unfold 4 = .ok (.aload_n 0, 1) := by decide +kernel
theorem dX7_unfold_5 : decode cX7_unfold 5 = .ok (.aload_n 0, 1) := by decide +kernel
theorem dX7_unfold_6 : decode cX7_unfold 6 = .ok (.iload_n 1, 1) := by decide +kernel
theorem dX7_unfold_7 : decode cX7_unfold 7 = .ok (.invokevirtual 243, 3) := by decide +kernel
theorem dX7_unfold_10 : decode cX7_unfold 10 = .ok (.invokevirtual 124, 3) := by decide +kernel
theorem dX7_unfold_13 : decode cX7_unfold 13 = .ok (.ireturn, 1) := by decide +kernel
theorem dX7_unfolds_0 : decode cX7_unfolds 0 = .ok (.aload_n 0, 1) := by decide +kernel
theorem dX7_unfolds_1 : decode cX7_unfolds 1 = .ok (.iload_n 1, 1) := by decide +kernel
theorem dX7_unfolds_2 : decode cX7_unfolds 2 = .ok (.invokevirtual 85, 3) := by decide +kernel
theorem dX7_unfolds_5 : decode cX7_unfolds 5 = .ok (.ifCond .ne 7, 3) := by decide +kernel
theorem dX7_unfolds_8 : decode cX7_unfolds 8 = .ok (.sipush (-1001), 3) := by decide +kernel
theorem dX7_unfolds_11 : decode cX7_unfolds 11 = .ok (.ireturn, 1) := by decide +kernel
theorem dX7_used_0 : decode cX7_used 0 = .ok (.iconst 0, 1) := by decide +kernel
theorem dX7_used_1 : decode cX7_used 1 = .ok (.istore_n 1, 1) := by decide +kernel
theorem dX7_used_2 : decode cX7_used 2 = .ok (.iconst 0, 1) := by decide +kernel
theorem dX7_used_3 : decode cX7_used 3 = .ok (.istore_n 2, 1) := by decide +kernel
theorem dX7_used_4 : decode cX7_used 4 = .ok (.iload_n 2, 1) := by decide +kernel
theorem dX7_used_5 : decode cX7_used 5 = .ok (.aload_n 0, 1) := by decide +kernel
theorem dX7_used_6 : decode cX7_used 6 = .ok (.getfield 9, 3) := by decide +kernel
theorem dX7_used_9 : decode cX7_used 9 = .ok (.iconst 0, 1) := by decide +kernel
theorem dX7_used_10 : decode cX7_used 10 = .ok (.iaload, 1) := by decide +kernel
theorem dX7_used_11 : decode cX7_used 11 = .ok (.if_icmp .ge 29, 3) := by decide +kernel
theorem dX7_used_40 : decode cX7_used 40 = .ok (.iload_n 1, 1) := by decide +kernel
theorem dX7_used_41 : decode cX7_used 41 = .ok (.ireturn, 1) := by decide +kernel
theorem dX7_ways_0 : decode cX7_ways 0 = .ok (.aload_n 0, 1) := by decide +kernel
theorem dX7_ways_1 : decode cX7_ways 1 = .ok (.iload_n 1, 1) := by decide +kernel
theorem dX7_ways_2 : decode cX7_ways 2 = .ok (.invokevirtual 85, 3) := by decide +kernel
theorem dX7_ways_5 : decode cX7_ways 5 = .ok (.ifCond .ne 7, 3) := by decide +kernel
theorem dX7_ways_8 : decode cX7_ways 8 = .ok (.sipush (-1001), 3) := by decide +kernel
theorem dX7_ways_11 : decode cX7_ways 11 = .ok (.ireturn, 1) := by decide +kernel
theorem dX7_why_0 : decode cX7_why 0 = .ok (.aload_n 0, 1) := by decide +kernel
theorem dX7_why_1 : decode cX7_why 1 = .ok (.iload_n 1, 1) := by decide +kernel
theorem dX7_why_2 : decode cX7_why 2 = .ok (.invokevirtual 85, 3) := by decide +kernel
theorem dX7_why_5 : decode cX7_why 5 = .ok (.ifCond .eq 11, 3) := by decide +kernel
theorem dX7_why_16 : decode cX7_why 16 = .ok (.sipush (-1001), 3) := by decide +kernel
theorem dX7_why_19 : decode cX7_why 19 = .ok (.ireturn, 1) := by decide +kernel
theorem dX7_wrongStrip_0 : decode cX7_wrongStrip 0 = .ok (.aload_n 0, 1) := by decide +kernel
theorem dX7_wrongStrip_1 : decode cX7_wrongStrip 1 = .ok (.iload_n 1, 1) := by decide +kernel
theorem dX7_wrongStrip_2 : decode cX7_wrongStrip 2 = .ok (.invokevirtual 85, 3) := by decide +kernel
theorem dX7_wrongStrip_5 : decode cX7_wrongStrip 5 = .ok (.ifCond .ne 9, 3) := by decide +kernel
theorem dX7_wrongStrip_8 : decode cX7_wrongStrip 8 = .ok (.sipush (-1001), 3) := by decide +kernel
theorem dX7_wrongStrip_11 : decode cX7_wrongStrip 11 = .ok (.goto 33, 3) := by decide +kernel
theorem dX7_wrongStrip_44 : decode cX7_wrongStrip 44 = .ok (.ireturn, 1) := by decide +kernel
def q_124 : mQ := (yX7_keeps, cX7_keeps, 1, none, 0, 7, 0, 0)
theorem qm_124 : mtL[124]? = some q_124 := rfl
def q_127 : mQ := (yX7_isIn, cX7_isIn, 3, (some FieldType.boolean), 3, 7, 0, 0)
theorem qm_127 : mtL[127]? = some q_127 := rfl
def q_139 : mQ := (yX7_ends, cX7_ends, 2, (some FieldType.int), 1, 7, 0, 0)
theorem qm_139 : mtL[139]? = some q_139 := rfl
def q_140 : mQ := (yX7_changed, cX7_changed, 2, none, 0, 7, 0, 0)
theorem qm_140 : mtL[140]? = some q_140 := rfl
def q_141 : mQ := (yX7_mark, cX7_mark, 4, (some FieldType.int), 3, 7, 0, 0)
theorem qm_141 : mtL[141]? = some q_141 := rfl
def q_142 : mQ := (yX7_marks, cX7_marks, 5, (some FieldType.int), 3, 7, 0, 0)
theorem qm_142 : mtL[142]? = some q_142 := rfl
def q_143 : mQ := (yX7_isCrease, cX7_isCrease, 3, (some FieldType.boolean), 2, 7, 0, 0)
theorem qm_143 : mtL[143]? = some q_143 := rfl
def q_144 : mQ := (yX7_isPiece, cX7_isPiece, 2, (some FieldType.boolean), 1, 7, 0, 0)
theorem qm_144 : mtL[144]? = some q_144 := rfl
def q_147 : mQ := (yX7_turn, cX7_turn, 2, (some FieldType.int), 1, 7, 0, 0)
theorem qm_147 : mtL[147]? = some q_147 := rfl
def q_148 : mQ := (yX7_turns, cX7_turns, 4, (some FieldType.int), 1, 7, 0, 0)
theorem qm_148 : mtL[148]? = some q_148 := rfl
def q_150 : mQ := (yX7_rotate, cX7_rotate, 3, (some FieldType.int), 2, 7, 0, 0)
theorem qm_150 : mtL[150]? = some q_150 := rfl
def q_151 : mQ := (yX7_rotates, cX7_rotates, 6, (some FieldType.int), 2, 7, 0, 0)
theorem qm_151 : mtL[151]? = some q_151 := rfl
def q_153 : mQ := (yX7_join, cX7_join, 4, (some FieldType.int), 3, 7, 0, 0)
theorem qm_153 : mtL[153]? = some q_153 := rfl
def q_154 : mQ := (yX7_joins, cX7_joins, 7, (some FieldType.int), 3, 7, 0, 0)
theorem qm_154 : mtL[154]? = some q_154 := rfl
def q_156 : mQ := (yX7_cut, cX7_cut, 3, (some FieldType.int), 2, 7, 0, 0)
theorem qm_156 : mtL[156]? = some q_156 := rfl
def q_157 : mQ := (yX7_cuts, cX7_cuts, 7, (some FieldType.int), 2, 7, 0, 0)
theorem qm_157 : mtL[157]? = some q_157 := rfl
def q_159 : mQ := (yX7_why, cX7_why, 2, (some FieldType.int), 1, 7, 0, 0)
theorem qm_159 : mtL[159]? = some q_159 := rfl
def q_175 : mQ := (yX7_step, cX7_step, 3, (some FieldType.int), 1, 7, 0, 0)
theorem qm_175 : mtL[175]? = some q_175 := rfl
def q_176 : mQ := (yX7_steps, cX7_steps, 2, (some FieldType.int), 1, 7, 0, 0)
theorem qm_176 : mtL[176]? = some q_176 := rfl
def q_177 : mQ := (yX7_ways, cX7_ways, 4, (some FieldType.int), 1, 7, 0, 0)
theorem qm_177 : mtL[177]? = some q_177 := rfl
def q_181 : mQ := (yX7_fewest, cX7_fewest, 5, (some FieldType.int), 1, 7, 0, 0)
theorem qm_181 : mtL[181]? = some q_181 := rfl
def q_182 : mQ := (yX7_stage, cX7_stage, 2, (some FieldType.int), 1, 7, 0, 0)
theorem qm_182 : mtL[182]? = some q_182 := rfl
def q_183 : mQ := (yX7_stages, cX7_stages, 3, (some FieldType.int), 1, 7, 0, 0)
theorem qm_183 : mtL[183]? = some q_183 := rfl
def q_184 : mQ := (yX7_used, cX7_used, 3, (some FieldType.int), 0, 7, 0, 0)
theorem qm_184 : mtL[184]? = some q_184 := rfl
def q_187 : mQ := (yX7_fold, cX7_fold, 2, (some FieldType.int), 1, 7, 0, 0)
theorem qm_187 : mtL[187]? = some q_187 := rfl
def q_188 : mQ := (yX7_foldsOnStage, cX7_foldsOnStage, 4, (some FieldType.int), 1, 7, 0, 0)
theorem qm_188 : mtL[188]? = some q_188 := rfl
def q_190 : mQ := (yX7_unfold, cX7_unfold, 2, (some FieldType.int), 1, 7, 0, 0)
theorem qm_190 : mtL[190]? = some q_190 := rfl
def q_191 : mQ := (yX7_unfolds, cX7_unfolds, 2, (some FieldType.int), 1, 7, 0, 0)
theorem qm_191 : mtL[191]? = some q_191 := rfl
def q_192 : mQ := (yX7_drop, cX7_drop, 2, (some FieldType.int), 1, 7, 0, 0)
theorem qm_192 : mtL[192]? = some q_192 := rfl
def q_193 : mQ := (yX7_drops, cX7_drops, 2, (some FieldType.int), 1, 7, 0, 0)
theorem qm_193 : mtL[193]? = some q_193 := rfl
def q_194 : mQ := (yX7_piece, cX7_piece, 3, (some FieldType.int), 2, 7, 0, 0)
theorem qm_194 : mtL[194]? = some q_194 := rfl
def q_196 : mQ := (yX7_size, cX7_size, 3, (some FieldType.int), 2, 7, 0, 0)
theorem qm_196 : mtL[196]? = some q_196 := rfl
def q_197 : mQ := (yX7_crease, cX7_crease, 3, (some FieldType.int), 2, 7, 0, 0)
theorem qm_197 : mtL[197]? = some q_197 := rfl
def q_198 : mQ := (yX7_foldsAgain, cX7_foldsAgain, 3, (some FieldType.int), 1, 7, 0, 0)
theorem qm_198 : mtL[198]? = some q_198 := rfl
def q_199 : mQ := (yX7_wrongStrip, cX7_wrongStrip, 2, (some FieldType.int), 1, 7, 0, 0)
theorem qm_199 : mtL[199]? = some q_199 := rfl
def q_207 : mQ := (yX7_orders, cX7_orders, 3, (some FieldType.int), 1, 7, 0, 0)
theorem qm_207 : mtL[207]? = some q_207 := rfl
def q_208 : mQ := (yX7_layer, cX7_layer, 4, (some FieldType.int), 2, 7, 0, 0)
theorem qm_208 : mtL[208]? = some q_208 := rfl
def q_210 : mQ := (yX7_place, cX7_place, 3, (some FieldType.int), 2, 7, 0, 0)
theorem qm_210 : mtL[210]? = some q_210 := rfl
def q_211 : mQ := (yX7_thickest, cX7_thickest, 7, (some FieldType.int), 1, 7, 0, 0)
theorem qm_211 : mtL[211]? = some q_211 := rfl
def q_213 : mQ := (yX7_reflected, cX7_reflected, 5, (some FieldType.int), 1, 7, 0, 0)
theorem qm_213 : mtL[213]? = some q_213 := rfl
def q_214 : mQ := (yX7_append, cX7_append, 2, (some FieldType.int), 1, 7, 0, 0)
theorem qm_214 : mtL[214]? = some q_214 := rfl
def q_215 : mQ := (yX7_read, cX7_read, 2, (some FieldType.int), 0, 7, 0, 0)
theorem qm_215 : mtL[215]? = some q_215 := rfl
def q_216 : mQ := (yX7_isText, cX7_isText, 2, (some FieldType.boolean), 0, 7, 0, 0)
theorem qm_216 : mtL[216]? = some q_216 := rfl
def q_217 : mQ := (yX7_readsCommand, cX7_readsCommand, 1, (some FieldType.boolean), 0, 7, 0, 0)
theorem qm_217 : mtL[217]? = some q_217 := rfl
def q_218 : mQ := (yX7_sign, cX7_sign, 1, (some FieldType.int), 0, 7, 0, 0)
theorem qm_218 : mtL[218]? = some q_218 := rfl
def q_228 : mQ := (yX7_refusal, cX7_refusal, 2, (some FieldType.int), 1, 7, 0, 0)
theorem qm_228 : mtL[228]? = some q_228 := rfl
def q_229 : mQ := (yX7_account, cX7_account, 2, (some FieldType.int), 1, 7, 0, 0)
theorem qm_229 : mtL[229]? = some q_229 := rfl
def q_230 : mQ := (yX7_allOf, cX7_allOf, 4, (some FieldType.int), 1, 7, 0, 0)
theorem qm_230 : mtL[230]? = some q_230 := rfl
def q_231 : mQ := (yX7_panelsOfAll, cX7_panelsOfAll, 3, (some FieldType.int), 0, 7, 0, 0)
theorem qm_231 : mtL[231]? = some q_231 := rfl
def q_232 : mQ := (yX7_share, cX7_share, 1, (some FieldType.int), 0, 7, 0, 0)
theorem qm_232 : mtL[232]? = some q_232 := rfl
def q_233 : mQ := (yX7_undo, cX7_undo, 1, (some FieldType.int), 0, 7, 0, 0)
theorem qm_233 : mtL[233]? = some q_233 := rfl
def q_234 : mQ := (yX7_save, cX7_save, 1, (some FieldType.int), 0, 7, 0, 0)
theorem qm_234 : mtL[234]? = some q_234 := rfl
def q_235 : mQ := (yX7_restore, cX7_restore, 1, (some FieldType.int), 0, 7, 0, 0)
theorem qm_235 : mtL[235]? = some q_235 := rfl
set_option maxRecDepth 100000 in
set_option maxHeartbeats 4000000 in
theorem m_isIn_lt {P : mP} {v lo hi : Int32} (h1 : v < lo) : EvP 1 127 [.int v, .int lo, .int hi] P (fun r P' => r = some (.int 0) ∧ P' = P) := by
  refine EvP.of qm_127 (Nat.le_of_ble_eq_true rfl) rfl ?_
  show MEvP _ none q_127 0 [(0, .int v), (1, .int lo), (2, .int hi)] [] _ 0 0 _
  refine mp_a (a_iload_n dX7_isIn_0 rfl) (mpp 1 rfl ?_)
  refine mp_a (a_iload_n dX7_isIn_1 rfl) (mpp 2 rfl ?_)
  refine mp_Tt (t := 14) (j_icmp_lt dX7_isIn_2) h1 (by decide) ?_
  refine mp_a (a_iconst (v := 0) dX7_isIn_14 rfl) (mpp 15 rfl ?_)
  exact mp_iret (⟨rfl, rfl⟩) dX7_isIn_15 (Or.inr ⟨rfl, by decide⟩)

set_option maxRecDepth 100000 in
set_option maxHeartbeats 4000000 in
theorem m_isIn_gt {P : mP} {v lo hi : Int32} (h1 : ¬ v < lo) (h2 : hi < v) : EvP 1 127 [.int v, .int lo, .int hi] P (fun r P' => r = some (.int 0) ∧ P' = P) := by
  refine EvP.of qm_127 (Nat.le_of_ble_eq_true rfl) rfl ?_
  show MEvP _ none q_127 0 [(0, .int v), (1, .int lo), (2, .int hi)] [] _ 0 0 _
  refine mp_a (a_iload_n dX7_isIn_0 rfl) (mpp 1 rfl ?_)
  refine mp_a (a_iload_n dX7_isIn_1 rfl) (mpp 2 rfl ?_)
  refine mp_Tf (t := 14) (j_icmp_lt dX7_isIn_2) h1 (by decide) (mpp 5 rfl ?_)
  refine mp_a (a_iload_n dX7_isIn_5 rfl) (mpp 6 rfl ?_)
  refine mp_a (a_iload_n dX7_isIn_6 rfl) (mpp 7 rfl ?_)
  refine mp_Tt (t := 14) (j_icmp_gt dX7_isIn_7) h2 (by decide) ?_
  refine mp_a (a_iconst (v := 0) dX7_isIn_14 rfl) (mpp 15 rfl ?_)
  exact mp_iret (⟨rfl, rfl⟩) dX7_isIn_15 (Or.inr ⟨rfl, by decide⟩)

set_option maxRecDepth 100000 in
set_option maxHeartbeats 4000000 in
theorem m_isIn_in {P : mP} {v lo hi : Int32} (h1 : ¬ v < lo) (h2 : ¬ hi < v) : EvP 1 127 [.int v, .int lo, .int hi] P (fun r P' => r = some (.int 1) ∧ P' = P) := by
  refine EvP.of qm_127 (Nat.le_of_ble_eq_true rfl) rfl ?_
  show MEvP _ none q_127 0 [(0, .int v), (1, .int lo), (2, .int hi)] [] _ 0 0 _
  refine mp_a (a_iload_n dX7_isIn_0 rfl) (mpp 1 rfl ?_)
  refine mp_a (a_iload_n dX7_isIn_1 rfl) (mpp 2 rfl ?_)
  refine mp_Tf (t := 14) (j_icmp_lt dX7_isIn_2) h1 (by decide) (mpp 5 rfl ?_)
  refine mp_a (a_iload_n dX7_isIn_5 rfl) (mpp 6 rfl ?_)
  refine mp_a (a_iload_n dX7_isIn_6 rfl) (mpp 7 rfl ?_)
  refine mp_Tf (t := 14) (j_icmp_gt dX7_isIn_7) h2 (by decide) (mpp 10 rfl ?_)
  refine mp_a (a_iconst (v := 1) dX7_isIn_10 rfl) (mpp 11 rfl ?_)
  refine mp_a (a_goto (t := 15) dX7_isIn_11 (by decide)) ?_
  exact mp_iret (⟨rfl, rfl⟩) dX7_isIn_15 (Or.inr ⟨rfl, by decide⟩)

theorem MODK.was {P : mP} {w : List Value} (h : MODK P) (hl : w.length = 155) : MODK (P.set 303 (8, w)) := by
  refine ⟨fun j hj hn => by rw [List.getElem?_set_ne (Ne.symm hn)]; exact h.1 j hj hn, w, ?_, hl⟩
  obtain ⟨w0, h0, -⟩ := h.2
  exact mset_eq h0
set_option maxRecDepth 100000 in
set_option maxHeartbeats 4000000 in
theorem m_keeps {P : mP} (h : MODK P) : EvP 2 124 [.ref 301] P (fun r P' => r = none ∧ MODK P') := by
  obtain ⟨w, hw, hl⟩ := h.2
  refine EvP.of qm_124 (Nat.le_of_ble_eq_true rfl) rfl ?_
  show MEvP _ none q_124 0 [(0, .ref 301)] [] _ 0 0 _
  refine mp_a (a_aload_n dX7_keeps_0 rfl) (mpp 1 rfl ?_)
  refine mp_get (i := 9) (v := .ref 302) dX7_keeps_1 rfl (h.f (by decide) (by decide) p0_301) rfl (mpp 4 rfl ?_)
  refine mp_a (a_iconst (v := 0) dX7_keeps_4 rfl) (mpp 5 rfl ?_)
  refine mp_a (a_aload_n dX7_keeps_5 rfl) (mpp 6 rfl ?_)
  refine mp_get (i := 13) (v := .ref 303) dX7_keeps_6 rfl (h.f (by decide) (by decide) p0_301) rfl (mpp 9 rfl ?_)
  refine mp_a (a_iconst (v := 0) dX7_keeps_9 rfl) (mpp 10 rfl ?_)
  refine mp_calls (i := 54) (q' := q_125) (As := [.ref 302, .int 0, .ref 303, .int 0]) (rest := []) dX7_keeps_10 rfl qm_125 (by decide) rfl (Nat.le_of_ble_eq_true rfl) rfl ⟨rfl, rfl⟩ ⟨Nat.le_of_ble_eq_true rfl, Nat.le_of_ble_eq_true rfl⟩ (EvP.mono (by decide) (m_copies (i := 0) (j := 0) (h.f (by decide) (by decide) p0_302) hw (by decide) (by decide) (by omega) (by decide) (by omega))) (fun r1 P1 g1 => mpp 13 rfl ?_)
  obtain ⟨rfl, rfl⟩ := g1
  show MEvP _ none q_124 13 [(0, .ref 301)] [] _ _ _ _
  exact mp_ret (⟨rfl, h.was (by rw [cpw_len]; exact hl)⟩) dX7_keeps_13 rfl

set_option maxRecDepth 100000 in
set_option maxHeartbeats 4000000 in
theorem m_changed {P : mP} {w : List Value} (h1 : P[301]? = some (7, [.ref 302, .ref 303, .ref 304, .ref 305, .int 0, .int 0, .int 0, .int (-1004), .int 0, .ref 306, .ref 307, .ref 308, .ref 309, .int 0, .int 0, .ref 310, .ref 311, .ref 312, .ref 313, .int 0, .int 0, .int 0, .ref 314, .int 0, .int 0, .int 0, .int 0, .int 0, .int 0, .int 0])) (h3 : P[303]? = some (8, w)) (hl : w.length = 155) (h5 : P[305]? = some (8, List.replicate 1240 (.int 0))) : EvP 2 140 [.ref 301] P (fun r P' => r = none) := by
  refine EvP.of qm_140 (Nat.le_of_ble_eq_true rfl) rfl ?_
  show MEvP _ none q_140 0 [(0, .ref 301)] [] _ 0 0 _
  refine mp_a (a_aload_n dX7_changed_0 rfl) (mpp 1 rfl ?_)
  refine mp_get (i := 58) (v := .int 0) dX7_changed_1 rfl h1 rfl (mpp 4 rfl ?_)
  refine mp_a (a_bipush (v := 8) dX7_changed_4 rfl) (mpp 6 rfl ?_)
  refine mp_Tt (t := 56) (j_icmp_ne dX7_changed_6) (by decide) (by decide) ?_
  refine mp_a (a_aload_n dX7_changed_56 rfl) (mpp 57 rfl ?_)
  refine mp_get (i := 13) (v := .ref 303) dX7_changed_57 rfl h1 rfl (mpp 60 rfl ?_)
  refine mp_a (a_iconst (v := 0) dX7_changed_60 rfl) (mpp 61 rfl ?_)
  refine mp_a (a_aload_n dX7_changed_61 rfl) (mpp 62 rfl ?_)
  refine mp_get (i := 19) (v := .ref 305) dX7_changed_62 rfl h1 rfl (mpp 65 rfl ?_)
  refine mp_a (a_sipush (v := 155) dX7_changed_65 rfl) (mpp 68 rfl ?_)
  refine mp_a (a_aload_n dX7_changed_68 rfl) (mpp 69 rfl ?_)
  refine mp_get (i := 58) (v := .int 0) dX7_changed_69 rfl h1 rfl (mpp 72 rfl ?_)
  refine mp_t (s_imul (v := 0) dX7_changed_72 rfl) (mpp 73 rfl ?_)
  refine mp_calls (i := 54) (q' := q_125) (As := [.ref 303, .int 0, .ref 305, .int 0]) (rest := []) dX7_changed_73 rfl qm_125 (by decide) rfl (Nat.le_of_ble_eq_true rfl) rfl ⟨rfl, rfl⟩ ⟨Nat.le_of_ble_eq_true rfl, Nat.le_of_ble_eq_true rfl⟩ (EvP.mono (by decide) (m_copies (i := 0) (j := 0) h3 h5 (by decide) (by omega) (by decide) (by omega) (by decide))) (fun r1 P1 g1 => mpp 76 rfl ?_)
  obtain ⟨rfl, rfl⟩ := g1
  show MEvP _ none q_140 76 [(0, .ref 301)] [] _ _ _ _
  refine mp_a (a_aload_n dX7_changed_76 rfl) (mpp 77 rfl ?_)
  refine mp_t (s_dup dX7_changed_77 rfl) (mpp 78 rfl ?_)
  refine mp_get (i := 58) (v := .int 0) dX7_changed_78 rfl (mset_ne h1 (by decide)) rfl (mpp 81 rfl ?_)
  refine mp_a (a_iconst (v := 1) dX7_changed_81 rfl) (mpp 82 rfl ?_)
  refine mp_t (s_iadd (v := 1) dX7_changed_82 rfl) (mpp 83 rfl ?_)
  refine mp_put (i := 58) dX7_changed_83 rfl (mset_ne h1 (by decide)) (Nat.le_of_ble_eq_true rfl) rfl (Or.inl rfl) (mpp 86 rfl ?_)
  exact mp_ret (rfl) dX7_changed_86 rfl

set_option maxRecDepth 100000 in
set_option maxHeartbeats 4000000 in
theorem m_isIn_n1001_n1004_n1001 {P : mP}  : EvP 1 127 [.int (-1001), .int (-1004), .int (-1001)] P (fun r P' => r = some (.int 1) ∧ P' = P) := by
  refine EvP.of qm_127 (Nat.le_of_ble_eq_true rfl) rfl ?_
  show MEvP _ none q_127 0 [(0, .int (-1001)), (1, .int (-1004)), (2, .int (-1001))] [] _ 0 0 _
  refine mp_a (a_iload_n dX7_isIn_0 rfl) (mpp 1 rfl ?_)
  refine mp_a (a_iload_n dX7_isIn_1 rfl) (mpp 2 rfl ?_)
  refine mp_Tf (t := 14) (j_icmp_lt dX7_isIn_2) (by decide) (by decide) (mpp 5 rfl ?_)
  refine mp_a (a_iload_n dX7_isIn_5 rfl) (mpp 6 rfl ?_)
  refine mp_a (a_iload_n dX7_isIn_6 rfl) (mpp 7 rfl ?_)
  refine mp_Tf (t := 14) (j_icmp_gt dX7_isIn_7) (by decide) (by decide) (mpp 10 rfl ?_)
  refine mp_a (a_iconst (v := 1) dX7_isIn_10 rfl) (mpp 11 rfl ?_)
  refine mp_a (a_goto (t := 15) dX7_isIn_11 (by decide)) ?_
  exact mp_iret (⟨rfl, rfl⟩) dX7_isIn_15 (Or.inr ⟨rfl, by decide⟩)

set_option maxRecDepth 100000 in
set_option maxHeartbeats 4000000 in
theorem m_ends_n1001 {P : mP} (h : MODK P) : EvP 3 139 [.ref 301, .int (-1001)] P (fun r P' => r = some (.int (-1001))) := by
  obtain ⟨w, hw, hl⟩ := h.2
  refine EvP.of qm_139 (Nat.le_of_ble_eq_true rfl) rfl ?_
  show MEvP _ none q_139 0 [(0, .ref 301), (1, .int (-1001))] [] _ 0 0 _
  refine mp_a (a_aload_n dX7_ends_0 rfl) (mpp 1 rfl ?_)
  refine mp_a (a_iload_n dX7_ends_1 rfl) (mpp 2 rfl ?_)
  refine mp_a (a_sipush (v := -1003) dX7_ends_2 rfl) (mpp 5 rfl ?_)
  refine mp_Tt (t := 14) (j_icmp_ne dX7_ends_5) (by decide) (by decide) ?_
  refine mp_a (a_aload_n dX7_ends_14 rfl) (mpp 15 rfl ?_)
  refine mp_get (i := 50) (v := .int (-1004)) dX7_ends_15 rfl (h.f (by decide) (by decide) p0_301) rfl (mpp 18 rfl ?_)
  refine mp_put (i := 50) dX7_ends_18 rfl (h.f (by decide) (by decide) p0_301) (Nat.le_of_ble_eq_true rfl) rfl (Or.inl rfl) (mpp 21 rfl ?_)
  refine mp_a (a_iload_n dX7_ends_21 rfl) (mpp 22 rfl ?_)
  refine mp_a (a_sipush (v := -1004) dX7_ends_22 rfl) (mpp 25 rfl ?_)
  refine mp_a (a_sipush (v := -1001) dX7_ends_25 rfl) (mpp 28 rfl ?_)
  refine mp_calls (i := 61) (q' := q_127) (As := [.int (-1001), .int (-1004), .int (-1001)]) (rest := []) dX7_ends_28 rfl qm_127 (by decide) rfl (Nat.le_of_ble_eq_true rfl) rfl ⟨rfl, rfl⟩ ⟨Nat.le_of_ble_eq_true rfl, Nat.le_of_ble_eq_true rfl⟩ (EvP.mono (by decide) m_isIn_n1001_n1004_n1001) (fun r1 P1 g1 => mpp 31 rfl ?_)
  obtain ⟨rfl, rfl⟩ := g1
  show MEvP _ none q_139 31 [(0, .ref 301), (1, .int (-1001))] [.int 1] _ _ _ _
  refine mp_Tt (t := 38) (j_if_ne dX7_ends_31) (by decide) (by decide) ?_
  refine mp_a (a_iload_n dX7_ends_38 rfl) (mpp 39 rfl ?_)
  exact mp_iret (rfl) dX7_ends_39 (Or.inl rfl)

set_option maxRecDepth 100000 in
set_option maxHeartbeats 4000000 in
theorem m_isIn_n1002_n1004_n1001 {P : mP}  : EvP 1 127 [.int (-1002), .int (-1004), .int (-1001)] P (fun r P' => r = some (.int 1) ∧ P' = P) := by
  refine EvP.of qm_127 (Nat.le_of_ble_eq_true rfl) rfl ?_
  show MEvP _ none q_127 0 [(0, .int (-1002)), (1, .int (-1004)), (2, .int (-1001))] [] _ 0 0 _
  refine mp_a (a_iload_n dX7_isIn_0 rfl) (mpp 1 rfl ?_)
  refine mp_a (a_iload_n dX7_isIn_1 rfl) (mpp 2 rfl ?_)
  refine mp_Tf (t := 14) (j_icmp_lt dX7_isIn_2) (by decide) (by decide) (mpp 5 rfl ?_)
  refine mp_a (a_iload_n dX7_isIn_5 rfl) (mpp 6 rfl ?_)
  refine mp_a (a_iload_n dX7_isIn_6 rfl) (mpp 7 rfl ?_)
  refine mp_Tf (t := 14) (j_icmp_gt dX7_isIn_7) (by decide) (by decide) (mpp 10 rfl ?_)
  refine mp_a (a_iconst (v := 1) dX7_isIn_10 rfl) (mpp 11 rfl ?_)
  refine mp_a (a_goto (t := 15) dX7_isIn_11 (by decide)) ?_
  exact mp_iret (⟨rfl, rfl⟩) dX7_isIn_15 (Or.inr ⟨rfl, by decide⟩)

set_option maxRecDepth 100000 in
set_option maxHeartbeats 4000000 in
theorem m_ends_n1002 {P : mP} (h : MODK P) : EvP 3 139 [.ref 301, .int (-1002)] P (fun r P' => r = some (.int (-1002))) := by
  obtain ⟨w, hw, hl⟩ := h.2
  refine EvP.of qm_139 (Nat.le_of_ble_eq_true rfl) rfl ?_
  show MEvP _ none q_139 0 [(0, .ref 301), (1, .int (-1002))] [] _ 0 0 _
  refine mp_a (a_aload_n dX7_ends_0 rfl) (mpp 1 rfl ?_)
  refine mp_a (a_iload_n dX7_ends_1 rfl) (mpp 2 rfl ?_)
  refine mp_a (a_sipush (v := -1003) dX7_ends_2 rfl) (mpp 5 rfl ?_)
  refine mp_Tt (t := 14) (j_icmp_ne dX7_ends_5) (by decide) (by decide) ?_
  refine mp_a (a_aload_n dX7_ends_14 rfl) (mpp 15 rfl ?_)
  refine mp_get (i := 50) (v := .int (-1004)) dX7_ends_15 rfl (h.f (by decide) (by decide) p0_301) rfl (mpp 18 rfl ?_)
  refine mp_put (i := 50) dX7_ends_18 rfl (h.f (by decide) (by decide) p0_301) (Nat.le_of_ble_eq_true rfl) rfl (Or.inl rfl) (mpp 21 rfl ?_)
  refine mp_a (a_iload_n dX7_ends_21 rfl) (mpp 22 rfl ?_)
  refine mp_a (a_sipush (v := -1004) dX7_ends_22 rfl) (mpp 25 rfl ?_)
  refine mp_a (a_sipush (v := -1001) dX7_ends_25 rfl) (mpp 28 rfl ?_)
  refine mp_calls (i := 61) (q' := q_127) (As := [.int (-1002), .int (-1004), .int (-1001)]) (rest := []) dX7_ends_28 rfl qm_127 (by decide) rfl (Nat.le_of_ble_eq_true rfl) rfl ⟨rfl, rfl⟩ ⟨Nat.le_of_ble_eq_true rfl, Nat.le_of_ble_eq_true rfl⟩ (EvP.mono (by decide) m_isIn_n1002_n1004_n1001) (fun r1 P1 g1 => mpp 31 rfl ?_)
  obtain ⟨rfl, rfl⟩ := g1
  show MEvP _ none q_139 31 [(0, .ref 301), (1, .int (-1002))] [.int 1] _ _ _ _
  refine mp_Tt (t := 38) (j_if_ne dX7_ends_31) (by decide) (by decide) ?_
  refine mp_a (a_iload_n dX7_ends_38 rfl) (mpp 39 rfl ?_)
  exact mp_iret (rfl) dX7_ends_39 (Or.inl rfl)

set_option maxRecDepth 100000 in
set_option maxHeartbeats 4000000 in
theorem m_isIn_30_n1004_n1001 {P : mP}  : EvP 1 127 [.int 30, .int (-1004), .int (-1001)] P (fun r P' => r = some (.int 0) ∧ P' = P) := by
  refine EvP.of qm_127 (Nat.le_of_ble_eq_true rfl) rfl ?_
  show MEvP _ none q_127 0 [(0, .int 30), (1, .int (-1004)), (2, .int (-1001))] [] _ 0 0 _
  refine mp_a (a_iload_n dX7_isIn_0 rfl) (mpp 1 rfl ?_)
  refine mp_a (a_iload_n dX7_isIn_1 rfl) (mpp 2 rfl ?_)
  refine mp_Tf (t := 14) (j_icmp_lt dX7_isIn_2) (by decide) (by decide) (mpp 5 rfl ?_)
  refine mp_a (a_iload_n dX7_isIn_5 rfl) (mpp 6 rfl ?_)
  refine mp_a (a_iload_n dX7_isIn_6 rfl) (mpp 7 rfl ?_)
  refine mp_Tt (t := 14) (j_icmp_gt dX7_isIn_7) (by decide) (by decide) ?_
  refine mp_a (a_iconst (v := 0) dX7_isIn_14 rfl) (mpp 15 rfl ?_)
  exact mp_iret (⟨rfl, rfl⟩) dX7_isIn_15 (Or.inr ⟨rfl, by decide⟩)

set_option maxRecDepth 100000 in
set_option maxHeartbeats 4000000 in
theorem m_ends_30 {P : mP} (h : MODK P) : EvP 3 139 [.ref 301, .int 30] P (fun r P' => r = some (.int 30)) := by
  obtain ⟨w, hw, hl⟩ := h.2
  refine EvP.of qm_139 (Nat.le_of_ble_eq_true rfl) rfl ?_
  show MEvP _ none q_139 0 [(0, .ref 301), (1, .int 30)] [] _ 0 0 _
  refine mp_a (a_aload_n dX7_ends_0 rfl) (mpp 1 rfl ?_)
  refine mp_a (a_iload_n dX7_ends_1 rfl) (mpp 2 rfl ?_)
  refine mp_a (a_sipush (v := -1003) dX7_ends_2 rfl) (mpp 5 rfl ?_)
  refine mp_Tt (t := 14) (j_icmp_ne dX7_ends_5) (by decide) (by decide) ?_
  refine mp_a (a_aload_n dX7_ends_14 rfl) (mpp 15 rfl ?_)
  refine mp_get (i := 50) (v := .int (-1004)) dX7_ends_15 rfl (h.f (by decide) (by decide) p0_301) rfl (mpp 18 rfl ?_)
  refine mp_put (i := 50) dX7_ends_18 rfl (h.f (by decide) (by decide) p0_301) (Nat.le_of_ble_eq_true rfl) rfl (Or.inl rfl) (mpp 21 rfl ?_)
  refine mp_a (a_iload_n dX7_ends_21 rfl) (mpp 22 rfl ?_)
  refine mp_a (a_sipush (v := -1004) dX7_ends_22 rfl) (mpp 25 rfl ?_)
  refine mp_a (a_sipush (v := -1001) dX7_ends_25 rfl) (mpp 28 rfl ?_)
  refine mp_calls (i := 61) (q' := q_127) (As := [.int 30, .int (-1004), .int (-1001)]) (rest := []) dX7_ends_28 rfl qm_127 (by decide) rfl (Nat.le_of_ble_eq_true rfl) rfl ⟨rfl, rfl⟩ ⟨Nat.le_of_ble_eq_true rfl, Nat.le_of_ble_eq_true rfl⟩ (EvP.mono (by decide) m_isIn_30_n1004_n1001) (fun r1 P1 g1 => mpp 31 rfl ?_)
  obtain ⟨rfl, rfl⟩ := g1
  show MEvP _ none q_139 31 [(0, .ref 301), (1, .int 30)] [.int 0] _ _ _ _
  refine mp_Tf (t := 38) (j_if_ne dX7_ends_31) (by decide) (by decide) (mpp 34 rfl ?_)
  refine mp_a (a_aload_n dX7_ends_34 rfl) (mpp 35 rfl ?_)
  refine mp_callv (i := 65) (q' := q_140) (As := []) (rest := []) dX7_ends_35 rfl qm_140 (by decide) rfl (mset_eq (h.f (by decide) (by decide) p0_301)) (by decide) (Nat.le_of_ble_eq_true rfl) rfl ⟨rfl, rfl⟩ ⟨Nat.le_of_ble_eq_true rfl, Nat.le_of_ble_eq_true rfl⟩ (EvP.mono (by decide) (m_changed (mset_eq (h.f (by decide) (by decide) p0_301)) (mset_ne hw (by decide)) hl (mset_ne (h.f (by decide) (by decide) p0_305) (by decide)))) (fun r1 P1 g2 => mpp 38 rfl ?_)
  obtain rfl := g2
  show MEvP _ none q_139 38 [(0, .ref 301), (1, .int 30)] [] _ _ _ _
  refine mp_a (a_iload_n dX7_ends_38 rfl) (mpp 39 rfl ?_)
  exact mp_iret (rfl) dX7_ends_39 (Or.inl rfl)

set_option maxRecDepth 100000 in
set_option maxHeartbeats 4000000 in
theorem m_isIn_0_n1004_n1001 {P : mP}  : EvP 1 127 [.int 0, .int (-1004), .int (-1001)] P (fun r P' => r = some (.int 0) ∧ P' = P) := by
  refine EvP.of qm_127 (Nat.le_of_ble_eq_true rfl) rfl ?_
  show MEvP _ none q_127 0 [(0, .int 0), (1, .int (-1004)), (2, .int (-1001))] [] _ 0 0 _
  refine mp_a (a_iload_n dX7_isIn_0 rfl) (mpp 1 rfl ?_)
  refine mp_a (a_iload_n dX7_isIn_1 rfl) (mpp 2 rfl ?_)
  refine mp_Tf (t := 14) (j_icmp_lt dX7_isIn_2) (by decide) (by decide) (mpp 5 rfl ?_)
  refine mp_a (a_iload_n dX7_isIn_5 rfl) (mpp 6 rfl ?_)
  refine mp_a (a_iload_n dX7_isIn_6 rfl) (mpp 7 rfl ?_)
  refine mp_Tt (t := 14) (j_icmp_gt dX7_isIn_7) (by decide) (by decide) ?_
  refine mp_a (a_iconst (v := 0) dX7_isIn_14 rfl) (mpp 15 rfl ?_)
  exact mp_iret (⟨rfl, rfl⟩) dX7_isIn_15 (Or.inr ⟨rfl, by decide⟩)

set_option maxRecDepth 100000 in
set_option maxHeartbeats 4000000 in
theorem m_ends_0 {P : mP} (h : MODK P) : EvP 3 139 [.ref 301, .int 0] P (fun r P' => r = some (.int 0)) := by
  obtain ⟨w, hw, hl⟩ := h.2
  refine EvP.of qm_139 (Nat.le_of_ble_eq_true rfl) rfl ?_
  show MEvP _ none q_139 0 [(0, .ref 301), (1, .int 0)] [] _ 0 0 _
  refine mp_a (a_aload_n dX7_ends_0 rfl) (mpp 1 rfl ?_)
  refine mp_a (a_iload_n dX7_ends_1 rfl) (mpp 2 rfl ?_)
  refine mp_a (a_sipush (v := -1003) dX7_ends_2 rfl) (mpp 5 rfl ?_)
  refine mp_Tt (t := 14) (j_icmp_ne dX7_ends_5) (by decide) (by decide) ?_
  refine mp_a (a_aload_n dX7_ends_14 rfl) (mpp 15 rfl ?_)
  refine mp_get (i := 50) (v := .int (-1004)) dX7_ends_15 rfl (h.f (by decide) (by decide) p0_301) rfl (mpp 18 rfl ?_)
  refine mp_put (i := 50) dX7_ends_18 rfl (h.f (by decide) (by decide) p0_301) (Nat.le_of_ble_eq_true rfl) rfl (Or.inl rfl) (mpp 21 rfl ?_)
  refine mp_a (a_iload_n dX7_ends_21 rfl) (mpp 22 rfl ?_)
  refine mp_a (a_sipush (v := -1004) dX7_ends_22 rfl) (mpp 25 rfl ?_)
  refine mp_a (a_sipush (v := -1001) dX7_ends_25 rfl) (mpp 28 rfl ?_)
  refine mp_calls (i := 61) (q' := q_127) (As := [.int 0, .int (-1004), .int (-1001)]) (rest := []) dX7_ends_28 rfl qm_127 (by decide) rfl (Nat.le_of_ble_eq_true rfl) rfl ⟨rfl, rfl⟩ ⟨Nat.le_of_ble_eq_true rfl, Nat.le_of_ble_eq_true rfl⟩ (EvP.mono (by decide) m_isIn_0_n1004_n1001) (fun r1 P1 g1 => mpp 31 rfl ?_)
  obtain ⟨rfl, rfl⟩ := g1
  show MEvP _ none q_139 31 [(0, .ref 301), (1, .int 0)] [.int 0] _ _ _ _
  refine mp_Tf (t := 38) (j_if_ne dX7_ends_31) (by decide) (by decide) (mpp 34 rfl ?_)
  refine mp_a (a_aload_n dX7_ends_34 rfl) (mpp 35 rfl ?_)
  refine mp_callv (i := 65) (q' := q_140) (As := []) (rest := []) dX7_ends_35 rfl qm_140 (by decide) rfl (mset_eq (h.f (by decide) (by decide) p0_301)) (by decide) (Nat.le_of_ble_eq_true rfl) rfl ⟨rfl, rfl⟩ ⟨Nat.le_of_ble_eq_true rfl, Nat.le_of_ble_eq_true rfl⟩ (EvP.mono (by decide) (m_changed (mset_eq (h.f (by decide) (by decide) p0_301)) (mset_ne hw (by decide)) hl (mset_ne (h.f (by decide) (by decide) p0_305) (by decide)))) (fun r1 P1 g2 => mpp 38 rfl ?_)
  obtain rfl := g2
  show MEvP _ none q_139 38 [(0, .ref 301), (1, .int 0)] [] _ _ _ _
  refine mp_a (a_iload_n dX7_ends_38 rfl) (mpp 39 rfl ?_)
  exact mp_iret (rfl) dX7_ends_39 (Or.inl rfl)

set_option maxRecDepth 100000 in
set_option maxHeartbeats 4000000 in
theorem m_isIn_e {P : mP} {v : Int32}  : EvP 1 127 [.int v, .int 0, .int (-1)] P (fun r P' => r = some (.int 0) ∧ P' = P) := by
  refine EvP.of qm_127 (Nat.le_of_ble_eq_true rfl) rfl ?_
  show MEvP _ none q_127 0 [(0, .int v), (1, .int 0), (2, .int (-1))] [] _ 0 0 _
  refine mp_a (a_iload_n dX7_isIn_0 rfl) (mpp 1 rfl ?_)
  refine mp_a (a_iload_n dX7_isIn_1 rfl) (mpp 2 rfl ?_)
  refine mp_Tb (t := 14) (j_icmp_lt dX7_isIn_2) (by decide) (fun c1 => ?_) (fun c1 => mpp 5 rfl ?_)
  · refine mp_a (a_iconst (v := 0) dX7_isIn_14 rfl) (mpp 15 rfl ?_)
    exact mp_iret (⟨rfl, rfl⟩) dX7_isIn_15 (Or.inr ⟨rfl, by decide⟩)
  · refine mp_a (a_iload_n dX7_isIn_5 rfl) (mpp 6 rfl ?_)
    refine mp_a (a_iload_n dX7_isIn_6 rfl) (mpp 7 rfl ?_)
    refine mp_Tb (t := 14) (j_icmp_gt dX7_isIn_7) (by decide) (fun c2 => ?_) (fun c2 => mpp 10 rfl ?_)
    · refine mp_a (a_iconst (v := 0) dX7_isIn_14 rfl) (mpp 15 rfl ?_)
      exact mp_iret (⟨rfl, rfl⟩) dX7_isIn_15 (Or.inr ⟨rfl, by decide⟩)
    · exfalso; have k0 : ((-1) : Int32).toInt = (-1) := rfl; have k1 : (0 : Int32).toInt = 0 := rfl; simp only [Int32.lt_iff_toInt_lt, Int32.le_iff_toInt_le, ← Int32.toInt_inj, Decidable.not_not] at c1 c2; omega

set_option maxRecDepth 100000 in
set_option maxHeartbeats 4000000 in
theorem m_isPiece {P : mP} {a1 : Int32} (h : MODK P) : EvP 2 144 [.ref 301, .int a1] P (fun r P' => r = some (.int 0) ∧ P' = P) := by
  refine EvP.of qm_144 (Nat.le_of_ble_eq_true rfl) rfl ?_
  show MEvP _ none q_144 0 [(0, .ref 301), (1, .int a1)] [] _ 0 0 _
  refine mp_a (a_iload_n dX7_isPiece_0 rfl) (mpp 1 rfl ?_)
  refine mp_a (a_iconst (v := 0) dX7_isPiece_1 rfl) (mpp 2 rfl ?_)
  refine mp_a (a_aload_n dX7_isPiece_2 rfl) (mpp 3 rfl ?_)
  refine mp_get (i := 9) (v := .ref 302) dX7_isPiece_3 rfl (h.f (by decide) (by decide) p0_301) rfl (mpp 6 rfl ?_)
  refine mp_a (a_iconst (v := 0) dX7_isPiece_6 rfl) (mpp 7 rfl ?_)
  refine mp_ial (N := 155) (v := 0) dX7_isPiece_7 (h.f (by decide) (by decide) p0_302) rfl (by decide) rfl (mpp 8 rfl ?_)
  refine mp_a (a_iconst (v := 1) dX7_isPiece_8 rfl) (mpp 9 rfl ?_)
  refine mp_t (s_isub (v := (-1)) dX7_isPiece_9 rfl) (mpp 10 rfl ?_)
  refine mp_calls (i := 61) (q' := q_127) (As := [.int a1, .int 0, .int (-1)]) (rest := []) dX7_isPiece_10 rfl qm_127 (by decide) rfl (Nat.le_of_ble_eq_true rfl) rfl ⟨rfl, rfl⟩ ⟨Nat.le_of_ble_eq_true rfl, Nat.le_of_ble_eq_true rfl⟩ (EvP.mono (by decide) m_isIn_e) (fun r1 P1 g1 => mpp 13 rfl ?_)
  obtain ⟨rfl, rfl⟩ := g1
  show MEvP _ none q_144 13 [(0, .ref 301), (1, .int a1)] [.int 0] _ _ _ _
  exact mp_iret (⟨rfl, rfl⟩) dX7_isPiece_13 (Or.inr ⟨rfl, by decide⟩)

set_option maxRecDepth 100000 in
set_option maxHeartbeats 4000000 in
theorem m_isCrease {P : mP} {a1 a2 : Int32} (h : MODK P) : EvP 3 143 [.ref 301, .int a1, .int a2] P (fun r P' => r = some (.int 0) ∧ P' = P) := by
  refine EvP.of qm_143 (Nat.le_of_ble_eq_true rfl) rfl ?_
  show MEvP _ none q_143 0 [(0, .ref 301), (1, .int a1), (2, .int a2)] [] _ 0 0 _
  refine mp_a (a_aload_n dX7_isCrease_0 rfl) (mpp 1 rfl ?_)
  refine mp_a (a_iload_n dX7_isCrease_1 rfl) (mpp 2 rfl ?_)
  refine mp_callv (i := 85) (q' := q_144) (As := [.int a1]) (rest := []) dX7_isCrease_2 rfl qm_144 (by decide) rfl (h.f (by decide) (by decide) p0_301) (by decide) (Nat.le_of_ble_eq_true rfl) rfl ⟨rfl, rfl⟩ ⟨Nat.le_of_ble_eq_true rfl, Nat.le_of_ble_eq_true rfl⟩ (EvP.mono (by decide) (m_isPiece h)) (fun r1 P1 g1 => mpp 5 rfl ?_)
  obtain ⟨rfl, rfl⟩ := g1
  show MEvP _ none q_143 5 [(0, .ref 301), (1, .int a1), (2, .int a2)] [.int 0] _ _ _ _
  refine mp_Tt (t := 27) (j_if_eq dX7_isCrease_5) (by decide) (by decide) ?_
  refine mp_a (a_iconst (v := 0) dX7_isCrease_27 rfl) (mpp 28 rfl ?_)
  exact mp_iret (⟨rfl, rfl⟩) dX7_isCrease_28 (Or.inr ⟨rfl, by decide⟩)

set_option maxRecDepth 100000 in
set_option maxHeartbeats 4000000 in
theorem m_marks {P : mP} {a1 a2 a3 : Int32} (h : MODK P) : EvP 4 142 [.ref 301, .int a1, .int a2, .int a3] P (fun r P' => r = some (.int (-1001)) ∧ P' = P) := by
  refine EvP.of qm_142 (Nat.le_of_ble_eq_true rfl) rfl ?_
  show MEvP _ none q_142 0 [(0, .ref 301), (1, .int a1), (2, .int a2), (3, .int a3)] [] _ 0 0 _
  refine mp_a (a_aload_n dX7_marks_0 rfl) (mpp 1 rfl ?_)
  refine mp_a (a_iload_n dX7_marks_1 rfl) (mpp 2 rfl ?_)
  refine mp_a (a_iload_n dX7_marks_2 rfl) (mpp 3 rfl ?_)
  refine mp_callv (i := 127) (q' := q_143) (As := [.int a1, .int a2]) (rest := []) dX7_marks_3 rfl qm_143 (by decide) rfl (h.f (by decide) (by decide) p0_301) (by decide) (Nat.le_of_ble_eq_true rfl) rfl ⟨rfl, rfl⟩ ⟨Nat.le_of_ble_eq_true rfl, Nat.le_of_ble_eq_true rfl⟩ (EvP.mono (by decide) (m_isCrease h)) (fun r1 P1 g1 => mpp 6 rfl ?_)
  obtain ⟨rfl, rfl⟩ := g1
  show MEvP _ none q_142 6 [(0, .ref 301), (1, .int a1), (2, .int a2), (3, .int a3)] [.int 0] _ _ _ _
  refine mp_Tf (t := 13) (j_if_ne dX7_marks_6) (by decide) (by decide) (mpp 9 rfl ?_)
  refine mp_a (a_sipush (v := -1001) dX7_marks_9 rfl) (mpp 12 rfl ?_)
  exact mp_iret (⟨rfl, rfl⟩) dX7_marks_12 (Or.inl rfl)

set_option maxRecDepth 100000 in
set_option maxHeartbeats 4000000 in
theorem m_turns {P : mP} {a1 : Int32} (h : MODK P) : EvP 4 148 [.ref 301, .int a1] P (fun r P' => r = some (.int (-1001)) ∧ P' = P) := by
  refine EvP.of qm_148 (Nat.le_of_ble_eq_true rfl) rfl ?_
  show MEvP _ none q_148 0 [(0, .ref 301), (1, .int a1)] [] _ 0 0 _
  refine mp_a (a_aload_n dX7_turns_0 rfl) (mpp 1 rfl ?_)
  refine mp_a (a_iload_n dX7_turns_1 rfl) (mpp 2 rfl ?_)
  refine mp_callv (i := 85) (q' := q_144) (As := [.int a1]) (rest := []) dX7_turns_2 rfl qm_144 (by decide) rfl (h.f (by decide) (by decide) p0_301) (by decide) (Nat.le_of_ble_eq_true rfl) rfl ⟨rfl, rfl⟩ ⟨Nat.le_of_ble_eq_true rfl, Nat.le_of_ble_eq_true rfl⟩ (EvP.mono (by decide) (m_isPiece h)) (fun r1 P1 g1 => mpp 5 rfl ?_)
  obtain ⟨rfl, rfl⟩ := g1
  show MEvP _ none q_148 5 [(0, .ref 301), (1, .int a1)] [.int 0] _ _ _ _
  refine mp_Tf (t := 12) (j_if_ne dX7_turns_5) (by decide) (by decide) (mpp 8 rfl ?_)
  refine mp_a (a_sipush (v := -1001) dX7_turns_8 rfl) (mpp 11 rfl ?_)
  exact mp_iret (⟨rfl, rfl⟩) dX7_turns_11 (Or.inl rfl)

set_option maxRecDepth 100000 in
set_option maxHeartbeats 4000000 in
theorem m_rotates {P : mP} {a1 a2 : Int32} (h : MODK P) : EvP 4 151 [.ref 301, .int a1, .int a2] P (fun r P' => r = some (.int (-1001)) ∧ P' = P) := by
  refine EvP.of qm_151 (Nat.le_of_ble_eq_true rfl) rfl ?_
  show MEvP _ none q_151 0 [(0, .ref 301), (1, .int a1), (2, .int a2)] [] _ 0 0 _
  refine mp_a (a_aload_n dX7_rotates_0 rfl) (mpp 1 rfl ?_)
  refine mp_a (a_iload_n dX7_rotates_1 rfl) (mpp 2 rfl ?_)
  refine mp_a (a_iload_n dX7_rotates_2 rfl) (mpp 3 rfl ?_)
  refine mp_callv (i := 127) (q' := q_143) (As := [.int a1, .int a2]) (rest := []) dX7_rotates_3 rfl qm_143 (by decide) rfl (h.f (by decide) (by decide) p0_301) (by decide) (Nat.le_of_ble_eq_true rfl) rfl ⟨rfl, rfl⟩ ⟨Nat.le_of_ble_eq_true rfl, Nat.le_of_ble_eq_true rfl⟩ (EvP.mono (by decide) (m_isCrease h)) (fun r1 P1 g1 => mpp 6 rfl ?_)
  obtain ⟨rfl, rfl⟩ := g1
  show MEvP _ none q_151 6 [(0, .ref 301), (1, .int a1), (2, .int a2)] [.int 0] _ _ _ _
  refine mp_Tf (t := 13) (j_if_ne dX7_rotates_6) (by decide) (by decide) (mpp 9 rfl ?_)
  refine mp_a (a_sipush (v := -1001) dX7_rotates_9 rfl) (mpp 12 rfl ?_)
  exact mp_iret (⟨rfl, rfl⟩) dX7_rotates_12 (Or.inl rfl)

set_option maxRecDepth 100000 in
set_option maxHeartbeats 4000000 in
theorem m_joins {P : mP} {a1 a2 a3 : Int32} (h : MODK P) : EvP 4 154 [.ref 301, .int a1, .int a2, .int a3] P (fun r P' => r = some (.int (-1001)) ∧ P' = P) := by
  refine EvP.of qm_154 (Nat.le_of_ble_eq_true rfl) rfl ?_
  show MEvP _ none q_154 0 [(0, .ref 301), (1, .int a1), (2, .int a2), (3, .int a3)] [] _ 0 0 _
  refine mp_a (a_aload_n dX7_joins_0 rfl) (mpp 1 rfl ?_)
  refine mp_a (a_iload_n dX7_joins_1 rfl) (mpp 2 rfl ?_)
  refine mp_callv (i := 85) (q' := q_144) (As := [.int a1]) (rest := []) dX7_joins_2 rfl qm_144 (by decide) rfl (h.f (by decide) (by decide) p0_301) (by decide) (Nat.le_of_ble_eq_true rfl) rfl ⟨rfl, rfl⟩ ⟨Nat.le_of_ble_eq_true rfl, Nat.le_of_ble_eq_true rfl⟩ (EvP.mono (by decide) (m_isPiece h)) (fun r1 P1 g1 => mpp 5 rfl ?_)
  obtain ⟨rfl, rfl⟩ := g1
  show MEvP _ none q_154 5 [(0, .ref 301), (1, .int a1), (2, .int a2), (3, .int a3)] [.int 0] _ _ _ _
  refine mp_Tt (t := 21) (j_if_eq dX7_joins_5) (by decide) (by decide) ?_
  refine mp_a (a_sipush (v := -1001) dX7_joins_21 rfl) (mpp 24 rfl ?_)
  exact mp_iret (⟨rfl, rfl⟩) dX7_joins_24 (Or.inl rfl)

set_option maxRecDepth 100000 in
set_option maxHeartbeats 4000000 in
theorem m_cuts {P : mP} {a1 a2 : Int32} (h : MODK P) : EvP 4 157 [.ref 301, .int a1, .int a2] P (fun r P' => r = some (.int (-1001)) ∧ P' = P) := by
  refine EvP.of qm_157 (Nat.le_of_ble_eq_true rfl) rfl ?_
  show MEvP _ none q_157 0 [(0, .ref 301), (1, .int a1), (2, .int a2)] [] _ 0 0 _
  refine mp_a (a_aload_n dX7_cuts_0 rfl) (mpp 1 rfl ?_)
  refine mp_a (a_iload_n dX7_cuts_1 rfl) (mpp 2 rfl ?_)
  refine mp_a (a_iload_n dX7_cuts_2 rfl) (mpp 3 rfl ?_)
  refine mp_callv (i := 127) (q' := q_143) (As := [.int a1, .int a2]) (rest := []) dX7_cuts_3 rfl qm_143 (by decide) rfl (h.f (by decide) (by decide) p0_301) (by decide) (Nat.le_of_ble_eq_true rfl) rfl ⟨rfl, rfl⟩ ⟨Nat.le_of_ble_eq_true rfl, Nat.le_of_ble_eq_true rfl⟩ (EvP.mono (by decide) (m_isCrease h)) (fun r1 P1 g1 => mpp 6 rfl ?_)
  obtain ⟨rfl, rfl⟩ := g1
  show MEvP _ none q_157 6 [(0, .ref 301), (1, .int a1), (2, .int a2)] [.int 0] _ _ _ _
  refine mp_Tf (t := 13) (j_if_ne dX7_cuts_6) (by decide) (by decide) (mpp 9 rfl ?_)
  refine mp_a (a_sipush (v := -1001) dX7_cuts_9 rfl) (mpp 12 rfl ?_)
  exact mp_iret (⟨rfl, rfl⟩) dX7_cuts_12 (Or.inl rfl)

set_option maxRecDepth 100000 in
set_option maxHeartbeats 4000000 in
theorem m_foldsOnStage {P : mP} {a1 : Int32} (h : MODK P) : EvP 4 188 [.ref 301, .int a1] P (fun r P' => r = some (.int (-1001)) ∧ P' = P) := by
  refine EvP.of qm_188 (Nat.le_of_ble_eq_true rfl) rfl ?_
  show MEvP _ none q_188 0 [(0, .ref 301), (1, .int a1)] [] _ 0 0 _
  refine mp_a (a_aload_n dX7_foldsOnStage_0 rfl) (mpp 1 rfl ?_)
  refine mp_a (a_iload_n dX7_foldsOnStage_1 rfl) (mpp 2 rfl ?_)
  refine mp_callv (i := 85) (q' := q_144) (As := [.int a1]) (rest := []) dX7_foldsOnStage_2 rfl qm_144 (by decide) rfl (h.f (by decide) (by decide) p0_301) (by decide) (Nat.le_of_ble_eq_true rfl) rfl ⟨rfl, rfl⟩ ⟨Nat.le_of_ble_eq_true rfl, Nat.le_of_ble_eq_true rfl⟩ (EvP.mono (by decide) (m_isPiece h)) (fun r1 P1 g1 => mpp 5 rfl ?_)
  obtain ⟨rfl, rfl⟩ := g1
  show MEvP _ none q_188 5 [(0, .ref 301), (1, .int a1)] [.int 0] _ _ _ _
  refine mp_Tf (t := 12) (j_if_ne dX7_foldsOnStage_5) (by decide) (by decide) (mpp 8 rfl ?_)
  refine mp_a (a_sipush (v := -1001) dX7_foldsOnStage_8 rfl) (mpp 11 rfl ?_)
  exact mp_iret (⟨rfl, rfl⟩) dX7_foldsOnStage_11 (Or.inl rfl)

set_option maxRecDepth 100000 in
set_option maxHeartbeats 4000000 in
theorem m_unfolds {P : mP} {a1 : Int32} (h : MODK P) : EvP 4 191 [.ref 301, .int a1] P (fun r P' => r = some (.int (-1001)) ∧ P' = P) := by
  refine EvP.of qm_191 (Nat.le_of_ble_eq_true rfl) rfl ?_
  show MEvP _ none q_191 0 [(0, .ref 301), (1, .int a1)] [] _ 0 0 _
  refine mp_a (a_aload_n dX7_unfolds_0 rfl) (mpp 1 rfl ?_)
  refine mp_a (a_iload_n dX7_unfolds_1 rfl) (mpp 2 rfl ?_)
  refine mp_callv (i := 85) (q' := q_144) (As := [.int a1]) (rest := []) dX7_unfolds_2 rfl qm_144 (by decide) rfl (h.f (by decide) (by decide) p0_301) (by decide) (Nat.le_of_ble_eq_true rfl) rfl ⟨rfl, rfl⟩ ⟨Nat.le_of_ble_eq_true rfl, Nat.le_of_ble_eq_true rfl⟩ (EvP.mono (by decide) (m_isPiece h)) (fun r1 P1 g1 => mpp 5 rfl ?_)
  obtain ⟨rfl, rfl⟩ := g1
  show MEvP _ none q_191 5 [(0, .ref 301), (1, .int a1)] [.int 0] _ _ _ _
  refine mp_Tf (t := 12) (j_if_ne dX7_unfolds_5) (by decide) (by decide) (mpp 8 rfl ?_)
  refine mp_a (a_sipush (v := -1001) dX7_unfolds_8 rfl) (mpp 11 rfl ?_)
  exact mp_iret (⟨rfl, rfl⟩) dX7_unfolds_11 (Or.inl rfl)

set_option maxRecDepth 100000 in
set_option maxHeartbeats 4000000 in
theorem m_drops {P : mP} {a1 : Int32} (h : MODK P) : EvP 4 193 [.ref 301, .int a1] P (fun r P' => r = some (.int (-1001)) ∧ P' = P) := by
  refine EvP.of qm_193 (Nat.le_of_ble_eq_true rfl) rfl ?_
  show MEvP _ none q_193 0 [(0, .ref 301), (1, .int a1)] [] _ 0 0 _
  refine mp_a (a_aload_n dX7_drops_0 rfl) (mpp 1 rfl ?_)
  refine mp_a (a_iload_n dX7_drops_1 rfl) (mpp 2 rfl ?_)
  refine mp_callv (i := 85) (q' := q_144) (As := [.int a1]) (rest := []) dX7_drops_2 rfl qm_144 (by decide) rfl (h.f (by decide) (by decide) p0_301) (by decide) (Nat.le_of_ble_eq_true rfl) rfl ⟨rfl, rfl⟩ ⟨Nat.le_of_ble_eq_true rfl, Nat.le_of_ble_eq_true rfl⟩ (EvP.mono (by decide) (m_isPiece h)) (fun r1 P1 g1 => mpp 5 rfl ?_)
  obtain ⟨rfl, rfl⟩ := g1
  show MEvP _ none q_193 5 [(0, .ref 301), (1, .int a1)] [.int 0] _ _ _ _
  refine mp_Tf (t := 12) (j_if_ne dX7_drops_5) (by decide) (by decide) (mpp 8 rfl ?_)
  refine mp_a (a_sipush (v := -1001) dX7_drops_8 rfl) (mpp 11 rfl ?_)
  exact mp_iret (⟨rfl, rfl⟩) dX7_drops_11 (Or.inl rfl)

set_option maxRecDepth 100000 in
set_option maxHeartbeats 4000000 in
theorem m_wrongStrip {P : mP} {a1 : Int32} (h : MODK P) : EvP 4 199 [.ref 301, .int a1] P (fun r P' => r = some (.int (-1001)) ∧ P' = P) := by
  refine EvP.of qm_199 (Nat.le_of_ble_eq_true rfl) rfl ?_
  show MEvP _ none q_199 0 [(0, .ref 301), (1, .int a1)] [] _ 0 0 _
  refine mp_a (a_aload_n dX7_wrongStrip_0 rfl) (mpp 1 rfl ?_)
  refine mp_a (a_iload_n dX7_wrongStrip_1 rfl) (mpp 2 rfl ?_)
  refine mp_callv (i := 85) (q' := q_144) (As := [.int a1]) (rest := []) dX7_wrongStrip_2 rfl qm_144 (by decide) rfl (h.f (by decide) (by decide) p0_301) (by decide) (Nat.le_of_ble_eq_true rfl) rfl ⟨rfl, rfl⟩ ⟨Nat.le_of_ble_eq_true rfl, Nat.le_of_ble_eq_true rfl⟩ (EvP.mono (by decide) (m_isPiece h)) (fun r1 P1 g1 => mpp 5 rfl ?_)
  obtain ⟨rfl, rfl⟩ := g1
  show MEvP _ none q_199 5 [(0, .ref 301), (1, .int a1)] [.int 0] _ _ _ _
  refine mp_Tf (t := 14) (j_if_ne dX7_wrongStrip_5) (by decide) (by decide) (mpp 8 rfl ?_)
  refine mp_a (a_sipush (v := -1001) dX7_wrongStrip_8 rfl) (mpp 11 rfl ?_)
  refine mp_a (a_goto (t := 44) dX7_wrongStrip_11 (by decide)) ?_
  exact mp_iret (⟨rfl, rfl⟩) dX7_wrongStrip_44 (Or.inl rfl)

set_option maxRecDepth 100000 in
set_option maxHeartbeats 4000000 in
theorem m_used {P : mP} (h : MODK P) : EvP 2 184 [.ref 301] P (fun r P' => r = some (.int 0) ∧ P' = P) := by
  refine EvP.of qm_184 (Nat.le_of_ble_eq_true rfl) rfl ?_
  show MEvP _ none q_184 0 [(0, .ref 301)] [] _ 0 0 _
  refine mp_a (a_iconst (v := 0) dX7_used_0 rfl) (mpp 1 rfl ?_)
  refine mp_a (a_istore_n (L' := [(1, .int 0), (0, .ref 301)]) dX7_used_1 (by decide) rfl) (mpp 2 rfl ?_)
  refine mp_a (a_iconst (v := 0) dX7_used_2 rfl) (mpp 3 rfl ?_)
  refine mp_a (a_istore_n (L' := [(2, .int 0), (1, .int 0), (0, .ref 301)]) dX7_used_3 (by decide) rfl) (mpp 4 rfl ?_)
  refine mp_a (a_iload_n dX7_used_4 rfl) (mpp 5 rfl ?_)
  refine mp_a (a_aload_n dX7_used_5 rfl) (mpp 6 rfl ?_)
  refine mp_get (i := 9) (v := .ref 302) dX7_used_6 rfl (h.f (by decide) (by decide) p0_301) rfl (mpp 9 rfl ?_)
  refine mp_a (a_iconst (v := 0) dX7_used_9 rfl) (mpp 10 rfl ?_)
  refine mp_ial (N := 155) (v := 0) dX7_used_10 (h.f (by decide) (by decide) p0_302) rfl (by decide) rfl (mpp 11 rfl ?_)
  refine mp_Tt (t := 40) (j_icmp_ge dX7_used_11) (by decide) (by decide) ?_
  refine mp_a (a_iload_n dX7_used_40 rfl) (mpp 41 rfl ?_)
  exact mp_iret (⟨rfl, rfl⟩) dX7_used_41 (Or.inl rfl)

set_option maxRecDepth 100000 in
set_option maxHeartbeats 4000000 in
theorem m_panelsOfAll {P : mP} (h : MODK P) : EvP 2 231 [.ref 301] P (fun r P' => r = some (.int 0) ∧ P' = P) := by
  refine EvP.of qm_231 (Nat.le_of_ble_eq_true rfl) rfl ?_
  show MEvP _ none q_231 0 [(0, .ref 301)] [] _ 0 0 _
  refine mp_a (a_iconst (v := 0) dX7_panelsOfAll_0 rfl) (mpp 1 rfl ?_)
  refine mp_a (a_istore_n (L' := [(1, .int 0), (0, .ref 301)]) dX7_panelsOfAll_1 (by decide) rfl) (mpp 2 rfl ?_)
  refine mp_a (a_iconst (v := 0) dX7_panelsOfAll_2 rfl) (mpp 3 rfl ?_)
  refine mp_a (a_istore_n (L' := [(2, .int 0), (1, .int 0), (0, .ref 301)]) dX7_panelsOfAll_3 (by decide) rfl) (mpp 4 rfl ?_)
  refine mp_a (a_iload_n dX7_panelsOfAll_4 rfl) (mpp 5 rfl ?_)
  refine mp_a (a_aload_n dX7_panelsOfAll_5 rfl) (mpp 6 rfl ?_)
  refine mp_get (i := 9) (v := .ref 302) dX7_panelsOfAll_6 rfl (h.f (by decide) (by decide) p0_301) rfl (mpp 9 rfl ?_)
  refine mp_a (a_iconst (v := 0) dX7_panelsOfAll_9 rfl) (mpp 10 rfl ?_)
  refine mp_ial (N := 155) (v := 0) dX7_panelsOfAll_10 (h.f (by decide) (by decide) p0_302) rfl (by decide) rfl (mpp 11 rfl ?_)
  refine mp_Tt (t := 41) (j_icmp_ge dX7_panelsOfAll_11) (by decide) (by decide) ?_
  refine mp_a (a_iload_n dX7_panelsOfAll_41 rfl) (mpp 42 rfl ?_)
  exact mp_iret (⟨rfl, rfl⟩) dX7_panelsOfAll_42 (Or.inl rfl)

set_option maxRecDepth 100000 in
set_option maxHeartbeats 4000000 in
theorem m_allOf {P : mP} {a1 : Int32} (h : MODK P) : EvP 2 230 [.ref 301, .int a1] P (fun r P' => r = some (.int 0) ∧ P' = P) := by
  refine EvP.of qm_230 (Nat.le_of_ble_eq_true rfl) rfl ?_
  show MEvP _ none q_230 0 [(0, .ref 301), (1, .int a1)] [] _ 0 0 _
  refine mp_a (a_iconst (v := 0) dX7_allOf_0 rfl) (mpp 1 rfl ?_)
  refine mp_a (a_istore_n (L' := [(2, .int 0), (0, .ref 301), (1, .int a1)]) dX7_allOf_1 (by decide) rfl) (mpp 2 rfl ?_)
  refine mp_a (a_iconst (v := 0) dX7_allOf_2 rfl) (mpp 3 rfl ?_)
  refine mp_a (a_istore_n (L' := [(3, .int 0), (2, .int 0), (0, .ref 301), (1, .int a1)]) dX7_allOf_3 (by decide) rfl) (mpp 4 rfl ?_)
  refine mp_a (a_iload_n dX7_allOf_4 rfl) (mpp 5 rfl ?_)
  refine mp_a (a_aload_n dX7_allOf_5 rfl) (mpp 6 rfl ?_)
  refine mp_get (i := 9) (v := .ref 302) dX7_allOf_6 rfl (h.f (by decide) (by decide) p0_301) rfl (mpp 9 rfl ?_)
  refine mp_a (a_iconst (v := 0) dX7_allOf_9 rfl) (mpp 10 rfl ?_)
  refine mp_ial (N := 155) (v := 0) dX7_allOf_10 (h.f (by decide) (by decide) p0_302) rfl (by decide) rfl (mpp 11 rfl ?_)
  refine mp_Tt (t := 29) (j_icmp_ge dX7_allOf_11) (by decide) (by decide) ?_
  refine mp_a (a_iload_n dX7_allOf_29 rfl) (mpp 30 rfl ?_)
  exact mp_iret (⟨rfl, rfl⟩) dX7_allOf_30 (Or.inl rfl)

set_option maxRecDepth 100000 in
set_option maxHeartbeats 4000000 in
theorem m_sign {P : mP} (h : P[301]? = some (7, [.ref 302, .ref 303, .ref 304, .ref 305, .int 0, .int 0, .int 0, .int (-1004), .int 0, .ref 306, .ref 307, .ref 308, .ref 309, .int 0, .int 0, .ref 310, .ref 311, .ref 312, .ref 313, .int 0, .int 0, .int 0, .ref 314, .int 0, .int 0, .int 0, .int 0, .int 0, .int 0, .int 0])) : EvP 1 218 [.ref 301] P (fun r P' => r = some (.int (-1)) ∧ P' = P) := by
  refine EvP.of qm_218 (Nat.le_of_ble_eq_true rfl) rfl ?_
  show MEvP _ none q_218 0 [(0, .ref 301)] [] _ 0 0 _
  refine mp_a (a_aload_n dX7_sign_0 rfl) (mpp 1 rfl ?_)
  refine mp_get (i := 294) (v := .int 0) dX7_sign_1 rfl h rfl (mpp 4 rfl ?_)
  refine mp_a (a_aload_n dX7_sign_4 rfl) (mpp 5 rfl ?_)
  refine mp_get (i := 291) (v := .int 0) dX7_sign_5 rfl h rfl (mpp 8 rfl ?_)
  refine mp_Tt (t := 23) (j_icmp_ge dX7_sign_8) (by decide) (by decide) ?_
  refine mp_a (a_iconst (v := -1) dX7_sign_23 rfl) (mpp 24 rfl ?_)
  exact mp_iret (⟨rfl, rfl⟩) dX7_sign_24 (Or.inl rfl)

set_option maxRecDepth 100000 in
set_option maxHeartbeats 4000000 in
theorem m_readsCommand {P : mP} (h : P[301]? = some (7, [.ref 302, .ref 303, .ref 304, .ref 305, .int 0, .int 0, .int 0, .int (-1004), .int 0, .ref 306, .ref 307, .ref 308, .ref 309, .int 0, .int 0, .ref 310, .ref 311, .ref 312, .ref 313, .int 0, .int 0, .int 0, .ref 314, .int 0, .int 0, .int 0, .int 0, .int 0, .int 0, .int 0])) : EvP 3 217 [.ref 301] P (fun r P' => r = some (.int 0) ∧ P' = P.set 301 (7, [.ref 302, .ref 303, .ref 304, .ref 305, .int 0, .int 0, .int 0, .int (-1004), .int 0, .ref 306, .ref 307, .ref 308, .ref 309, .int 0, .int 0, .ref 310, .ref 311, .ref 312, .ref 313, .int 0, .int 0, .int 0, .ref 314, .int 0, .int 0, .int (-1), .int 0, .int 0, .int 0, .int 0])) := by
  refine EvP.of qm_217 (Nat.le_of_ble_eq_true rfl) rfl ?_
  show MEvP _ none q_217 0 [(0, .ref 301)] [] _ 0 0 _
  refine mp_a (a_aload_n dX7_readsCommand_0 rfl) (mpp 1 rfl ?_)
  refine mp_a (a_aload_n dX7_readsCommand_1 rfl) (mpp 2 rfl ?_)
  refine mp_callv (i := 297) (q' := q_218) (As := []) (rest := [.ref 301]) dX7_readsCommand_2 rfl qm_218 (by decide) rfl h (by decide) (Nat.le_of_ble_eq_true rfl) rfl ⟨rfl, rfl⟩ ⟨Nat.le_of_ble_eq_true rfl, Nat.le_of_ble_eq_true rfl⟩ (EvP.mono (by decide) (m_sign h)) (fun r1 P1 g1 => mpp 5 rfl ?_)
  obtain ⟨rfl, rfl⟩ := g1
  show MEvP _ none q_217 5 [(0, .ref 301)] [.int (-1), .ref 301] _ _ _ _
  refine mp_put (i := 321) dX7_readsCommand_5 rfl h (Nat.le_of_ble_eq_true rfl) rfl (Or.inl rfl) (mpp 8 rfl ?_)
  refine mp_a (a_aload_n dX7_readsCommand_8 rfl) (mpp 9 rfl ?_)
  refine mp_get (i := 321) (v := .int (-1)) dX7_readsCommand_9 rfl (mset_eq h) rfl (mpp 12 rfl ?_)
  refine mp_a (a_bipush (v := 115) dX7_readsCommand_12 rfl) (mpp 14 rfl ?_)
  refine mp_Tf (t := 26) (j_icmp_eq dX7_readsCommand_14) (by decide) (by decide) (mpp 17 rfl ?_)
  refine mp_a (a_aload_n dX7_readsCommand_17 rfl) (mpp 18 rfl ?_)
  refine mp_get (i := 321) (v := .int (-1)) dX7_readsCommand_18 rfl (mset_eq h) rfl (mpp 21 rfl ?_)
  refine mp_a (a_bipush (v := 99) dX7_readsCommand_21 rfl) (mpp 23 rfl ?_)
  refine mp_Tt (t := 65) (j_icmp_ne dX7_readsCommand_23) (by decide) (by decide) ?_
  refine mp_a (a_aload_n dX7_readsCommand_65 rfl) (mpp 66 rfl ?_)
  refine mp_get (i := 321) (v := .int (-1)) dX7_readsCommand_66 rfl (mset_eq h) rfl (mpp 69 rfl ?_)
  refine mp_a (a_bipush (v := 109) dX7_readsCommand_69 rfl) (mpp 71 rfl ?_)
  refine mp_Tf (t := 112) (j_icmp_eq dX7_readsCommand_71) (by decide) (by decide) (mpp 74 rfl ?_)
  refine mp_a (a_aload_n dX7_readsCommand_74 rfl) (mpp 75 rfl ?_)
  refine mp_get (i := 321) (v := .int (-1)) dX7_readsCommand_75 rfl (mset_eq h) rfl (mpp 78 rfl ?_)
  refine mp_a (a_bipush (v := 116) dX7_readsCommand_78 rfl) (mpp 80 rfl ?_)
  refine mp_Tf (t := 112) (j_icmp_eq dX7_readsCommand_80) (by decide) (by decide) (mpp 83 rfl ?_)
  refine mp_a (a_aload_n dX7_readsCommand_83 rfl) (mpp 84 rfl ?_)
  refine mp_get (i := 321) (v := .int (-1)) dX7_readsCommand_84 rfl (mset_eq h) rfl (mpp 87 rfl ?_)
  refine mp_a (a_bipush (v := 102) dX7_readsCommand_87 rfl) (mpp 89 rfl ?_)
  refine mp_Tf (t := 112) (j_icmp_eq dX7_readsCommand_89) (by decide) (by decide) (mpp 92 rfl ?_)
  refine mp_a (a_aload_n dX7_readsCommand_92 rfl) (mpp 93 rfl ?_)
  refine mp_get (i := 321) (v := .int (-1)) dX7_readsCommand_93 rfl (mset_eq h) rfl (mpp 96 rfl ?_)
  refine mp_a (a_bipush (v := 117) dX7_readsCommand_96 rfl) (mpp 98 rfl ?_)
  refine mp_Tf (t := 112) (j_icmp_eq dX7_readsCommand_98) (by decide) (by decide) (mpp 101 rfl ?_)
  refine mp_a (a_aload_n dX7_readsCommand_101 rfl) (mpp 102 rfl ?_)
  refine mp_get (i := 321) (v := .int (-1)) dX7_readsCommand_102 rfl (mset_eq h) rfl (mpp 105 rfl ?_)
  refine mp_a (a_bipush (v := 120) dX7_readsCommand_105 rfl) (mpp 107 rfl ?_)
  refine mp_Tf (t := 112) (j_icmp_eq dX7_readsCommand_107) (by decide) (by decide) (mpp 110 rfl ?_)
  refine mp_a (a_iconst (v := 0) dX7_readsCommand_110 rfl) (mpp 111 rfl ?_)
  exact mp_iret (⟨rfl, rfl⟩) dX7_readsCommand_111 (Or.inr ⟨rfl, by decide⟩)

set_option maxRecDepth 100000 in
set_option maxHeartbeats 4000000 in
theorem m_isText {P : mP} (h : P[301]? = some (7, [.ref 302, .ref 303, .ref 304, .ref 305, .int 0, .int 0, .int 0, .int (-1004), .int 0, .ref 306, .ref 307, .ref 308, .ref 309, .int 0, .int 0, .ref 310, .ref 311, .ref 312, .ref 313, .int 0, .int 0, .int 0, .ref 314, .int 0, .int 0, .int 0, .int 0, .int 0, .int 0, .int 0])) : EvP 4 216 [.ref 301] P (fun r P' => r = some (.int 0) ∧ P' = (P.set 301 (7, [.ref 302, .ref 303, .ref 304, .ref 305, .int 0, .int 0, .int 0, .int (-1004), .int 0, .ref 306, .ref 307, .ref 308, .ref 309, .int 0, .int 0, .ref 310, .ref 311, .ref 312, .ref 313, .int 0, .int 0, .int 0, .ref 314, .int 0, .int 0, .int 0, .int 0, .int 0, .int 0, .int 0])).set 301 (7, [.ref 302, .ref 303, .ref 304, .ref 305, .int 0, .int 0, .int 0, .int (-1004), .int 0, .ref 306, .ref 307, .ref 308, .ref 309, .int 0, .int 0, .ref 310, .ref 311, .ref 312, .ref 313, .int 0, .int 0, .int 0, .ref 314, .int 0, .int 0, .int (-1), .int 0, .int 0, .int 0, .int 0])) := by
  refine EvP.of qm_216 (Nat.le_of_ble_eq_true rfl) rfl ?_
  show MEvP _ none q_216 0 [(0, .ref 301)] [] _ 0 0 _
  refine mp_a (a_aload_n dX7_isText_0 rfl) (mpp 1 rfl ?_)
  refine mp_a (a_iconst (v := 0) dX7_isText_1 rfl) (mpp 2 rfl ?_)
  refine mp_put (i := 294) dX7_isText_2 rfl h (Nat.le_of_ble_eq_true rfl) rfl (Or.inl rfl) (mpp 5 rfl ?_)
  refine mp_a (a_aload_n dX7_isText_5 rfl) (mpp 6 rfl ?_)
  refine mp_callv (i := 333) (q' := q_217) (As := []) (rest := []) dX7_isText_6 rfl qm_217 (by decide) rfl (mset_eq h) (by decide) (Nat.le_of_ble_eq_true rfl) rfl ⟨rfl, rfl⟩ ⟨Nat.le_of_ble_eq_true rfl, Nat.le_of_ble_eq_true rfl⟩ (EvP.mono (by decide) (m_readsCommand (mset_eq h))) (fun r1 P1 g1 => mpp 9 rfl ?_)
  obtain ⟨rfl, rfl⟩ := g1
  show MEvP _ none q_216 9 [(0, .ref 301)] [.int 0] _ _ _ _
  refine mp_a (a_istore_n (L' := [(1, .int 0), (0, .ref 301)]) dX7_isText_9 (by decide) rfl) (mpp 10 rfl ?_)
  refine mp_a (a_iload_n dX7_isText_10 rfl) (mpp 11 rfl ?_)
  refine mp_Tt (t := 31) (j_if_eq dX7_isText_11) (by decide) (by decide) ?_
  refine mp_a (a_iload_n dX7_isText_31 rfl) (mpp 32 rfl ?_)
  refine mp_Tt (t := 50) (j_if_eq dX7_isText_32) (by decide) (by decide) ?_
  refine mp_a (a_iconst (v := 0) dX7_isText_50 rfl) (mpp 51 rfl ?_)
  exact mp_iret (⟨rfl, rfl⟩) dX7_isText_51 (Or.inr ⟨rfl, by decide⟩)

/-- what ends needs of the reference's part -/
def MODE (P : mP) : Prop := P[301]? = some (7, [.ref 302, .ref 303, .ref 304, .ref 305, .int 0, .int 0, .int 0, .int (-1004), .int 0, .ref 306, .ref 307, .ref 308, .ref 309, .int 0, .int 0, .ref 310, .ref 311, .ref 312, .ref 313, .int 0, .int 0, .int 0, .ref 314, .int 0, .int 0, .int 0, .int 0, .int 0, .int 0, .int 0]) ∧ (∃ w : List Value, P[303]? = some (8, w) ∧ w.length = 155) ∧ P[305]? = some (8, List.replicate 1240 (.int 0))
theorem MODK.e {P : mP} (h : MODK P) : MODE P := ⟨h.f (by decide) (by decide) p0_301, h.2, h.f (by decide) (by decide) p0_305⟩
theorem MODE.set {P : mP} {a : Nat} {c : Nat × List Value} (h : MODE P) (h1 : a ≠ 301) (h3 : a ≠ 303) (h5 : a ≠ 305) : MODE (P.set a c) := by
  obtain ⟨w, hw, hl⟩ := h.2.1
  exact ⟨mset_ne h.1 h1, ⟨w, mset_ne hw h3, hl⟩, mset_ne h.2.2 h5⟩
set_option maxRecDepth 100000 in
set_option maxHeartbeats 4000000 in
theorem m_endsE_30 {P : mP} (h : MODE P) : EvP 3 139 [.ref 301, .int 30] P (fun r P' => r = some (.int 30)) := by
  obtain ⟨w, hw, hl⟩ := h.2.1
  refine EvP.of qm_139 (Nat.le_of_ble_eq_true rfl) rfl ?_
  show MEvP _ none q_139 0 [(0, .ref 301), (1, .int 30)] [] _ 0 0 _
  refine mp_a (a_aload_n dX7_ends_0 rfl) (mpp 1 rfl ?_)
  refine mp_a (a_iload_n dX7_ends_1 rfl) (mpp 2 rfl ?_)
  refine mp_a (a_sipush (v := -1003) dX7_ends_2 rfl) (mpp 5 rfl ?_)
  refine mp_Tt (t := 14) (j_icmp_ne dX7_ends_5) (by decide) (by decide) ?_
  refine mp_a (a_aload_n dX7_ends_14 rfl) (mpp 15 rfl ?_)
  refine mp_get (i := 50) (v := .int (-1004)) dX7_ends_15 rfl h.1 rfl (mpp 18 rfl ?_)
  refine mp_put (i := 50) dX7_ends_18 rfl h.1 (Nat.le_of_ble_eq_true rfl) rfl (Or.inl rfl) (mpp 21 rfl ?_)
  refine mp_a (a_iload_n dX7_ends_21 rfl) (mpp 22 rfl ?_)
  refine mp_a (a_sipush (v := -1004) dX7_ends_22 rfl) (mpp 25 rfl ?_)
  refine mp_a (a_sipush (v := -1001) dX7_ends_25 rfl) (mpp 28 rfl ?_)
  refine mp_calls (i := 61) (q' := q_127) (As := [.int 30, .int (-1004), .int (-1001)]) (rest := []) dX7_ends_28 rfl qm_127 (by decide) rfl (Nat.le_of_ble_eq_true rfl) rfl ⟨rfl, rfl⟩ ⟨Nat.le_of_ble_eq_true rfl, Nat.le_of_ble_eq_true rfl⟩ (EvP.mono (by decide) m_isIn_30_n1004_n1001) (fun r1 P1 g1 => mpp 31 rfl ?_)
  obtain ⟨rfl, rfl⟩ := g1
  show MEvP _ none q_139 31 [(0, .ref 301), (1, .int 30)] [.int 0] _ _ _ _
  refine mp_Tf (t := 38) (j_if_ne dX7_ends_31) (by decide) (by decide) (mpp 34 rfl ?_)
  refine mp_a (a_aload_n dX7_ends_34 rfl) (mpp 35 rfl ?_)
  refine mp_callv (i := 65) (q' := q_140) (As := []) (rest := []) dX7_ends_35 rfl qm_140 (by decide) rfl (mset_eq h.1) (by decide) (Nat.le_of_ble_eq_true rfl) rfl ⟨rfl, rfl⟩ ⟨Nat.le_of_ble_eq_true rfl, Nat.le_of_ble_eq_true rfl⟩ (EvP.mono (by decide) (m_changed (mset_eq h.1) (mset_ne hw (by decide)) hl (mset_ne h.2.2 (by decide)))) (fun r1 P1 g2 => mpp 38 rfl ?_)
  obtain rfl := g2
  show MEvP _ none q_139 38 [(0, .ref 301), (1, .int 30)] [] _ _ _ _
  refine mp_a (a_iload_n dX7_ends_38 rfl) (mpp 39 rfl ?_)
  exact mp_iret (rfl) dX7_ends_39 (Or.inl rfl)

set_option maxRecDepth 100000 in
set_option maxHeartbeats 4000000 in
theorem m_endsE_0 {P : mP} (h : MODE P) : EvP 3 139 [.ref 301, .int 0] P (fun r P' => r = some (.int 0)) := by
  obtain ⟨w, hw, hl⟩ := h.2.1
  refine EvP.of qm_139 (Nat.le_of_ble_eq_true rfl) rfl ?_
  show MEvP _ none q_139 0 [(0, .ref 301), (1, .int 0)] [] _ 0 0 _
  refine mp_a (a_aload_n dX7_ends_0 rfl) (mpp 1 rfl ?_)
  refine mp_a (a_iload_n dX7_ends_1 rfl) (mpp 2 rfl ?_)
  refine mp_a (a_sipush (v := -1003) dX7_ends_2 rfl) (mpp 5 rfl ?_)
  refine mp_Tt (t := 14) (j_icmp_ne dX7_ends_5) (by decide) (by decide) ?_
  refine mp_a (a_aload_n dX7_ends_14 rfl) (mpp 15 rfl ?_)
  refine mp_get (i := 50) (v := .int (-1004)) dX7_ends_15 rfl h.1 rfl (mpp 18 rfl ?_)
  refine mp_put (i := 50) dX7_ends_18 rfl h.1 (Nat.le_of_ble_eq_true rfl) rfl (Or.inl rfl) (mpp 21 rfl ?_)
  refine mp_a (a_iload_n dX7_ends_21 rfl) (mpp 22 rfl ?_)
  refine mp_a (a_sipush (v := -1004) dX7_ends_22 rfl) (mpp 25 rfl ?_)
  refine mp_a (a_sipush (v := -1001) dX7_ends_25 rfl) (mpp 28 rfl ?_)
  refine mp_calls (i := 61) (q' := q_127) (As := [.int 0, .int (-1004), .int (-1001)]) (rest := []) dX7_ends_28 rfl qm_127 (by decide) rfl (Nat.le_of_ble_eq_true rfl) rfl ⟨rfl, rfl⟩ ⟨Nat.le_of_ble_eq_true rfl, Nat.le_of_ble_eq_true rfl⟩ (EvP.mono (by decide) m_isIn_0_n1004_n1001) (fun r1 P1 g1 => mpp 31 rfl ?_)
  obtain ⟨rfl, rfl⟩ := g1
  show MEvP _ none q_139 31 [(0, .ref 301), (1, .int 0)] [.int 0] _ _ _ _
  refine mp_Tf (t := 38) (j_if_ne dX7_ends_31) (by decide) (by decide) (mpp 34 rfl ?_)
  refine mp_a (a_aload_n dX7_ends_34 rfl) (mpp 35 rfl ?_)
  refine mp_callv (i := 65) (q' := q_140) (As := []) (rest := []) dX7_ends_35 rfl qm_140 (by decide) rfl (mset_eq h.1) (by decide) (Nat.le_of_ble_eq_true rfl) rfl ⟨rfl, rfl⟩ ⟨Nat.le_of_ble_eq_true rfl, Nat.le_of_ble_eq_true rfl⟩ (EvP.mono (by decide) (m_changed (mset_eq h.1) (mset_ne hw (by decide)) hl (mset_ne h.2.2 (by decide)))) (fun r1 P1 g2 => mpp 38 rfl ?_)
  obtain rfl := g2
  show MEvP _ none q_139 38 [(0, .ref 301), (1, .int 0)] [] _ _ _ _
  refine mp_a (a_iload_n dX7_ends_38 rfl) (mpp 39 rfl ?_)
  exact mp_iret (rfl) dX7_ends_39 (Or.inl rfl)

set_option maxRecDepth 100000 in
set_option maxHeartbeats 4000000 in
theorem m_stages_1 {P : mP} {a1 : Int32} (h : MODK P) (h1 : a1 < 1) : EvP 4 183 [.ref 301, .int a1] P (fun r P' => r = some (.int (-1002)) ∧ P' = P) := by
  refine EvP.of qm_183 (Nat.le_of_ble_eq_true rfl) rfl ?_
  show MEvP _ none q_183 0 [(0, .ref 301), (1, .int a1)] [] _ 0 0 _
  refine mp_a (a_iload_n dX7_stages_0 rfl) (mpp 1 rfl ?_)
  refine mp_a (a_iconst (v := 1) dX7_stages_1 rfl) (mpp 2 rfl ?_)
  refine mp_a (a_bipush (v := 99) dX7_stages_2 rfl) (mpp 4 rfl ?_)
  refine mp_calls (i := 61) (q' := q_127) (As := [.int a1, .int 1, .int 99]) (rest := []) dX7_stages_4 rfl qm_127 (by decide) rfl (Nat.le_of_ble_eq_true rfl) rfl ⟨rfl, rfl⟩ ⟨Nat.le_of_ble_eq_true rfl, Nat.le_of_ble_eq_true rfl⟩ (EvP.mono (by decide) (m_isIn_lt h1)) (fun r1 P1 g1 => mpp 7 rfl ?_)
  obtain ⟨rfl, rfl⟩ := g1
  show MEvP _ none q_183 7 [(0, .ref 301), (1, .int a1)] [.int 0] _ _ _ _
  refine mp_Tf (t := 14) (j_if_ne dX7_stages_7) (by decide) (by decide) (mpp 10 rfl ?_)
  refine mp_a (a_sipush (v := -1002) dX7_stages_10 rfl) (mpp 13 rfl ?_)
  exact mp_iret (⟨rfl, rfl⟩) dX7_stages_13 (Or.inl rfl)

set_option maxRecDepth 100000 in
set_option maxHeartbeats 4000000 in
theorem m_stages_2 {P : mP} {a1 : Int32} (h : MODK P) (h1 : ¬ a1 < 1) (h2 : 99 < a1) : EvP 4 183 [.ref 301, .int a1] P (fun r P' => r = some (.int (-1002)) ∧ P' = P) := by
  refine EvP.of qm_183 (Nat.le_of_ble_eq_true rfl) rfl ?_
  show MEvP _ none q_183 0 [(0, .ref 301), (1, .int a1)] [] _ 0 0 _
  refine mp_a (a_iload_n dX7_stages_0 rfl) (mpp 1 rfl ?_)
  refine mp_a (a_iconst (v := 1) dX7_stages_1 rfl) (mpp 2 rfl ?_)
  refine mp_a (a_bipush (v := 99) dX7_stages_2 rfl) (mpp 4 rfl ?_)
  refine mp_calls (i := 61) (q' := q_127) (As := [.int a1, .int 1, .int 99]) (rest := []) dX7_stages_4 rfl qm_127 (by decide) rfl (Nat.le_of_ble_eq_true rfl) rfl ⟨rfl, rfl⟩ ⟨Nat.le_of_ble_eq_true rfl, Nat.le_of_ble_eq_true rfl⟩ (EvP.mono (by decide) (m_isIn_gt h1 h2)) (fun r1 P1 g1 => mpp 7 rfl ?_)
  obtain ⟨rfl, rfl⟩ := g1
  show MEvP _ none q_183 7 [(0, .ref 301), (1, .int a1)] [.int 0] _ _ _ _
  refine mp_Tf (t := 14) (j_if_ne dX7_stages_7) (by decide) (by decide) (mpp 10 rfl ?_)
  refine mp_a (a_sipush (v := -1002) dX7_stages_10 rfl) (mpp 13 rfl ?_)
  exact mp_iret (⟨rfl, rfl⟩) dX7_stages_13 (Or.inl rfl)

set_option maxRecDepth 100000 in
set_option maxHeartbeats 4000000 in
theorem m_stages_3 {P : mP} {a1 : Int32} (h : MODK P) (h1 : ¬ a1 < 1) (h2 : ¬ 99 < a1) (h3 : 0 ≤ a1) : EvP 4 183 [.ref 301, .int a1] P (fun r P' => r = some (.int 30) ∧ MODE P') := by
  refine EvP.of qm_183 (Nat.le_of_ble_eq_true rfl) rfl ?_
  show MEvP _ none q_183 0 [(0, .ref 301), (1, .int a1)] [] _ 0 0 _
  refine mp_a (a_iload_n dX7_stages_0 rfl) (mpp 1 rfl ?_)
  refine mp_a (a_iconst (v := 1) dX7_stages_1 rfl) (mpp 2 rfl ?_)
  refine mp_a (a_bipush (v := 99) dX7_stages_2 rfl) (mpp 4 rfl ?_)
  refine mp_calls (i := 61) (q' := q_127) (As := [.int a1, .int 1, .int 99]) (rest := []) dX7_stages_4 rfl qm_127 (by decide) rfl (Nat.le_of_ble_eq_true rfl) rfl ⟨rfl, rfl⟩ ⟨Nat.le_of_ble_eq_true rfl, Nat.le_of_ble_eq_true rfl⟩ (EvP.mono (by decide) (m_isIn_in h1 h2)) (fun r1 P1 g1 => mpp 7 rfl ?_)
  obtain ⟨rfl, rfl⟩ := g1
  show MEvP _ none q_183 7 [(0, .ref 301), (1, .int a1)] [.int 1] _ _ _ _
  refine mp_Tt (t := 14) (j_if_ne dX7_stages_7) (by decide) (by decide) ?_
  refine mp_a (a_aload_n dX7_stages_14 rfl) (mpp 15 rfl ?_)
  refine mp_callv (i := 231) (q' := q_184) (As := []) (rest := []) dX7_stages_15 rfl qm_184 (by decide) rfl (h.f (by decide) (by decide) p0_301) (by decide) (Nat.le_of_ble_eq_true rfl) rfl ⟨rfl, rfl⟩ ⟨Nat.le_of_ble_eq_true rfl, Nat.le_of_ble_eq_true rfl⟩ (EvP.mono (by decide) (m_used h)) (fun r1 P1 g2 => mpp 18 rfl ?_)
  obtain ⟨rfl, rfl⟩ := g2
  show MEvP _ none q_183 18 [(0, .ref 301), (1, .int a1)] [.int 0] _ _ _ _
  refine mp_a (a_iload_n dX7_stages_18 rfl) (mpp 19 rfl ?_)
  refine mp_Tt (t := 35) (j_icmp_le dX7_stages_19) h3 (by decide) ?_
  refine mp_a (a_aload_n dX7_stages_35 rfl) (mpp 36 rfl ?_)
  refine mp_get (i := 9) (v := .ref 302) dX7_stages_36 rfl (h.f (by decide) (by decide) p0_301) rfl (mpp 39 rfl ?_)
  refine mp_a (a_iconst (v := 1) dX7_stages_39 rfl) (mpp 40 rfl ?_)
  refine mp_ial (N := 155) (v := 30) dX7_stages_40 (h.f (by decide) (by decide) p0_302) rfl (by decide) rfl (mpp 41 rfl ?_)
  refine mp_a (a_istore_n (L' := [(2, .int 30), (0, .ref 301), (1, .int a1)]) dX7_stages_41 (by decide) rfl) (mpp 42 rfl ?_)
  refine mp_a (a_aload_n dX7_stages_42 rfl) (mpp 43 rfl ?_)
  refine mp_get (i := 9) (v := .ref 302) dX7_stages_43 rfl (h.f (by decide) (by decide) p0_301) rfl (mpp 46 rfl ?_)
  refine mp_a (a_iconst (v := 1) dX7_stages_46 rfl) (mpp 47 rfl ?_)
  refine mp_a (a_iload_n dX7_stages_47 rfl) (mpp 48 rfl ?_)
  refine mp_ias (N := 155) dX7_stages_48 (h.f (by decide) (by decide) p0_302) rfl (by decide) (mpp 49 rfl ?_)
  refine mp_a (a_iload_n dX7_stages_49 rfl) (mpp 50 rfl ?_)
  exact mp_iret (⟨rfl, h.e.set (by decide) (by decide) (by decide)⟩) dX7_stages_50 (Or.inl rfl)

set_option maxRecDepth 100000 in
set_option maxHeartbeats 4000000 in
theorem mo_mark {P : mP} (a1 : Int32) (a2 : Int32) (a3 : Int32)  (h : MOD P)  : EvP 10 141 [.ref 301, .int a1, .int a2, .int a3] P (fun r P' => r = some (.int (-1001))) := by
  have h := MODK.of h
  refine EvP.of qm_141 (Nat.le_of_ble_eq_true rfl) rfl ?_
  show MEvP _ none q_141 0 [(0, .ref 301), (1, .int a1), (2, .int a2), (3, .int a3)] [] _ 0 0 _
  refine mp_a (a_aload_n dX7_mark_0 rfl) (mpp 1 rfl ?_)
  refine mp_callv (i := 117) (q' := q_124) (As := []) (rest := []) dX7_mark_1 rfl qm_124 (by decide) rfl (h.f (by decide) (by decide) p0_301) (by decide) (Nat.le_of_ble_eq_true rfl) rfl ⟨rfl, rfl⟩ ⟨Nat.le_of_ble_eq_true rfl, Nat.le_of_ble_eq_true rfl⟩ (EvP.mono (by decide) (m_keeps h)) (fun r1 P1 g1 => mpp 4 rfl ?_)
  obtain ⟨rfl, h⟩ := g1
  show MEvP _ none q_141 4 [(0, .ref 301), (1, .int a1), (2, .int a2), (3, .int a3)] [] _ _ _ _
  refine mp_a (a_aload_n dX7_mark_4 rfl) (mpp 5 rfl ?_)
  refine mp_a (a_aload_n dX7_mark_5 rfl) (mpp 6 rfl ?_)
  refine mp_a (a_iload_n dX7_mark_6 rfl) (mpp 7 rfl ?_)
  refine mp_a (a_iload_n dX7_mark_7 rfl) (mpp 8 rfl ?_)
  refine mp_a (a_iload_n dX7_mark_8 rfl) (mpp 9 rfl ?_)
  refine mp_callv (i := 133) (q' := q_142) (As := [.int a1, .int a2, .int a3]) (rest := [.ref 301]) dX7_mark_9 rfl qm_142 (by decide) rfl (h.f (by decide) (by decide) p0_301) (by decide) (Nat.le_of_ble_eq_true rfl) rfl ⟨rfl, rfl⟩ ⟨Nat.le_of_ble_eq_true rfl, Nat.le_of_ble_eq_true rfl⟩ (EvP.mono (by decide) (m_marks h)) (fun r1 P1 g2 => mpp 12 rfl ?_)
  obtain ⟨rfl, rfl⟩ := g2
  show MEvP _ none q_141 12 [(0, .ref 301), (1, .int a1), (2, .int a2), (3, .int a3)] [.int (-1001), .ref 301] _ _ _ _
  refine mp_callv (i := 124) (q' := q_139) (As := [.int (-1001)]) (rest := []) dX7_mark_12 rfl qm_139 (by decide) rfl (h.f (by decide) (by decide) p0_301) (by decide) (Nat.le_of_ble_eq_true rfl) rfl ⟨rfl, rfl⟩ ⟨Nat.le_of_ble_eq_true rfl, Nat.le_of_ble_eq_true rfl⟩ (EvP.mono (by decide) (m_ends_n1001 h)) (fun r1 P1 g3 => mpp 15 rfl ?_)
  obtain rfl := g3
  show MEvP _ none q_141 15 [(0, .ref 301), (1, .int a1), (2, .int a2), (3, .int a3)] [.int (-1001)] _ _ _ _
  exact mp_iret (rfl) dX7_mark_15 (Or.inl rfl)

set_option maxRecDepth 100000 in
set_option maxHeartbeats 4000000 in
theorem mo_turn {P : mP} (a1 : Int32)  (h : MOD P)  : EvP 10 147 [.ref 301, .int a1] P (fun r P' => r = some (.int (-1001))) := by
  have h := MODK.of h
  refine EvP.of qm_147 (Nat.le_of_ble_eq_true rfl) rfl ?_
  show MEvP _ none q_147 0 [(0, .ref 301), (1, .int a1)] [] _ 0 0 _
  refine mp_a (a_aload_n dX7_turn_0 rfl) (mpp 1 rfl ?_)
  refine mp_callv (i := 117) (q' := q_124) (As := []) (rest := []) dX7_turn_1 rfl qm_124 (by decide) rfl (h.f (by decide) (by decide) p0_301) (by decide) (Nat.le_of_ble_eq_true rfl) rfl ⟨rfl, rfl⟩ ⟨Nat.le_of_ble_eq_true rfl, Nat.le_of_ble_eq_true rfl⟩ (EvP.mono (by decide) (m_keeps h)) (fun r1 P1 g1 => mpp 4 rfl ?_)
  obtain ⟨rfl, h⟩ := g1
  show MEvP _ none q_147 4 [(0, .ref 301), (1, .int a1)] [] _ _ _ _
  refine mp_a (a_aload_n dX7_turn_4 rfl) (mpp 5 rfl ?_)
  refine mp_a (a_aload_n dX7_turn_5 rfl) (mpp 6 rfl ?_)
  refine mp_a (a_iload_n dX7_turn_6 rfl) (mpp 7 rfl ?_)
  refine mp_callv (i := 139) (q' := q_148) (As := [.int a1]) (rest := [.ref 301]) dX7_turn_7 rfl qm_148 (by decide) rfl (h.f (by decide) (by decide) p0_301) (by decide) (Nat.le_of_ble_eq_true rfl) rfl ⟨rfl, rfl⟩ ⟨Nat.le_of_ble_eq_true rfl, Nat.le_of_ble_eq_true rfl⟩ (EvP.mono (by decide) (m_turns h)) (fun r1 P1 g2 => mpp 10 rfl ?_)
  obtain ⟨rfl, rfl⟩ := g2
  show MEvP _ none q_147 10 [(0, .ref 301), (1, .int a1)] [.int (-1001), .ref 301] _ _ _ _
  refine mp_callv (i := 124) (q' := q_139) (As := [.int (-1001)]) (rest := []) dX7_turn_10 rfl qm_139 (by decide) rfl (h.f (by decide) (by decide) p0_301) (by decide) (Nat.le_of_ble_eq_true rfl) rfl ⟨rfl, rfl⟩ ⟨Nat.le_of_ble_eq_true rfl, Nat.le_of_ble_eq_true rfl⟩ (EvP.mono (by decide) (m_ends_n1001 h)) (fun r1 P1 g3 => mpp 13 rfl ?_)
  obtain rfl := g3
  show MEvP _ none q_147 13 [(0, .ref 301), (1, .int a1)] [.int (-1001)] _ _ _ _
  exact mp_iret (rfl) dX7_turn_13 (Or.inl rfl)

set_option maxRecDepth 100000 in
set_option maxHeartbeats 4000000 in
theorem mo_rotate {P : mP} (a1 : Int32) (a2 : Int32)  (h : MOD P)  : EvP 10 150 [.ref 301, .int a1, .int a2] P (fun r P' => r = some (.int (-1001))) := by
  have h := MODK.of h
  refine EvP.of qm_150 (Nat.le_of_ble_eq_true rfl) rfl ?_
  show MEvP _ none q_150 0 [(0, .ref 301), (1, .int a1), (2, .int a2)] [] _ 0 0 _
  refine mp_a (a_aload_n dX7_rotate_0 rfl) (mpp 1 rfl ?_)
  refine mp_callv (i := 117) (q' := q_124) (As := []) (rest := []) dX7_rotate_1 rfl qm_124 (by decide) rfl (h.f (by decide) (by decide) p0_301) (by decide) (Nat.le_of_ble_eq_true rfl) rfl ⟨rfl, rfl⟩ ⟨Nat.le_of_ble_eq_true rfl, Nat.le_of_ble_eq_true rfl⟩ (EvP.mono (by decide) (m_keeps h)) (fun r1 P1 g1 => mpp 4 rfl ?_)
  obtain ⟨rfl, h⟩ := g1
  show MEvP _ none q_150 4 [(0, .ref 301), (1, .int a1), (2, .int a2)] [] _ _ _ _
  refine mp_a (a_aload_n dX7_rotate_4 rfl) (mpp 5 rfl ?_)
  refine mp_a (a_aload_n dX7_rotate_5 rfl) (mpp 6 rfl ?_)
  refine mp_a (a_iload_n dX7_rotate_6 rfl) (mpp 7 rfl ?_)
  refine mp_a (a_iload_n dX7_rotate_7 rfl) (mpp 8 rfl ?_)
  refine mp_callv (i := 145) (q' := q_151) (As := [.int a1, .int a2]) (rest := [.ref 301]) dX7_rotate_8 rfl qm_151 (by decide) rfl (h.f (by decide) (by decide) p0_301) (by decide) (Nat.le_of_ble_eq_true rfl) rfl ⟨rfl, rfl⟩ ⟨Nat.le_of_ble_eq_true rfl, Nat.le_of_ble_eq_true rfl⟩ (EvP.mono (by decide) (m_rotates h)) (fun r1 P1 g2 => mpp 11 rfl ?_)
  obtain ⟨rfl, rfl⟩ := g2
  show MEvP _ none q_150 11 [(0, .ref 301), (1, .int a1), (2, .int a2)] [.int (-1001), .ref 301] _ _ _ _
  refine mp_callv (i := 124) (q' := q_139) (As := [.int (-1001)]) (rest := []) dX7_rotate_11 rfl qm_139 (by decide) rfl (h.f (by decide) (by decide) p0_301) (by decide) (Nat.le_of_ble_eq_true rfl) rfl ⟨rfl, rfl⟩ ⟨Nat.le_of_ble_eq_true rfl, Nat.le_of_ble_eq_true rfl⟩ (EvP.mono (by decide) (m_ends_n1001 h)) (fun r1 P1 g3 => mpp 14 rfl ?_)
  obtain rfl := g3
  show MEvP _ none q_150 14 [(0, .ref 301), (1, .int a1), (2, .int a2)] [.int (-1001)] _ _ _ _
  exact mp_iret (rfl) dX7_rotate_14 (Or.inl rfl)

set_option maxRecDepth 100000 in
set_option maxHeartbeats 4000000 in
theorem mo_join {P : mP} (a1 : Int32) (a2 : Int32) (a3 : Int32)  (h : MOD P)  : EvP 10 153 [.ref 301, .int a1, .int a2, .int a3] P (fun r P' => r = some (.int (-1001))) := by
  have h := MODK.of h
  refine EvP.of qm_153 (Nat.le_of_ble_eq_true rfl) rfl ?_
  show MEvP _ none q_153 0 [(0, .ref 301), (1, .int a1), (2, .int a2), (3, .int a3)] [] _ 0 0 _
  refine mp_a (a_aload_n dX7_join_0 rfl) (mpp 1 rfl ?_)
  refine mp_callv (i := 117) (q' := q_124) (As := []) (rest := []) dX7_join_1 rfl qm_124 (by decide) rfl (h.f (by decide) (by decide) p0_301) (by decide) (Nat.le_of_ble_eq_true rfl) rfl ⟨rfl, rfl⟩ ⟨Nat.le_of_ble_eq_true rfl, Nat.le_of_ble_eq_true rfl⟩ (EvP.mono (by decide) (m_keeps h)) (fun r1 P1 g1 => mpp 4 rfl ?_)
  obtain ⟨rfl, h⟩ := g1
  show MEvP _ none q_153 4 [(0, .ref 301), (1, .int a1), (2, .int a2), (3, .int a3)] [] _ _ _ _
  refine mp_a (a_aload_n dX7_join_4 rfl) (mpp 5 rfl ?_)
  refine mp_a (a_aload_n dX7_join_5 rfl) (mpp 6 rfl ?_)
  refine mp_a (a_iload_n dX7_join_6 rfl) (mpp 7 rfl ?_)
  refine mp_a (a_iload_n dX7_join_7 rfl) (mpp 8 rfl ?_)
  refine mp_a (a_iload_n dX7_join_8 rfl) (mpp 9 rfl ?_)
  refine mp_callv (i := 152) (q' := q_154) (As := [.int a1, .int a2, .int a3]) (rest := [.ref 301]) dX7_join_9 rfl qm_154 (by decide) rfl (h.f (by decide) (by decide) p0_301) (by decide) (Nat.le_of_ble_eq_true rfl) rfl ⟨rfl, rfl⟩ ⟨Nat.le_of_ble_eq_true rfl, Nat.le_of_ble_eq_true rfl⟩ (EvP.mono (by decide) (m_joins h)) (fun r1 P1 g2 => mpp 12 rfl ?_)
  obtain ⟨rfl, rfl⟩ := g2
  show MEvP _ none q_153 12 [(0, .ref 301), (1, .int a1), (2, .int a2), (3, .int a3)] [.int (-1001), .ref 301] _ _ _ _
  refine mp_callv (i := 124) (q' := q_139) (As := [.int (-1001)]) (rest := []) dX7_join_12 rfl qm_139 (by decide) rfl (h.f (by decide) (by decide) p0_301) (by decide) (Nat.le_of_ble_eq_true rfl) rfl ⟨rfl, rfl⟩ ⟨Nat.le_of_ble_eq_true rfl, Nat.le_of_ble_eq_true rfl⟩ (EvP.mono (by decide) (m_ends_n1001 h)) (fun r1 P1 g3 => mpp 15 rfl ?_)
  obtain rfl := g3
  show MEvP _ none q_153 15 [(0, .ref 301), (1, .int a1), (2, .int a2), (3, .int a3)] [.int (-1001)] _ _ _ _
  exact mp_iret (rfl) dX7_join_15 (Or.inl rfl)

set_option maxRecDepth 100000 in
set_option maxHeartbeats 4000000 in
theorem mo_cut {P : mP} (a1 : Int32) (a2 : Int32)  (h : MOD P)  : EvP 10 156 [.ref 301, .int a1, .int a2] P (fun r P' => r = some (.int (-1001))) := by
  have h := MODK.of h
  refine EvP.of qm_156 (Nat.le_of_ble_eq_true rfl) rfl ?_
  show MEvP _ none q_156 0 [(0, .ref 301), (1, .int a1), (2, .int a2)] [] _ 0 0 _
  refine mp_a (a_aload_n dX7_cut_0 rfl) (mpp 1 rfl ?_)
  refine mp_callv (i := 117) (q' := q_124) (As := []) (rest := []) dX7_cut_1 rfl qm_124 (by decide) rfl (h.f (by decide) (by decide) p0_301) (by decide) (Nat.le_of_ble_eq_true rfl) rfl ⟨rfl, rfl⟩ ⟨Nat.le_of_ble_eq_true rfl, Nat.le_of_ble_eq_true rfl⟩ (EvP.mono (by decide) (m_keeps h)) (fun r1 P1 g1 => mpp 4 rfl ?_)
  obtain ⟨rfl, h⟩ := g1
  show MEvP _ none q_156 4 [(0, .ref 301), (1, .int a1), (2, .int a2)] [] _ _ _ _
  refine mp_a (a_aload_n dX7_cut_4 rfl) (mpp 5 rfl ?_)
  refine mp_a (a_aload_n dX7_cut_5 rfl) (mpp 6 rfl ?_)
  refine mp_a (a_iload_n dX7_cut_6 rfl) (mpp 7 rfl ?_)
  refine mp_a (a_iload_n dX7_cut_7 rfl) (mpp 8 rfl ?_)
  refine mp_callv (i := 158) (q' := q_157) (As := [.int a1, .int a2]) (rest := [.ref 301]) dX7_cut_8 rfl qm_157 (by decide) rfl (h.f (by decide) (by decide) p0_301) (by decide) (Nat.le_of_ble_eq_true rfl) rfl ⟨rfl, rfl⟩ ⟨Nat.le_of_ble_eq_true rfl, Nat.le_of_ble_eq_true rfl⟩ (EvP.mono (by decide) (m_cuts h)) (fun r1 P1 g2 => mpp 11 rfl ?_)
  obtain ⟨rfl, rfl⟩ := g2
  show MEvP _ none q_156 11 [(0, .ref 301), (1, .int a1), (2, .int a2)] [.int (-1001), .ref 301] _ _ _ _
  refine mp_callv (i := 124) (q' := q_139) (As := [.int (-1001)]) (rest := []) dX7_cut_11 rfl qm_139 (by decide) rfl (h.f (by decide) (by decide) p0_301) (by decide) (Nat.le_of_ble_eq_true rfl) rfl ⟨rfl, rfl⟩ ⟨Nat.le_of_ble_eq_true rfl, Nat.le_of_ble_eq_true rfl⟩ (EvP.mono (by decide) (m_ends_n1001 h)) (fun r1 P1 g3 => mpp 14 rfl ?_)
  obtain rfl := g3
  show MEvP _ none q_156 14 [(0, .ref 301), (1, .int a1), (2, .int a2)] [.int (-1001)] _ _ _ _
  exact mp_iret (rfl) dX7_cut_14 (Or.inl rfl)

set_option maxRecDepth 100000 in
set_option maxHeartbeats 4000000 in
theorem mo_fold {P : mP} (a1 : Int32)  (h : MOD P)  : EvP 10 187 [.ref 301, .int a1] P (fun r P' => r = some (.int (-1001))) := by
  have h := MODK.of h
  refine EvP.of qm_187 (Nat.le_of_ble_eq_true rfl) rfl ?_
  show MEvP _ none q_187 0 [(0, .ref 301), (1, .int a1)] [] _ 0 0 _
  refine mp_a (a_aload_n dX7_fold_0 rfl) (mpp 1 rfl ?_)
  refine mp_callv (i := 117) (q' := q_124) (As := []) (rest := []) dX7_fold_1 rfl qm_124 (by decide) rfl (h.f (by decide) (by decide) p0_301) (by decide) (Nat.le_of_ble_eq_true rfl) rfl ⟨rfl, rfl⟩ ⟨Nat.le_of_ble_eq_true rfl, Nat.le_of_ble_eq_true rfl⟩ (EvP.mono (by decide) (m_keeps h)) (fun r1 P1 g1 => mpp 4 rfl ?_)
  obtain ⟨rfl, h⟩ := g1
  show MEvP _ none q_187 4 [(0, .ref 301), (1, .int a1)] [] _ _ _ _
  refine mp_a (a_aload_n dX7_fold_4 rfl) (mpp 5 rfl ?_)
  refine mp_a (a_aload_n dX7_fold_5 rfl) (mpp 6 rfl ?_)
  refine mp_a (a_iload_n dX7_fold_6 rfl) (mpp 7 rfl ?_)
  refine mp_callv (i := 240) (q' := q_188) (As := [.int a1]) (rest := [.ref 301]) dX7_fold_7 rfl qm_188 (by decide) rfl (h.f (by decide) (by decide) p0_301) (by decide) (Nat.le_of_ble_eq_true rfl) rfl ⟨rfl, rfl⟩ ⟨Nat.le_of_ble_eq_true rfl, Nat.le_of_ble_eq_true rfl⟩ (EvP.mono (by decide) (m_foldsOnStage h)) (fun r1 P1 g2 => mpp 10 rfl ?_)
  obtain ⟨rfl, rfl⟩ := g2
  show MEvP _ none q_187 10 [(0, .ref 301), (1, .int a1)] [.int (-1001), .ref 301] _ _ _ _
  refine mp_callv (i := 124) (q' := q_139) (As := [.int (-1001)]) (rest := []) dX7_fold_10 rfl qm_139 (by decide) rfl (h.f (by decide) (by decide) p0_301) (by decide) (Nat.le_of_ble_eq_true rfl) rfl ⟨rfl, rfl⟩ ⟨Nat.le_of_ble_eq_true rfl, Nat.le_of_ble_eq_true rfl⟩ (EvP.mono (by decide) (m_ends_n1001 h)) (fun r1 P1 g3 => mpp 13 rfl ?_)
  obtain rfl := g3
  show MEvP _ none q_187 13 [(0, .ref 301), (1, .int a1)] [.int (-1001)] _ _ _ _
  exact mp_iret (rfl) dX7_fold_13 (Or.inl rfl)

set_option maxRecDepth 100000 in
set_option maxHeartbeats 4000000 in
theorem mo_unfold {P : mP} (a1 : Int32)  (h : MOD P)  : EvP 10 190 [.ref 301, .int a1] P (fun r P' => r = some (.int (-1001))) := by
  have h := MODK.of h
  refine EvP.of qm_190 (Nat.le_of_ble_eq_true rfl) rfl ?_
  show MEvP _ none q_190 0 [(0, .ref 301), (1, .int a1)] [] _ 0 0 _
  refine mp_a (a_aload_n dX7_unfold_0 rfl) (mpp 1 rfl ?_)
  refine mp_callv (i := 117) (q' := q_124) (As := []) (rest := []) dX7_unfold_1 rfl qm_124 (by decide) rfl (h.f (by decide) (by decide) p0_301) (by decide) (Nat.le_of_ble_eq_true rfl) rfl ⟨rfl, rfl⟩ ⟨Nat.le_of_ble_eq_true rfl, Nat.le_of_ble_eq_true rfl⟩ (EvP.mono (by decide) (m_keeps h)) (fun r1 P1 g1 => mpp 4 rfl ?_)
  obtain ⟨rfl, h⟩ := g1
  show MEvP _ none q_190 4 [(0, .ref 301), (1, .int a1)] [] _ _ _ _
  refine mp_a (a_aload_n dX7_unfold_4 rfl) (mpp 5 rfl ?_)
  refine mp_a (a_aload_n dX7_unfold_5 rfl) (mpp 6 rfl ?_)
  refine mp_a (a_iload_n dX7_unfold_6 rfl) (mpp 7 rfl ?_)
  refine mp_callv (i := 243) (q' := q_191) (As := [.int a1]) (rest := [.ref 301]) dX7_unfold_7 rfl qm_191 (by decide) rfl (h.f (by decide) (by decide) p0_301) (by decide) (Nat.le_of_ble_eq_true rfl) rfl ⟨rfl, rfl⟩ ⟨Nat.le_of_ble_eq_true rfl, Nat.le_of_ble_eq_true rfl⟩ (EvP.mono (by decide) (m_unfolds h)) (fun r1 P1 g2 => mpp 10 rfl ?_)
  obtain ⟨rfl, rfl⟩ := g2
  show MEvP _ none q_190 10 [(0, .ref 301), (1, .int a1)] [.int (-1001), .ref 301] _ _ _ _
  refine mp_callv (i := 124) (q' := q_139) (As := [.int (-1001)]) (rest := []) dX7_unfold_10 rfl qm_139 (by decide) rfl (h.f (by decide) (by decide) p0_301) (by decide) (Nat.le_of_ble_eq_true rfl) rfl ⟨rfl, rfl⟩ ⟨Nat.le_of_ble_eq_true rfl, Nat.le_of_ble_eq_true rfl⟩ (EvP.mono (by decide) (m_ends_n1001 h)) (fun r1 P1 g3 => mpp 13 rfl ?_)
  obtain rfl := g3
  show MEvP _ none q_190 13 [(0, .ref 301), (1, .int a1)] [.int (-1001)] _ _ _ _
  exact mp_iret (rfl) dX7_unfold_13 (Or.inl rfl)

set_option maxRecDepth 100000 in
set_option maxHeartbeats 4000000 in
theorem mo_drop {P : mP} (a1 : Int32)  (h : MOD P)  : EvP 10 192 [.ref 301, .int a1] P (fun r P' => r = some (.int (-1001))) := by
  have h := MODK.of h
  refine EvP.of qm_192 (Nat.le_of_ble_eq_true rfl) rfl ?_
  show MEvP _ none q_192 0 [(0, .ref 301), (1, .int a1)] [] _ 0 0 _
  refine mp_a (a_aload_n dX7_drop_0 rfl) (mpp 1 rfl ?_)
  refine mp_callv (i := 117) (q' := q_124) (As := []) (rest := []) dX7_drop_1 rfl qm_124 (by decide) rfl (h.f (by decide) (by decide) p0_301) (by decide) (Nat.le_of_ble_eq_true rfl) rfl ⟨rfl, rfl⟩ ⟨Nat.le_of_ble_eq_true rfl, Nat.le_of_ble_eq_true rfl⟩ (EvP.mono (by decide) (m_keeps h)) (fun r1 P1 g1 => mpp 4 rfl ?_)
  obtain ⟨rfl, h⟩ := g1
  show MEvP _ none q_192 4 [(0, .ref 301), (1, .int a1)] [] _ _ _ _
  refine mp_a (a_aload_n dX7_drop_4 rfl) (mpp 5 rfl ?_)
  refine mp_a (a_aload_n dX7_drop_5 rfl) (mpp 6 rfl ?_)
  refine mp_a (a_iload_n dX7_drop_6 rfl) (mpp 7 rfl ?_)
  refine mp_callv (i := 246) (q' := q_193) (As := [.int a1]) (rest := [.ref 301]) dX7_drop_7 rfl qm_193 (by decide) rfl (h.f (by decide) (by decide) p0_301) (by decide) (Nat.le_of_ble_eq_true rfl) rfl ⟨rfl, rfl⟩ ⟨Nat.le_of_ble_eq_true rfl, Nat.le_of_ble_eq_true rfl⟩ (EvP.mono (by decide) (m_drops h)) (fun r1 P1 g2 => mpp 10 rfl ?_)
  obtain ⟨rfl, rfl⟩ := g2
  show MEvP _ none q_192 10 [(0, .ref 301), (1, .int a1)] [.int (-1001), .ref 301] _ _ _ _
  refine mp_callv (i := 124) (q' := q_139) (As := [.int (-1001)]) (rest := []) dX7_drop_10 rfl qm_139 (by decide) rfl (h.f (by decide) (by decide) p0_301) (by decide) (Nat.le_of_ble_eq_true rfl) rfl ⟨rfl, rfl⟩ ⟨Nat.le_of_ble_eq_true rfl, Nat.le_of_ble_eq_true rfl⟩ (EvP.mono (by decide) (m_ends_n1001 h)) (fun r1 P1 g3 => mpp 13 rfl ?_)
  obtain rfl := g3
  show MEvP _ none q_192 13 [(0, .ref 301), (1, .int a1)] [.int (-1001)] _ _ _ _
  exact mp_iret (rfl) dX7_drop_13 (Or.inl rfl)

set_option maxRecDepth 100000 in
set_option maxHeartbeats 4000000 in
theorem mo_piece {P : mP} (a1 : Int32) (a2 : Int32)  (h : MOD P)  : EvP 10 194 [.ref 301, .int a1, .int a2] P (fun r P' => r = some (.int (-1001))) := by
  have h := MODK.of h
  refine EvP.of qm_194 (Nat.le_of_ble_eq_true rfl) rfl ?_
  show MEvP _ none q_194 0 [(0, .ref 301), (1, .int a1), (2, .int a2)] [] _ 0 0 _
  refine mp_a (a_aload_n dX7_piece_0 rfl) (mpp 1 rfl ?_)
  refine mp_a (a_iload_n dX7_piece_1 rfl) (mpp 2 rfl ?_)
  refine mp_callv (i := 85) (q' := q_144) (As := [.int a1]) (rest := []) dX7_piece_2 rfl qm_144 (by decide) rfl (h.f (by decide) (by decide) p0_301) (by decide) (Nat.le_of_ble_eq_true rfl) rfl ⟨rfl, rfl⟩ ⟨Nat.le_of_ble_eq_true rfl, Nat.le_of_ble_eq_true rfl⟩ (EvP.mono (by decide) (m_isPiece h)) (fun r1 P1 g1 => mpp 5 rfl ?_)
  obtain ⟨rfl, rfl⟩ := g1
  show MEvP _ none q_194 5 [(0, .ref 301), (1, .int a1), (2, .int a2)] [.int 0] _ _ _ _
  refine mp_Tf (t := 12) (j_if_ne dX7_piece_5) (by decide) (by decide) (mpp 8 rfl ?_)
  refine mp_a (a_sipush (v := -1001) dX7_piece_8 rfl) (mpp 11 rfl ?_)
  exact mp_iret (rfl) dX7_piece_11 (Or.inl rfl)

set_option maxRecDepth 100000 in
set_option maxHeartbeats 4000000 in
theorem mo_size {P : mP} (a1 : Int32) (a2 : Int32)  (h : MOD P)  : EvP 10 196 [.ref 301, .int a1, .int a2] P (fun r P' => r = some (.int (-1001))) := by
  have h := MODK.of h
  refine EvP.of qm_196 (Nat.le_of_ble_eq_true rfl) rfl ?_
  show MEvP _ none q_196 0 [(0, .ref 301), (1, .int a1), (2, .int a2)] [] _ 0 0 _
  refine mp_a (a_aload_n dX7_size_0 rfl) (mpp 1 rfl ?_)
  refine mp_a (a_iload_n dX7_size_1 rfl) (mpp 2 rfl ?_)
  refine mp_callv (i := 85) (q' := q_144) (As := [.int a1]) (rest := []) dX7_size_2 rfl qm_144 (by decide) rfl (h.f (by decide) (by decide) p0_301) (by decide) (Nat.le_of_ble_eq_true rfl) rfl ⟨rfl, rfl⟩ ⟨Nat.le_of_ble_eq_true rfl, Nat.le_of_ble_eq_true rfl⟩ (EvP.mono (by decide) (m_isPiece h)) (fun r1 P1 g1 => mpp 5 rfl ?_)
  obtain ⟨rfl, rfl⟩ := g1
  show MEvP _ none q_196 5 [(0, .ref 301), (1, .int a1), (2, .int a2)] [.int 0] _ _ _ _
  refine mp_Tt (t := 33) (j_if_eq dX7_size_5) (by decide) (by decide) ?_
  refine mp_a (a_sipush (v := -1001) dX7_size_33 rfl) (mpp 36 rfl ?_)
  exact mp_iret (rfl) dX7_size_36 (Or.inl rfl)

set_option maxRecDepth 100000 in
set_option maxHeartbeats 4000000 in
theorem mo_crease {P : mP} (a1 : Int32) (a2 : Int32)  (h : MOD P)  : EvP 10 197 [.ref 301, .int a1, .int a2] P (fun r P' => r = some (.int (-1001))) := by
  have h := MODK.of h
  refine EvP.of qm_197 (Nat.le_of_ble_eq_true rfl) rfl ?_
  show MEvP _ none q_197 0 [(0, .ref 301), (1, .int a1), (2, .int a2)] [] _ 0 0 _
  refine mp_a (a_aload_n dX7_crease_0 rfl) (mpp 1 rfl ?_)
  refine mp_a (a_iload_n dX7_crease_1 rfl) (mpp 2 rfl ?_)
  refine mp_a (a_iload_n dX7_crease_2 rfl) (mpp 3 rfl ?_)
  refine mp_callv (i := 127) (q' := q_143) (As := [.int a1, .int a2]) (rest := []) dX7_crease_3 rfl qm_143 (by decide) rfl (h.f (by decide) (by decide) p0_301) (by decide) (Nat.le_of_ble_eq_true rfl) rfl ⟨rfl, rfl⟩ ⟨Nat.le_of_ble_eq_true rfl, Nat.le_of_ble_eq_true rfl⟩ (EvP.mono (by decide) (m_isCrease h)) (fun r1 P1 g1 => mpp 6 rfl ?_)
  obtain ⟨rfl, rfl⟩ := g1
  show MEvP _ none q_197 6 [(0, .ref 301), (1, .int a1), (2, .int a2)] [.int 0] _ _ _ _
  refine mp_Tt (t := 18) (j_if_eq dX7_crease_6) (by decide) (by decide) ?_
  refine mp_a (a_sipush (v := -1001) dX7_crease_18 rfl) (mpp 21 rfl ?_)
  exact mp_iret (rfl) dX7_crease_21 (Or.inl rfl)

set_option maxRecDepth 100000 in
set_option maxHeartbeats 4000000 in
theorem mo_why {P : mP} (a1 : Int32)  (h : MOD P)  : EvP 10 159 [.ref 301, .int a1] P (fun r P' => r = some (.int (-1001))) := by
  have h := MODK.of h
  refine EvP.of qm_159 (Nat.le_of_ble_eq_true rfl) rfl ?_
  show MEvP _ none q_159 0 [(0, .ref 301), (1, .int a1)] [] _ 0 0 _
  refine mp_a (a_aload_n dX7_why_0 rfl) (mpp 1 rfl ?_)
  refine mp_a (a_iload_n dX7_why_1 rfl) (mpp 2 rfl ?_)
  refine mp_callv (i := 85) (q' := q_144) (As := [.int a1]) (rest := []) dX7_why_2 rfl qm_144 (by decide) rfl (h.f (by decide) (by decide) p0_301) (by decide) (Nat.le_of_ble_eq_true rfl) rfl ⟨rfl, rfl⟩ ⟨Nat.le_of_ble_eq_true rfl, Nat.le_of_ble_eq_true rfl⟩ (EvP.mono (by decide) (m_isPiece h)) (fun r1 P1 g1 => mpp 5 rfl ?_)
  obtain ⟨rfl, rfl⟩ := g1
  show MEvP _ none q_159 5 [(0, .ref 301), (1, .int a1)] [.int 0] _ _ _ _
  refine mp_Tt (t := 16) (j_if_eq dX7_why_5) (by decide) (by decide) ?_
  refine mp_a (a_sipush (v := -1001) dX7_why_16 rfl) (mpp 19 rfl ?_)
  exact mp_iret (rfl) dX7_why_19 (Or.inl rfl)

set_option maxRecDepth 100000 in
set_option maxHeartbeats 4000000 in
theorem mo_foldsAgain {P : mP} (a1 : Int32)  (h : MOD P)  : EvP 10 198 [.ref 301, .int a1] P (fun r P' => r = some (.int (-1001))) := by
  have h := MODK.of h
  refine EvP.of qm_198 (Nat.le_of_ble_eq_true rfl) rfl ?_
  show MEvP _ none q_198 0 [(0, .ref 301), (1, .int a1)] [] _ 0 0 _
  refine mp_a (a_aload_n dX7_foldsAgain_0 rfl) (mpp 1 rfl ?_)
  refine mp_a (a_iload_n dX7_foldsAgain_1 rfl) (mpp 2 rfl ?_)
  refine mp_callv (i := 279) (q' := q_199) (As := [.int a1]) (rest := []) dX7_foldsAgain_2 rfl qm_199 (by decide) rfl (h.f (by decide) (by decide) p0_301) (by decide) (Nat.le_of_ble_eq_true rfl) rfl ⟨rfl, rfl⟩ ⟨Nat.le_of_ble_eq_true rfl, Nat.le_of_ble_eq_true rfl⟩ (EvP.mono (by decide) (m_wrongStrip h)) (fun r1 P1 g1 => mpp 5 rfl ?_)
  obtain ⟨rfl, rfl⟩ := g1
  show MEvP _ none q_198 5 [(0, .ref 301), (1, .int a1)] [.int (-1001)] _ _ _ _
  refine mp_a (a_istore_n (L' := [(2, .int (-1001)), (0, .ref 301), (1, .int a1)]) dX7_foldsAgain_5 (by decide) rfl) (mpp 6 rfl ?_)
  refine mp_a (a_iload_n dX7_foldsAgain_6 rfl) (mpp 7 rfl ?_)
  refine mp_Tf (t := 14) (j_if_eq dX7_foldsAgain_7) (by decide) (by decide) (mpp 10 rfl ?_)
  refine mp_a (a_iload_n dX7_foldsAgain_10 rfl) (mpp 11 rfl ?_)
  refine mp_a (a_goto (t := 27) dX7_foldsAgain_11 (by decide)) ?_
  exact mp_iret (rfl) dX7_foldsAgain_27 (Or.inl rfl)

set_option maxRecDepth 100000 in
set_option maxHeartbeats 4000000 in
theorem mo_step {P : mP} (a1 : Int32)  (h : MOD P)  : EvP 10 175 [.ref 301, .int a1] P (fun r P' => r = some (.int (-1001))) := by
  have h := MODK.of h
  refine EvP.of qm_175 (Nat.le_of_ble_eq_true rfl) rfl ?_
  show MEvP _ none q_175 0 [(0, .ref 301), (1, .int a1)] [] _ 0 0 _
  refine mp_a (a_aload_n dX7_step_0 rfl) (mpp 1 rfl ?_)
  refine mp_a (a_iload_n dX7_step_1 rfl) (mpp 2 rfl ?_)
  refine mp_callv (i := 85) (q' := q_144) (As := [.int a1]) (rest := []) dX7_step_2 rfl qm_144 (by decide) rfl (h.f (by decide) (by decide) p0_301) (by decide) (Nat.le_of_ble_eq_true rfl) rfl ⟨rfl, rfl⟩ ⟨Nat.le_of_ble_eq_true rfl, Nat.le_of_ble_eq_true rfl⟩ (EvP.mono (by decide) (m_isPiece h)) (fun r1 P1 g1 => mpp 5 rfl ?_)
  obtain ⟨rfl, rfl⟩ := g1
  show MEvP _ none q_175 5 [(0, .ref 301), (1, .int a1)] [.int 0] _ _ _ _
  refine mp_Tf (t := 12) (j_if_ne dX7_step_5) (by decide) (by decide) (mpp 8 rfl ?_)
  refine mp_a (a_sipush (v := -1001) dX7_step_8 rfl) (mpp 11 rfl ?_)
  exact mp_iret (rfl) dX7_step_11 (Or.inl rfl)

set_option maxRecDepth 100000 in
set_option maxHeartbeats 4000000 in
theorem mo_steps {P : mP} (a1 : Int32)  (h : MOD P)  : EvP 10 176 [.ref 301, .int a1] P (fun r P' => r = some (.int (-1001))) := by
  have h := MODK.of h
  refine EvP.of qm_176 (Nat.le_of_ble_eq_true rfl) rfl ?_
  show MEvP _ none q_176 0 [(0, .ref 301), (1, .int a1)] [] _ 0 0 _
  refine mp_a (a_aload_n dX7_steps_0 rfl) (mpp 1 rfl ?_)
  refine mp_a (a_iload_n dX7_steps_1 rfl) (mpp 2 rfl ?_)
  refine mp_callv (i := 85) (q' := q_144) (As := [.int a1]) (rest := []) dX7_steps_2 rfl qm_144 (by decide) rfl (h.f (by decide) (by decide) p0_301) (by decide) (Nat.le_of_ble_eq_true rfl) rfl ⟨rfl, rfl⟩ ⟨Nat.le_of_ble_eq_true rfl, Nat.le_of_ble_eq_true rfl⟩ (EvP.mono (by decide) (m_isPiece h)) (fun r1 P1 g1 => mpp 5 rfl ?_)
  obtain ⟨rfl, rfl⟩ := g1
  show MEvP _ none q_176 5 [(0, .ref 301), (1, .int a1)] [.int 0] _ _ _ _
  refine mp_Tf (t := 12) (j_if_ne dX7_steps_5) (by decide) (by decide) (mpp 8 rfl ?_)
  refine mp_a (a_sipush (v := -1001) dX7_steps_8 rfl) (mpp 11 rfl ?_)
  exact mp_iret (rfl) dX7_steps_11 (Or.inl rfl)

set_option maxRecDepth 100000 in
set_option maxHeartbeats 4000000 in
theorem mo_ways {P : mP} (a1 : Int32)  (h : MOD P)  : EvP 10 177 [.ref 301, .int a1] P (fun r P' => r = some (.int (-1001))) := by
  have h := MODK.of h
  refine EvP.of qm_177 (Nat.le_of_ble_eq_true rfl) rfl ?_
  show MEvP _ none q_177 0 [(0, .ref 301), (1, .int a1)] [] _ 0 0 _
  refine mp_a (a_aload_n dX7_ways_0 rfl) (mpp 1 rfl ?_)
  refine mp_a (a_iload_n dX7_ways_1 rfl) (mpp 2 rfl ?_)
  refine mp_callv (i := 85) (q' := q_144) (As := [.int a1]) (rest := []) dX7_ways_2 rfl qm_144 (by decide) rfl (h.f (by decide) (by decide) p0_301) (by decide) (Nat.le_of_ble_eq_true rfl) rfl ⟨rfl, rfl⟩ ⟨Nat.le_of_ble_eq_true rfl, Nat.le_of_ble_eq_true rfl⟩ (EvP.mono (by decide) (m_isPiece h)) (fun r1 P1 g1 => mpp 5 rfl ?_)
  obtain ⟨rfl, rfl⟩ := g1
  show MEvP _ none q_177 5 [(0, .ref 301), (1, .int a1)] [.int 0] _ _ _ _
  refine mp_Tf (t := 12) (j_if_ne dX7_ways_5) (by decide) (by decide) (mpp 8 rfl ?_)
  refine mp_a (a_sipush (v := -1001) dX7_ways_8 rfl) (mpp 11 rfl ?_)
  exact mp_iret (rfl) dX7_ways_11 (Or.inl rfl)

set_option maxRecDepth 100000 in
set_option maxHeartbeats 4000000 in
theorem mo_fewest {P : mP} (a1 : Int32)  (h : MOD P)  : EvP 10 181 [.ref 301, .int a1] P (fun r P' => r = some (.int (-1001))) := by
  have h := MODK.of h
  refine EvP.of qm_181 (Nat.le_of_ble_eq_true rfl) rfl ?_
  show MEvP _ none q_181 0 [(0, .ref 301), (1, .int a1)] [] _ 0 0 _
  refine mp_a (a_aload_n dX7_fewest_0 rfl) (mpp 1 rfl ?_)
  refine mp_a (a_iload_n dX7_fewest_1 rfl) (mpp 2 rfl ?_)
  refine mp_callv (i := 85) (q' := q_144) (As := [.int a1]) (rest := []) dX7_fewest_2 rfl qm_144 (by decide) rfl (h.f (by decide) (by decide) p0_301) (by decide) (Nat.le_of_ble_eq_true rfl) rfl ⟨rfl, rfl⟩ ⟨Nat.le_of_ble_eq_true rfl, Nat.le_of_ble_eq_true rfl⟩ (EvP.mono (by decide) (m_isPiece h)) (fun r1 P1 g1 => mpp 5 rfl ?_)
  obtain ⟨rfl, rfl⟩ := g1
  show MEvP _ none q_181 5 [(0, .ref 301), (1, .int a1)] [.int 0] _ _ _ _
  refine mp_Tf (t := 12) (j_if_ne dX7_fewest_5) (by decide) (by decide) (mpp 8 rfl ?_)
  refine mp_a (a_sipush (v := -1001) dX7_fewest_8 rfl) (mpp 11 rfl ?_)
  exact mp_iret (rfl) dX7_fewest_11 (Or.inl rfl)

set_option maxRecDepth 100000 in
set_option maxHeartbeats 4000000 in
theorem mo_place {P : mP} (a1 : Int32) (a2 : Int32)  (h : MOD P)  : EvP 10 210 [.ref 301, .int a1, .int a2] P (fun r P' => r = some (.int (-1001))) := by
  have h := MODK.of h
  refine EvP.of qm_210 (Nat.le_of_ble_eq_true rfl) rfl ?_
  show MEvP _ none q_210 0 [(0, .ref 301), (1, .int a1), (2, .int a2)] [] _ 0 0 _
  refine mp_a (a_aload_n dX7_place_0 rfl) (mpp 1 rfl ?_)
  refine mp_a (a_iload_n dX7_place_1 rfl) (mpp 2 rfl ?_)
  refine mp_callv (i := 85) (q' := q_144) (As := [.int a1]) (rest := []) dX7_place_2 rfl qm_144 (by decide) rfl (h.f (by decide) (by decide) p0_301) (by decide) (Nat.le_of_ble_eq_true rfl) rfl ⟨rfl, rfl⟩ ⟨Nat.le_of_ble_eq_true rfl, Nat.le_of_ble_eq_true rfl⟩ (EvP.mono (by decide) (m_isPiece h)) (fun r1 P1 g1 => mpp 5 rfl ?_)
  obtain ⟨rfl, rfl⟩ := g1
  show MEvP _ none q_210 5 [(0, .ref 301), (1, .int a1), (2, .int a2)] [.int 0] _ _ _ _
  refine mp_Tt (t := 23) (j_if_eq dX7_place_5) (by decide) (by decide) ?_
  refine mp_a (a_sipush (v := -1001) dX7_place_23 rfl) (mpp 26 rfl ?_)
  exact mp_iret (rfl) dX7_place_26 (Or.inl rfl)

set_option maxRecDepth 100000 in
set_option maxHeartbeats 4000000 in
theorem mo_layer {P : mP} (a1 : Int32) (a2 : Int32)  (h : MOD P)  : EvP 10 208 [.ref 301, .int a1, .int a2] P (fun r P' => r = some (.int (-1001))) := by
  have h := MODK.of h
  refine EvP.of qm_208 (Nat.le_of_ble_eq_true rfl) rfl ?_
  show MEvP _ none q_208 0 [(0, .ref 301), (1, .int a1), (2, .int a2)] [] _ 0 0 _
  refine mp_a (a_aload_n dX7_layer_0 rfl) (mpp 1 rfl ?_)
  refine mp_a (a_iload_n dX7_layer_1 rfl) (mpp 2 rfl ?_)
  refine mp_callv (i := 85) (q' := q_144) (As := [.int a1]) (rest := []) dX7_layer_2 rfl qm_144 (by decide) rfl (h.f (by decide) (by decide) p0_301) (by decide) (Nat.le_of_ble_eq_true rfl) rfl ⟨rfl, rfl⟩ ⟨Nat.le_of_ble_eq_true rfl, Nat.le_of_ble_eq_true rfl⟩ (EvP.mono (by decide) (m_isPiece h)) (fun r1 P1 g1 => mpp 5 rfl ?_)
  obtain ⟨rfl, rfl⟩ := g1
  show MEvP _ none q_208 5 [(0, .ref 301), (1, .int a1), (2, .int a2)] [.int 0] _ _ _ _
  refine mp_Tt (t := 25) (j_if_eq dX7_layer_5) (by decide) (by decide) ?_
  refine mp_a (a_sipush (v := -1001) dX7_layer_25 rfl) (mpp 28 rfl ?_)
  exact mp_iret (rfl) dX7_layer_28 (Or.inl rfl)

set_option maxRecDepth 100000 in
set_option maxHeartbeats 4000000 in
theorem mo_orders {P : mP} (a1 : Int32)  (h : MOD P)  : EvP 10 207 [.ref 301, .int a1] P (fun r P' => r = some (.int (-1001))) := by
  have h := MODK.of h
  refine EvP.of qm_207 (Nat.le_of_ble_eq_true rfl) rfl ?_
  show MEvP _ none q_207 0 [(0, .ref 301), (1, .int a1)] [] _ 0 0 _
  refine mp_a (a_aload_n dX7_orders_0 rfl) (mpp 1 rfl ?_)
  refine mp_a (a_iload_n dX7_orders_1 rfl) (mpp 2 rfl ?_)
  refine mp_callv (i := 279) (q' := q_199) (As := [.int a1]) (rest := []) dX7_orders_2 rfl qm_199 (by decide) rfl (h.f (by decide) (by decide) p0_301) (by decide) (Nat.le_of_ble_eq_true rfl) rfl ⟨rfl, rfl⟩ ⟨Nat.le_of_ble_eq_true rfl, Nat.le_of_ble_eq_true rfl⟩ (EvP.mono (by decide) (m_wrongStrip h)) (fun r1 P1 g1 => mpp 5 rfl ?_)
  obtain ⟨rfl, rfl⟩ := g1
  show MEvP _ none q_207 5 [(0, .ref 301), (1, .int a1)] [.int (-1001)] _ _ _ _
  refine mp_a (a_istore_n (L' := [(2, .int (-1001)), (0, .ref 301), (1, .int a1)]) dX7_orders_5 (by decide) rfl) (mpp 6 rfl ?_)
  refine mp_a (a_iload_n dX7_orders_6 rfl) (mpp 7 rfl ?_)
  refine mp_Tf (t := 14) (j_if_eq dX7_orders_7) (by decide) (by decide) (mpp 10 rfl ?_)
  refine mp_a (a_iload_n dX7_orders_10 rfl) (mpp 11 rfl ?_)
  refine mp_a (a_goto (t := 19) dX7_orders_11 (by decide)) ?_
  exact mp_iret (rfl) dX7_orders_19 (Or.inl rfl)

set_option maxRecDepth 100000 in
set_option maxHeartbeats 4000000 in
theorem mo_thickest {P : mP} (a1 : Int32)  (h : MOD P)  : EvP 10 211 [.ref 301, .int a1] P (fun r P' => r = some (.int (-1001))) := by
  have h := MODK.of h
  refine EvP.of qm_211 (Nat.le_of_ble_eq_true rfl) rfl ?_
  show MEvP _ none q_211 0 [(0, .ref 301), (1, .int a1)] [] _ 0 0 _
  refine mp_a (a_aload_n dX7_thickest_0 rfl) (mpp 1 rfl ?_)
  refine mp_a (a_iload_n dX7_thickest_1 rfl) (mpp 2 rfl ?_)
  refine mp_callv (i := 85) (q' := q_144) (As := [.int a1]) (rest := []) dX7_thickest_2 rfl qm_144 (by decide) rfl (h.f (by decide) (by decide) p0_301) (by decide) (Nat.le_of_ble_eq_true rfl) rfl ⟨rfl, rfl⟩ ⟨Nat.le_of_ble_eq_true rfl, Nat.le_of_ble_eq_true rfl⟩ (EvP.mono (by decide) (m_isPiece h)) (fun r1 P1 g1 => mpp 5 rfl ?_)
  obtain ⟨rfl, rfl⟩ := g1
  show MEvP _ none q_211 5 [(0, .ref 301), (1, .int a1)] [.int 0] _ _ _ _
  refine mp_Tf (t := 12) (j_if_ne dX7_thickest_5) (by decide) (by decide) (mpp 8 rfl ?_)
  refine mp_a (a_sipush (v := -1001) dX7_thickest_8 rfl) (mpp 11 rfl ?_)
  exact mp_iret (rfl) dX7_thickest_11 (Or.inl rfl)

set_option maxRecDepth 100000 in
set_option maxHeartbeats 4000000 in
theorem mo_reflected {P : mP} (a1 : Int32)  (h : MOD P)  : EvP 10 213 [.ref 301, .int a1] P (fun r P' => r = some (.int (-1001))) := by
  have h := MODK.of h
  refine EvP.of qm_213 (Nat.le_of_ble_eq_true rfl) rfl ?_
  show MEvP _ none q_213 0 [(0, .ref 301), (1, .int a1)] [] _ 0 0 _
  refine mp_a (a_aload_n dX7_reflected_0 rfl) (mpp 1 rfl ?_)
  refine mp_a (a_iload_n dX7_reflected_1 rfl) (mpp 2 rfl ?_)
  refine mp_callv (i := 85) (q' := q_144) (As := [.int a1]) (rest := []) dX7_reflected_2 rfl qm_144 (by decide) rfl (h.f (by decide) (by decide) p0_301) (by decide) (Nat.le_of_ble_eq_true rfl) rfl ⟨rfl, rfl⟩ ⟨Nat.le_of_ble_eq_true rfl, Nat.le_of_ble_eq_true rfl⟩ (EvP.mono (by decide) (m_isPiece h)) (fun r1 P1 g1 => mpp 5 rfl ?_)
  obtain ⟨rfl, rfl⟩ := g1
  show MEvP _ none q_213 5 [(0, .ref 301), (1, .int a1)] [.int 0] _ _ _ _
  refine mp_Tf (t := 12) (j_if_ne dX7_reflected_5) (by decide) (by decide) (mpp 8 rfl ?_)
  refine mp_a (a_sipush (v := -1001) dX7_reflected_8 rfl) (mpp 11 rfl ?_)
  exact mp_iret (rfl) dX7_reflected_11 (Or.inl rfl)

set_option maxRecDepth 100000 in
set_option maxHeartbeats 4000000 in
theorem mo_stage_1 {P : mP} (a1 : Int32)  (h : MOD P) (h1 : a1 < 1) : EvP 10 182 [.ref 301, .int a1] P (fun r P' => r = some (.int (-1002))) := by
  have h := MODK.of h
  refine EvP.of qm_182 (Nat.le_of_ble_eq_true rfl) rfl ?_
  show MEvP _ none q_182 0 [(0, .ref 301), (1, .int a1)] [] _ 0 0 _
  refine mp_a (a_aload_n dX7_stage_0 rfl) (mpp 1 rfl ?_)
  refine mp_callv (i := 117) (q' := q_124) (As := []) (rest := []) dX7_stage_1 rfl qm_124 (by decide) rfl (h.f (by decide) (by decide) p0_301) (by decide) (Nat.le_of_ble_eq_true rfl) rfl ⟨rfl, rfl⟩ ⟨Nat.le_of_ble_eq_true rfl, Nat.le_of_ble_eq_true rfl⟩ (EvP.mono (by decide) (m_keeps h)) (fun r1 P1 g1 => mpp 4 rfl ?_)
  obtain ⟨rfl, h⟩ := g1
  show MEvP _ none q_182 4 [(0, .ref 301), (1, .int a1)] [] _ _ _ _
  refine mp_a (a_aload_n dX7_stage_4 rfl) (mpp 5 rfl ?_)
  refine mp_a (a_aload_n dX7_stage_5 rfl) (mpp 6 rfl ?_)
  refine mp_a (a_iload_n dX7_stage_6 rfl) (mpp 7 rfl ?_)
  refine mp_callv (i := 234) (q' := q_183) (As := [.int a1]) (rest := [.ref 301]) dX7_stage_7 rfl qm_183 (by decide) rfl (h.f (by decide) (by decide) p0_301) (by decide) (Nat.le_of_ble_eq_true rfl) rfl ⟨rfl, rfl⟩ ⟨Nat.le_of_ble_eq_true rfl, Nat.le_of_ble_eq_true rfl⟩ (EvP.mono (by decide) (m_stages_1 h h1)) (fun r1 P1 g2 => mpp 10 rfl ?_)
  obtain ⟨rfl, rfl⟩ := g2
  show MEvP _ none q_182 10 [(0, .ref 301), (1, .int a1)] [.int (-1002), .ref 301] _ _ _ _
  refine mp_callv (i := 124) (q' := q_139) (As := [.int (-1002)]) (rest := []) dX7_stage_10 rfl qm_139 (by decide) rfl (h.f (by decide) (by decide) p0_301) (by decide) (Nat.le_of_ble_eq_true rfl) rfl ⟨rfl, rfl⟩ ⟨Nat.le_of_ble_eq_true rfl, Nat.le_of_ble_eq_true rfl⟩ (EvP.mono (by decide) (m_ends_n1002 h)) (fun r1 P1 g3 => mpp 13 rfl ?_)
  obtain rfl := g3
  show MEvP _ none q_182 13 [(0, .ref 301), (1, .int a1)] [.int (-1002)] _ _ _ _
  exact mp_iret (rfl) dX7_stage_13 (Or.inl rfl)

set_option maxRecDepth 100000 in
set_option maxHeartbeats 4000000 in
theorem mo_stage_2 {P : mP} (a1 : Int32)  (h : MOD P) (h1 : ¬ a1 < 1) (h2 : 99 < a1) : EvP 10 182 [.ref 301, .int a1] P (fun r P' => r = some (.int (-1002))) := by
  have h := MODK.of h
  refine EvP.of qm_182 (Nat.le_of_ble_eq_true rfl) rfl ?_
  show MEvP _ none q_182 0 [(0, .ref 301), (1, .int a1)] [] _ 0 0 _
  refine mp_a (a_aload_n dX7_stage_0 rfl) (mpp 1 rfl ?_)
  refine mp_callv (i := 117) (q' := q_124) (As := []) (rest := []) dX7_stage_1 rfl qm_124 (by decide) rfl (h.f (by decide) (by decide) p0_301) (by decide) (Nat.le_of_ble_eq_true rfl) rfl ⟨rfl, rfl⟩ ⟨Nat.le_of_ble_eq_true rfl, Nat.le_of_ble_eq_true rfl⟩ (EvP.mono (by decide) (m_keeps h)) (fun r1 P1 g1 => mpp 4 rfl ?_)
  obtain ⟨rfl, h⟩ := g1
  show MEvP _ none q_182 4 [(0, .ref 301), (1, .int a1)] [] _ _ _ _
  refine mp_a (a_aload_n dX7_stage_4 rfl) (mpp 5 rfl ?_)
  refine mp_a (a_aload_n dX7_stage_5 rfl) (mpp 6 rfl ?_)
  refine mp_a (a_iload_n dX7_stage_6 rfl) (mpp 7 rfl ?_)
  refine mp_callv (i := 234) (q' := q_183) (As := [.int a1]) (rest := [.ref 301]) dX7_stage_7 rfl qm_183 (by decide) rfl (h.f (by decide) (by decide) p0_301) (by decide) (Nat.le_of_ble_eq_true rfl) rfl ⟨rfl, rfl⟩ ⟨Nat.le_of_ble_eq_true rfl, Nat.le_of_ble_eq_true rfl⟩ (EvP.mono (by decide) (m_stages_2 h h1 h2)) (fun r1 P1 g2 => mpp 10 rfl ?_)
  obtain ⟨rfl, rfl⟩ := g2
  show MEvP _ none q_182 10 [(0, .ref 301), (1, .int a1)] [.int (-1002), .ref 301] _ _ _ _
  refine mp_callv (i := 124) (q' := q_139) (As := [.int (-1002)]) (rest := []) dX7_stage_10 rfl qm_139 (by decide) rfl (h.f (by decide) (by decide) p0_301) (by decide) (Nat.le_of_ble_eq_true rfl) rfl ⟨rfl, rfl⟩ ⟨Nat.le_of_ble_eq_true rfl, Nat.le_of_ble_eq_true rfl⟩ (EvP.mono (by decide) (m_ends_n1002 h)) (fun r1 P1 g3 => mpp 13 rfl ?_)
  obtain rfl := g3
  show MEvP _ none q_182 13 [(0, .ref 301), (1, .int a1)] [.int (-1002)] _ _ _ _
  exact mp_iret (rfl) dX7_stage_13 (Or.inl rfl)

set_option maxRecDepth 100000 in
set_option maxHeartbeats 4000000 in
theorem mo_stage_3 {P : mP} (a1 : Int32)  (h : MOD P) (h1 : ¬ a1 < 1) (h2 : ¬ 99 < a1) (h3 : 0 ≤ a1) : EvP 10 182 [.ref 301, .int a1] P (fun r P' => r = some (.int 30)) := by
  have h := MODK.of h
  refine EvP.of qm_182 (Nat.le_of_ble_eq_true rfl) rfl ?_
  show MEvP _ none q_182 0 [(0, .ref 301), (1, .int a1)] [] _ 0 0 _
  refine mp_a (a_aload_n dX7_stage_0 rfl) (mpp 1 rfl ?_)
  refine mp_callv (i := 117) (q' := q_124) (As := []) (rest := []) dX7_stage_1 rfl qm_124 (by decide) rfl (h.f (by decide) (by decide) p0_301) (by decide) (Nat.le_of_ble_eq_true rfl) rfl ⟨rfl, rfl⟩ ⟨Nat.le_of_ble_eq_true rfl, Nat.le_of_ble_eq_true rfl⟩ (EvP.mono (by decide) (m_keeps h)) (fun r1 P1 g1 => mpp 4 rfl ?_)
  obtain ⟨rfl, h⟩ := g1
  show MEvP _ none q_182 4 [(0, .ref 301), (1, .int a1)] [] _ _ _ _
  refine mp_a (a_aload_n dX7_stage_4 rfl) (mpp 5 rfl ?_)
  refine mp_a (a_aload_n dX7_stage_5 rfl) (mpp 6 rfl ?_)
  refine mp_a (a_iload_n dX7_stage_6 rfl) (mpp 7 rfl ?_)
  refine mp_callv (i := 234) (q' := q_183) (As := [.int a1]) (rest := [.ref 301]) dX7_stage_7 rfl qm_183 (by decide) rfl (h.f (by decide) (by decide) p0_301) (by decide) (Nat.le_of_ble_eq_true rfl) rfl ⟨rfl, rfl⟩ ⟨Nat.le_of_ble_eq_true rfl, Nat.le_of_ble_eq_true rfl⟩ (EvP.mono (by decide) (m_stages_3 h h1 h2 h3)) (fun r1 P1 g2 => mpp 10 rfl ?_)
  obtain ⟨rfl, h⟩ := g2
  show MEvP _ none q_182 10 [(0, .ref 301), (1, .int a1)] [.int 30, .ref 301] _ _ _ _
  refine mp_callv (i := 124) (q' := q_139) (As := [.int 30]) (rest := []) dX7_stage_10 rfl qm_139 (by decide) rfl h.1 (by decide) (Nat.le_of_ble_eq_true rfl) rfl ⟨rfl, rfl⟩ ⟨Nat.le_of_ble_eq_true rfl, Nat.le_of_ble_eq_true rfl⟩ (EvP.mono (by decide) (m_endsE_30 h)) (fun r1 P1 g3 => mpp 13 rfl ?_)
  obtain rfl := g3
  show MEvP _ none q_182 13 [(0, .ref 301), (1, .int a1)] [.int 30] _ _ _ _
  exact mp_iret (rfl) dX7_stage_13 (Or.inl rfl)

set_option maxRecDepth 100000 in
set_option maxHeartbeats 4000000 in
theorem mo_share {P : mP}  (h : MOD P)  : EvP 10 232 [.ref 301] P (fun r P' => r = some (.int (-1004))) := by
  have h := MODK.of h
  refine EvP.of qm_232 (Nat.le_of_ble_eq_true rfl) rfl ?_
  show MEvP _ none q_232 0 [(0, .ref 301)] [] _ 0 0 _
  refine mp_a (a_aload_n dX7_share_0 rfl) (mpp 1 rfl ?_)
  refine mp_get (i := 9) (v := .ref 302) dX7_share_1 rfl (h.f (by decide) (by decide) p0_301) rfl (mpp 4 rfl ?_)
  refine mp_a (a_iconst (v := 0) dX7_share_4 rfl) (mpp 5 rfl ?_)
  refine mp_ial (N := 155) (v := 0) dX7_share_5 (h.f (by decide) (by decide) p0_302) rfl (by decide) rfl (mpp 6 rfl ?_)
  refine mp_Tf (t := 13) (j_if_ne dX7_share_6) (by decide) (by decide) (mpp 9 rfl ?_)
  refine mp_a (a_sipush (v := -1004) dX7_share_9 rfl) (mpp 12 rfl ?_)
  exact mp_iret (rfl) dX7_share_12 (Or.inl rfl)

set_option maxRecDepth 100000 in
set_option maxHeartbeats 4000000 in
theorem mo_undo {P : mP}  (h : MOD P)  : EvP 10 233 [.ref 301] P (fun r P' => r = some (.int (-1004))) := by
  have h := MODK.of h
  refine EvP.of qm_233 (Nat.le_of_ble_eq_true rfl) rfl ?_
  show MEvP _ none q_233 0 [(0, .ref 301)] [] _ 0 0 _
  refine mp_a (a_aload_n dX7_undo_0 rfl) (mpp 1 rfl ?_)
  refine mp_get (i := 58) (v := .int 0) dX7_undo_1 rfl (h.f (by decide) (by decide) p0_301) rfl (mpp 4 rfl ?_)
  refine mp_Tf (t := 11) (j_if_ne dX7_undo_4) (by decide) (by decide) (mpp 7 rfl ?_)
  refine mp_a (a_sipush (v := -1004) dX7_undo_7 rfl) (mpp 10 rfl ?_)
  exact mp_iret (rfl) dX7_undo_10 (Or.inl rfl)

set_option maxRecDepth 100000 in
set_option maxHeartbeats 4000000 in
theorem mo_restore {P : mP}  (h : MOD P)  : EvP 10 235 [.ref 301] P (fun r P' => r = some (.int (-1004))) := by
  have h := MODK.of h
  refine EvP.of qm_235 (Nat.le_of_ble_eq_true rfl) rfl ?_
  show MEvP _ none q_235 0 [(0, .ref 301)] [] _ 0 0 _
  refine mp_a (a_aload_n dX7_restore_0 rfl) (mpp 1 rfl ?_)
  refine mp_get (i := 363) (v := .int 0) dX7_restore_1 rfl (h.f (by decide) (by decide) p0_301) rfl (mpp 4 rfl ?_)
  refine mp_Tf (t := 11) (j_if_ne dX7_restore_4) (by decide) (by decide) (mpp 7 rfl ?_)
  refine mp_a (a_sipush (v := -1004) dX7_restore_7 rfl) (mpp 10 rfl ?_)
  exact mp_iret (rfl) dX7_restore_10 (Or.inl rfl)

set_option maxRecDepth 100000 in
set_option maxHeartbeats 4000000 in
theorem mo_refusal_1 {P : mP} (a1 : Int32)  (h : MOD P) (h1 : a1 < 0) : EvP 10 228 [.ref 301, .int a1] P (fun r P' => r = some (.int (-1002))) := by
  have h := MODK.of h
  refine EvP.of qm_228 (Nat.le_of_ble_eq_true rfl) rfl ?_
  show MEvP _ none q_228 0 [(0, .ref 301), (1, .int a1)] [] _ 0 0 _
  refine mp_a (a_iload_n dX7_refusal_0 rfl) (mpp 1 rfl ?_)
  refine mp_a (a_iconst (v := 0) dX7_refusal_1 rfl) (mpp 2 rfl ?_)
  refine mp_a (a_iconst (v := 2) dX7_refusal_2 rfl) (mpp 3 rfl ?_)
  refine mp_calls (i := 61) (q' := q_127) (As := [.int a1, .int 0, .int 2]) (rest := []) dX7_refusal_3 rfl qm_127 (by decide) rfl (Nat.le_of_ble_eq_true rfl) rfl ⟨rfl, rfl⟩ ⟨Nat.le_of_ble_eq_true rfl, Nat.le_of_ble_eq_true rfl⟩ (EvP.mono (by decide) (m_isIn_lt h1)) (fun r1 P1 g1 => mpp 6 rfl ?_)
  obtain ⟨rfl, rfl⟩ := g1
  show MEvP _ none q_228 6 [(0, .ref 301), (1, .int a1)] [.int 0] _ _ _ _
  refine mp_Tf (t := 13) (j_if_ne dX7_refusal_6) (by decide) (by decide) (mpp 9 rfl ?_)
  refine mp_a (a_sipush (v := -1002) dX7_refusal_9 rfl) (mpp 12 rfl ?_)
  exact mp_iret (rfl) dX7_refusal_12 (Or.inl rfl)

set_option maxRecDepth 100000 in
set_option maxHeartbeats 4000000 in
theorem mo_refusal_2 {P : mP} (a1 : Int32)  (h : MOD P) (h1 : ¬ a1 < 0) (h2 : 2 < a1) : EvP 10 228 [.ref 301, .int a1] P (fun r P' => r = some (.int (-1002))) := by
  have h := MODK.of h
  refine EvP.of qm_228 (Nat.le_of_ble_eq_true rfl) rfl ?_
  show MEvP _ none q_228 0 [(0, .ref 301), (1, .int a1)] [] _ 0 0 _
  refine mp_a (a_iload_n dX7_refusal_0 rfl) (mpp 1 rfl ?_)
  refine mp_a (a_iconst (v := 0) dX7_refusal_1 rfl) (mpp 2 rfl ?_)
  refine mp_a (a_iconst (v := 2) dX7_refusal_2 rfl) (mpp 3 rfl ?_)
  refine mp_calls (i := 61) (q' := q_127) (As := [.int a1, .int 0, .int 2]) (rest := []) dX7_refusal_3 rfl qm_127 (by decide) rfl (Nat.le_of_ble_eq_true rfl) rfl ⟨rfl, rfl⟩ ⟨Nat.le_of_ble_eq_true rfl, Nat.le_of_ble_eq_true rfl⟩ (EvP.mono (by decide) (m_isIn_gt h1 h2)) (fun r1 P1 g1 => mpp 6 rfl ?_)
  obtain ⟨rfl, rfl⟩ := g1
  show MEvP _ none q_228 6 [(0, .ref 301), (1, .int a1)] [.int 0] _ _ _ _
  refine mp_Tf (t := 13) (j_if_ne dX7_refusal_6) (by decide) (by decide) (mpp 9 rfl ?_)
  refine mp_a (a_sipush (v := -1002) dX7_refusal_9 rfl) (mpp 12 rfl ?_)
  exact mp_iret (rfl) dX7_refusal_12 (Or.inl rfl)

set_option maxRecDepth 100000 in
set_option maxHeartbeats 4000000 in
theorem mo_refusal_3 {P : mP} (a1 : Int32)  (h : MOD P) (h1 : ¬ a1 < 0) (h2 : ¬ 2 < a1) : EvP 10 228 [.ref 301, .int a1] P (fun r P' => r = some (.int (-1004))) := by
  have h := MODK.of h
  refine EvP.of qm_228 (Nat.le_of_ble_eq_true rfl) rfl ?_
  show MEvP _ none q_228 0 [(0, .ref 301), (1, .int a1)] [] _ 0 0 _
  refine mp_a (a_iload_n dX7_refusal_0 rfl) (mpp 1 rfl ?_)
  refine mp_a (a_iconst (v := 0) dX7_refusal_1 rfl) (mpp 2 rfl ?_)
  refine mp_a (a_iconst (v := 2) dX7_refusal_2 rfl) (mpp 3 rfl ?_)
  refine mp_calls (i := 61) (q' := q_127) (As := [.int a1, .int 0, .int 2]) (rest := []) dX7_refusal_3 rfl qm_127 (by decide) rfl (Nat.le_of_ble_eq_true rfl) rfl ⟨rfl, rfl⟩ ⟨Nat.le_of_ble_eq_true rfl, Nat.le_of_ble_eq_true rfl⟩ (EvP.mono (by decide) (m_isIn_in h1 h2)) (fun r1 P1 g1 => mpp 6 rfl ?_)
  obtain ⟨rfl, rfl⟩ := g1
  show MEvP _ none q_228 6 [(0, .ref 301), (1, .int a1)] [.int 1] _ _ _ _
  refine mp_Tt (t := 13) (j_if_ne dX7_refusal_6) (by decide) (by decide) ?_
  refine mp_a (a_aload_n dX7_refusal_13 rfl) (mpp 14 rfl ?_)
  refine mp_get (i := 68) (v := .int 0) dX7_refusal_14 rfl (h.f (by decide) (by decide) p0_301) rfl (mpp 17 rfl ?_)
  refine mp_Tf (t := 26) (j_if_ne dX7_refusal_17) (by decide) (by decide) (mpp 20 rfl ?_)
  refine mp_a (a_sipush (v := -1004) dX7_refusal_20 rfl) (mpp 23 rfl ?_)
  refine mp_a (a_goto (t := 53) dX7_refusal_23 (by decide)) ?_
  exact mp_iret (rfl) dX7_refusal_53 (Or.inl rfl)

set_option maxRecDepth 100000 in
set_option maxHeartbeats 4000000 in
theorem mo_account_0 {P : mP}  (h : MOD P)  : EvP 10 229 [.ref 301, .int 0] P (fun r P' => r = some (.int 0)) := by
  have h := MODK.of h
  refine EvP.of qm_229 (Nat.le_of_ble_eq_true rfl) rfl ?_
  show MEvP _ none q_229 0 [(0, .ref 301), (1, .int 0)] [] _ 0 0 _
  refine mp_a (a_iload_n dX7_account_0 rfl) (mpp 1 rfl ?_)
  refine mp_t (s_tabIn (t := 68) dX7_account_1 (by decide) rfl (by decide)) ?_
  refine mp_a (a_aload_n dX7_account_68 rfl) (mpp 69 rfl ?_)
  refine mp_get (i := 9) (v := .ref 302) dX7_account_69 rfl (h.f (by decide) (by decide) p0_301) rfl (mpp 72 rfl ?_)
  refine mp_a (a_iconst (v := 0) dX7_account_72 rfl) (mpp 73 rfl ?_)
  refine mp_ial (N := 155) (v := 0) dX7_account_73 (h.f (by decide) (by decide) p0_302) rfl (by decide) rfl (mpp 74 rfl ?_)
  exact mp_iret (rfl) dX7_account_74 (Or.inl rfl)

set_option maxRecDepth 100000 in
set_option maxHeartbeats 4000000 in
theorem mo_account_1 {P : mP}  (h : MOD P)  : EvP 10 229 [.ref 301, .int 1] P (fun r P' => r = some (.int 0)) := by
  have h := MODK.of h
  refine EvP.of qm_229 (Nat.le_of_ble_eq_true rfl) rfl ?_
  show MEvP _ none q_229 0 [(0, .ref 301), (1, .int 1)] [] _ 0 0 _
  refine mp_a (a_iload_n dX7_account_0 rfl) (mpp 1 rfl ?_)
  refine mp_t (s_tabIn (t := 75) dX7_account_1 (by decide) rfl (by decide)) ?_
  refine mp_a (a_aload_n dX7_account_75 rfl) (mpp 76 rfl ?_)
  refine mp_get (i := 9) (v := .ref 302) dX7_account_76 rfl (h.f (by decide) (by decide) p0_301) rfl (mpp 79 rfl ?_)
  refine mp_a (a_iconst (v := 0) dX7_account_79 rfl) (mpp 80 rfl ?_)
  refine mp_ial (N := 155) (v := 0) dX7_account_80 (h.f (by decide) (by decide) p0_302) rfl (by decide) rfl (mpp 81 rfl ?_)
  refine mp_a (a_aload_n dX7_account_81 rfl) (mpp 82 rfl ?_)
  refine mp_a (a_iconst (v := 0) dX7_account_82 rfl) (mpp 83 rfl ?_)
  refine mp_callv (i := 351) (q' := q_230) (As := [.int 0]) (rest := [.int 0]) dX7_account_83 rfl qm_230 (by decide) rfl (h.f (by decide) (by decide) p0_301) (by decide) (Nat.le_of_ble_eq_true rfl) rfl ⟨rfl, rfl⟩ ⟨Nat.le_of_ble_eq_true rfl, Nat.le_of_ble_eq_true rfl⟩ (EvP.mono (by decide) (m_allOf h)) (fun r1 P1 g1 => mpp 86 rfl ?_)
  obtain ⟨rfl, rfl⟩ := g1
  show MEvP _ none q_229 86 [(0, .ref 301), (1, .int 1)] [.int 0, .int 0] _ _ _ _
  refine mp_t (s_isub (v := 0) dX7_account_86 rfl) (mpp 87 rfl ?_)
  exact mp_iret (rfl) dX7_account_87 (Or.inl rfl)

set_option maxRecDepth 100000 in
set_option maxHeartbeats 4000000 in
theorem mo_account_2 {P : mP}  (h : MOD P)  : EvP 10 229 [.ref 301, .int 2] P (fun r P' => r = some (.int 0)) := by
  have h := MODK.of h
  refine EvP.of qm_229 (Nat.le_of_ble_eq_true rfl) rfl ?_
  show MEvP _ none q_229 0 [(0, .ref 301), (1, .int 2)] [] _ 0 0 _
  refine mp_a (a_iload_n dX7_account_0 rfl) (mpp 1 rfl ?_)
  refine mp_t (s_tabIn (t := 88) dX7_account_1 (by decide) rfl (by decide)) ?_
  refine mp_a (a_aload_n dX7_account_88 rfl) (mpp 89 rfl ?_)
  refine mp_a (a_iconst (v := 0) dX7_account_89 rfl) (mpp 90 rfl ?_)
  refine mp_callv (i := 351) (q' := q_230) (As := [.int 0]) (rest := []) dX7_account_90 rfl qm_230 (by decide) rfl (h.f (by decide) (by decide) p0_301) (by decide) (Nat.le_of_ble_eq_true rfl) rfl ⟨rfl, rfl⟩ ⟨Nat.le_of_ble_eq_true rfl, Nat.le_of_ble_eq_true rfl⟩ (EvP.mono (by decide) (m_allOf h)) (fun r1 P1 g1 => mpp 93 rfl ?_)
  obtain ⟨rfl, rfl⟩ := g1
  show MEvP _ none q_229 93 [(0, .ref 301), (1, .int 2)] [.int 0] _ _ _ _
  exact mp_iret (rfl) dX7_account_93 (Or.inl rfl)

set_option maxRecDepth 100000 in
set_option maxHeartbeats 4000000 in
theorem mo_account_3 {P : mP}  (h : MOD P)  : EvP 10 229 [.ref 301, .int 3] P (fun r P' => r = some (.int 0)) := by
  have h := MODK.of h
  refine EvP.of qm_229 (Nat.le_of_ble_eq_true rfl) rfl ?_
  show MEvP _ none q_229 0 [(0, .ref 301), (1, .int 3)] [] _ 0 0 _
  refine mp_a (a_iload_n dX7_account_0 rfl) (mpp 1 rfl ?_)
  refine mp_t (s_tabIn (t := 94) dX7_account_1 (by decide) rfl (by decide)) ?_
  refine mp_a (a_aload_n dX7_account_94 rfl) (mpp 95 rfl ?_)
  refine mp_a (a_bipush (v := 7) dX7_account_95 rfl) (mpp 97 rfl ?_)
  refine mp_callv (i := 351) (q' := q_230) (As := [.int 7]) (rest := []) dX7_account_97 rfl qm_230 (by decide) rfl (h.f (by decide) (by decide) p0_301) (by decide) (Nat.le_of_ble_eq_true rfl) rfl ⟨rfl, rfl⟩ ⟨Nat.le_of_ble_eq_true rfl, Nat.le_of_ble_eq_true rfl⟩ (EvP.mono (by decide) (m_allOf h)) (fun r1 P1 g1 => mpp 100 rfl ?_)
  obtain ⟨rfl, rfl⟩ := g1
  show MEvP _ none q_229 100 [(0, .ref 301), (1, .int 3)] [.int 0] _ _ _ _
  exact mp_iret (rfl) dX7_account_100 (Or.inl rfl)

set_option maxRecDepth 100000 in
set_option maxHeartbeats 4000000 in
theorem mo_account_4 {P : mP}  (h : MOD P)  : EvP 10 229 [.ref 301, .int 4] P (fun r P' => r = some (.int 30)) := by
  have h := MODK.of h
  refine EvP.of qm_229 (Nat.le_of_ble_eq_true rfl) rfl ?_
  show MEvP _ none q_229 0 [(0, .ref 301), (1, .int 4)] [] _ 0 0 _
  refine mp_a (a_iload_n dX7_account_0 rfl) (mpp 1 rfl ?_)
  refine mp_t (s_tabIn (t := 101) dX7_account_1 (by decide) rfl (by decide)) ?_
  refine mp_a (a_aload_n dX7_account_101 rfl) (mpp 102 rfl ?_)
  refine mp_get (i := 9) (v := .ref 302) dX7_account_102 rfl (h.f (by decide) (by decide) p0_301) rfl (mpp 105 rfl ?_)
  refine mp_a (a_iconst (v := 1) dX7_account_105 rfl) (mpp 106 rfl ?_)
  refine mp_ial (N := 155) (v := 30) dX7_account_106 (h.f (by decide) (by decide) p0_302) rfl (by decide) rfl (mpp 107 rfl ?_)
  exact mp_iret (rfl) dX7_account_107 (Or.inl rfl)

set_option maxRecDepth 100000 in
set_option maxHeartbeats 4000000 in
theorem mo_account_5 {P : mP}  (h : MOD P)  : EvP 10 229 [.ref 301, .int 5] P (fun r P' => r = some (.int 30)) := by
  have h := MODK.of h
  refine EvP.of qm_229 (Nat.le_of_ble_eq_true rfl) rfl ?_
  show MEvP _ none q_229 0 [(0, .ref 301), (1, .int 5)] [] _ 0 0 _
  refine mp_a (a_iload_n dX7_account_0 rfl) (mpp 1 rfl ?_)
  refine mp_t (s_tabIn (t := 108) dX7_account_1 (by decide) rfl (by decide)) ?_
  refine mp_a (a_aload_n dX7_account_108 rfl) (mpp 109 rfl ?_)
  refine mp_get (i := 9) (v := .ref 302) dX7_account_109 rfl (h.f (by decide) (by decide) p0_301) rfl (mpp 112 rfl ?_)
  refine mp_a (a_iconst (v := 1) dX7_account_112 rfl) (mpp 113 rfl ?_)
  refine mp_ial (N := 155) (v := 30) dX7_account_113 (h.f (by decide) (by decide) p0_302) rfl (by decide) rfl (mpp 114 rfl ?_)
  refine mp_a (a_aload_n dX7_account_114 rfl) (mpp 115 rfl ?_)
  refine mp_callv (i := 231) (q' := q_184) (As := []) (rest := [.int 30]) dX7_account_115 rfl qm_184 (by decide) rfl (h.f (by decide) (by decide) p0_301) (by decide) (Nat.le_of_ble_eq_true rfl) rfl ⟨rfl, rfl⟩ ⟨Nat.le_of_ble_eq_true rfl, Nat.le_of_ble_eq_true rfl⟩ (EvP.mono (by decide) (m_used h)) (fun r1 P1 g1 => mpp 118 rfl ?_)
  obtain ⟨rfl, rfl⟩ := g1
  show MEvP _ none q_229 118 [(0, .ref 301), (1, .int 5)] [.int 0, .int 30] _ _ _ _
  refine mp_t (s_isub (v := 30) dX7_account_118 rfl) (mpp 119 rfl ?_)
  exact mp_iret (rfl) dX7_account_119 (Or.inl rfl)

set_option maxRecDepth 100000 in
set_option maxHeartbeats 4000000 in
theorem mo_account_6 {P : mP}  (h : MOD P)  : EvP 10 229 [.ref 301, .int 6] P (fun r P' => r = some (.int 0)) := by
  have h := MODK.of h
  refine EvP.of qm_229 (Nat.le_of_ble_eq_true rfl) rfl ?_
  show MEvP _ none q_229 0 [(0, .ref 301), (1, .int 6)] [] _ 0 0 _
  refine mp_a (a_iload_n dX7_account_0 rfl) (mpp 1 rfl ?_)
  refine mp_t (s_tabIn (t := 120) dX7_account_1 (by decide) rfl (by decide)) ?_
  refine mp_a (a_aload_n dX7_account_120 rfl) (mpp 121 rfl ?_)
  refine mp_callv (i := 354) (q' := q_231) (As := []) (rest := []) dX7_account_121 rfl qm_231 (by decide) rfl (h.f (by decide) (by decide) p0_301) (by decide) (Nat.le_of_ble_eq_true rfl) rfl ⟨rfl, rfl⟩ ⟨Nat.le_of_ble_eq_true rfl, Nat.le_of_ble_eq_true rfl⟩ (EvP.mono (by decide) (m_panelsOfAll h)) (fun r1 P1 g1 => mpp 124 rfl ?_)
  obtain ⟨rfl, rfl⟩ := g1
  show MEvP _ none q_229 124 [(0, .ref 301), (1, .int 6)] [.int 0] _ _ _ _
  exact mp_iret (rfl) dX7_account_124 (Or.inl rfl)

set_option maxRecDepth 100000 in
set_option maxHeartbeats 4000000 in
theorem mo_account_7 {P : mP}  (h : MOD P)  : EvP 10 229 [.ref 301, .int 7] P (fun r P' => r = some (.int 0)) := by
  have h := MODK.of h
  refine EvP.of qm_229 (Nat.le_of_ble_eq_true rfl) rfl ?_
  show MEvP _ none q_229 0 [(0, .ref 301), (1, .int 7)] [] _ 0 0 _
  refine mp_a (a_iload_n dX7_account_0 rfl) (mpp 1 rfl ?_)
  refine mp_t (s_tabIn (t := 125) dX7_account_1 (by decide) rfl (by decide)) ?_
  refine mp_a (a_aload_n dX7_account_125 rfl) (mpp 126 rfl ?_)
  refine mp_a (a_iconst (v := 3) dX7_account_126 rfl) (mpp 127 rfl ?_)
  refine mp_callv (i := 351) (q' := q_230) (As := [.int 3]) (rest := []) dX7_account_127 rfl qm_230 (by decide) rfl (h.f (by decide) (by decide) p0_301) (by decide) (Nat.le_of_ble_eq_true rfl) rfl ⟨rfl, rfl⟩ ⟨Nat.le_of_ble_eq_true rfl, Nat.le_of_ble_eq_true rfl⟩ (EvP.mono (by decide) (m_allOf h)) (fun r1 P1 g1 => mpp 130 rfl ?_)
  obtain ⟨rfl, rfl⟩ := g1
  show MEvP _ none q_229 130 [(0, .ref 301), (1, .int 7)] [.int 0] _ _ _ _
  exact mp_iret (rfl) dX7_account_130 (Or.inl rfl)

set_option maxRecDepth 100000 in
set_option maxHeartbeats 4000000 in
theorem mo_account_8 {P : mP}  (h : MOD P)  : EvP 10 229 [.ref 301, .int 8] P (fun r P' => r = some (.int 0)) := by
  have h := MODK.of h
  refine EvP.of qm_229 (Nat.le_of_ble_eq_true rfl) rfl ?_
  show MEvP _ none q_229 0 [(0, .ref 301), (1, .int 8)] [] _ 0 0 _
  refine mp_a (a_iload_n dX7_account_0 rfl) (mpp 1 rfl ?_)
  refine mp_t (s_tabIn (t := 131) dX7_account_1 (by decide) rfl (by decide)) ?_
  refine mp_a (a_aload_n dX7_account_131 rfl) (mpp 132 rfl ?_)
  refine mp_a (a_iconst (v := 4) dX7_account_132 rfl) (mpp 133 rfl ?_)
  refine mp_callv (i := 351) (q' := q_230) (As := [.int 4]) (rest := []) dX7_account_133 rfl qm_230 (by decide) rfl (h.f (by decide) (by decide) p0_301) (by decide) (Nat.le_of_ble_eq_true rfl) rfl ⟨rfl, rfl⟩ ⟨Nat.le_of_ble_eq_true rfl, Nat.le_of_ble_eq_true rfl⟩ (EvP.mono (by decide) (m_allOf h)) (fun r1 P1 g1 => mpp 136 rfl ?_)
  obtain ⟨rfl, rfl⟩ := g1
  show MEvP _ none q_229 136 [(0, .ref 301), (1, .int 8)] [.int 0] _ _ _ _
  exact mp_iret (rfl) dX7_account_136 (Or.inl rfl)

set_option maxRecDepth 100000 in
set_option maxHeartbeats 4000000 in
theorem mo_account_9 {P : mP}  (h : MOD P)  : EvP 10 229 [.ref 301, .int 9] P (fun r P' => r = some (.int 0)) := by
  have h := MODK.of h
  refine EvP.of qm_229 (Nat.le_of_ble_eq_true rfl) rfl ?_
  show MEvP _ none q_229 0 [(0, .ref 301), (1, .int 9)] [] _ 0 0 _
  refine mp_a (a_iload_n dX7_account_0 rfl) (mpp 1 rfl ?_)
  refine mp_t (s_tabIn (t := 137) dX7_account_1 (by decide) rfl (by decide)) ?_
  refine mp_a (a_aload_n dX7_account_137 rfl) (mpp 138 rfl ?_)
  refine mp_a (a_iconst (v := 5) dX7_account_138 rfl) (mpp 139 rfl ?_)
  refine mp_callv (i := 351) (q' := q_230) (As := [.int 5]) (rest := []) dX7_account_139 rfl qm_230 (by decide) rfl (h.f (by decide) (by decide) p0_301) (by decide) (Nat.le_of_ble_eq_true rfl) rfl ⟨rfl, rfl⟩ ⟨Nat.le_of_ble_eq_true rfl, Nat.le_of_ble_eq_true rfl⟩ (EvP.mono (by decide) (m_allOf h)) (fun r1 P1 g1 => mpp 142 rfl ?_)
  obtain ⟨rfl, rfl⟩ := g1
  show MEvP _ none q_229 142 [(0, .ref 301), (1, .int 9)] [.int 0] _ _ _ _
  exact mp_iret (rfl) dX7_account_142 (Or.inl rfl)

set_option maxRecDepth 100000 in
set_option maxHeartbeats 4000000 in
theorem mo_account_10 {P : mP}  (h : MOD P)  : EvP 10 229 [.ref 301, .int 10] P (fun r P' => r = some (.int 0)) := by
  have h := MODK.of h
  refine EvP.of qm_229 (Nat.le_of_ble_eq_true rfl) rfl ?_
  show MEvP _ none q_229 0 [(0, .ref 301), (1, .int 10)] [] _ 0 0 _
  refine mp_a (a_iload_n dX7_account_0 rfl) (mpp 1 rfl ?_)
  refine mp_t (s_tabIn (t := 143) dX7_account_1 (by decide) rfl (by decide)) ?_
  refine mp_a (a_aload_n dX7_account_143 rfl) (mpp 144 rfl ?_)
  refine mp_get (i := 9) (v := .ref 302) dX7_account_144 rfl (h.f (by decide) (by decide) p0_301) rfl (mpp 147 rfl ?_)
  refine mp_a (a_iconst (v := 2) dX7_account_147 rfl) (mpp 148 rfl ?_)
  refine mp_ial (N := 155) (v := 0) dX7_account_148 (h.f (by decide) (by decide) p0_302) rfl (by decide) rfl (mpp 149 rfl ?_)
  exact mp_iret (rfl) dX7_account_149 (Or.inl rfl)

set_option maxRecDepth 100000 in
set_option maxHeartbeats 4000000 in
theorem mo_account_11 {P : mP}  (h : MOD P)  : EvP 10 229 [.ref 301, .int 11] P (fun r P' => r = some (.int 0)) := by
  have h := MODK.of h
  refine EvP.of qm_229 (Nat.le_of_ble_eq_true rfl) rfl ?_
  show MEvP _ none q_229 0 [(0, .ref 301), (1, .int 11)] [] _ 0 0 _
  refine mp_a (a_iload_n dX7_account_0 rfl) (mpp 1 rfl ?_)
  refine mp_t (s_tabIn (t := 150) dX7_account_1 (by decide) rfl (by decide)) ?_
  refine mp_a (a_aload_n dX7_account_150 rfl) (mpp 151 rfl ?_)
  refine mp_get (i := 291) (v := .int 0) dX7_account_151 rfl (h.f (by decide) (by decide) p0_301) rfl (mpp 154 rfl ?_)
  exact mp_iret (rfl) dX7_account_154 (Or.inl rfl)

set_option maxRecDepth 100000 in
set_option maxHeartbeats 4000000 in
theorem mo_account_12 {P : mP}  (h : MOD P)  : EvP 10 229 [.ref 301, .int 12] P (fun r P' => r = some (.int 0)) := by
  have h := MODK.of h
  refine EvP.of qm_229 (Nat.le_of_ble_eq_true rfl) rfl ?_
  show MEvP _ none q_229 0 [(0, .ref 301), (1, .int 12)] [] _ 0 0 _
  refine mp_a (a_iload_n dX7_account_0 rfl) (mpp 1 rfl ?_)
  refine mp_t (s_tabIn (t := 155) dX7_account_1 (by decide) rfl (by decide)) ?_
  refine mp_a (a_aload_n dX7_account_155 rfl) (mpp 156 rfl ?_)
  refine mp_get (i := 58) (v := .int 0) dX7_account_156 rfl (h.f (by decide) (by decide) p0_301) rfl (mpp 159 rfl ?_)
  exact mp_iret (rfl) dX7_account_159 (Or.inl rfl)

set_option maxRecDepth 100000 in
set_option maxHeartbeats 4000000 in
theorem mo_account_o {P : mP} (a1 : Int32)  (h : MOD P) (h1 : a1.toInt < 0 ∨ 12 < a1.toInt) : EvP 10 229 [.ref 301, .int a1] P (fun r P' => r = some (.int (-1002))) := by
  have h := MODK.of h
  refine EvP.of qm_229 (Nat.le_of_ble_eq_true rfl) rfl ?_
  show MEvP _ none q_229 0 [(0, .ref 301), (1, .int a1)] [] _ 0 0 _
  refine mp_a (a_iload_n dX7_account_0 rfl) (mpp 1 rfl ?_)
  refine mp_t (s_tabOut (t := 160) dX7_account_1 h1 (by decide)) ?_
  refine mp_a (a_sipush (v := -1002) dX7_account_160 rfl) (mpp 163 rfl ?_)
  exact mp_iret (rfl) dX7_account_163 (Or.inl rfl)

set_option maxRecDepth 100000 in
set_option maxHeartbeats 4000000 in
theorem mo_append_1 {P : mP} (a1 : Int32)  (h : MOD P) (h1 : a1 < 32) : EvP 10 214 [.ref 301, .int a1] P (fun r P' => r = some (.int (-1002))) := by
  have h := MODK.of h
  refine EvP.of qm_214 (Nat.le_of_ble_eq_true rfl) rfl ?_
  show MEvP _ none q_214 0 [(0, .ref 301), (1, .int a1)] [] _ 0 0 _
  refine mp_a (a_iload_n dX7_append_0 rfl) (mpp 1 rfl ?_)
  refine mp_a (a_bipush (v := 32) dX7_append_1 rfl) (mpp 3 rfl ?_)
  refine mp_a (a_bipush (v := 126) dX7_append_3 rfl) (mpp 5 rfl ?_)
  refine mp_calls (i := 61) (q' := q_127) (As := [.int a1, .int 32, .int 126]) (rest := []) dX7_append_5 rfl qm_127 (by decide) rfl (Nat.le_of_ble_eq_true rfl) rfl ⟨rfl, rfl⟩ ⟨Nat.le_of_ble_eq_true rfl, Nat.le_of_ble_eq_true rfl⟩ (EvP.mono (by decide) (m_isIn_lt h1)) (fun r1 P1 g1 => mpp 8 rfl ?_)
  obtain ⟨rfl, rfl⟩ := g1
  show MEvP _ none q_214 8 [(0, .ref 301), (1, .int a1)] [.int 0] _ _ _ _
  refine mp_Tt (t := 20) (j_if_eq dX7_append_8) (by decide) (by decide) ?_
  refine mp_a (a_sipush (v := -1002) dX7_append_20 rfl) (mpp 23 rfl ?_)
  exact mp_iret (rfl) dX7_append_23 (Or.inl rfl)

set_option maxRecDepth 100000 in
set_option maxHeartbeats 4000000 in
theorem mo_append_2 {P : mP} (a1 : Int32)  (h : MOD P) (h1 : ¬ a1 < 32) (h2 : 126 < a1) : EvP 10 214 [.ref 301, .int a1] P (fun r P' => r = some (.int (-1002))) := by
  have h := MODK.of h
  refine EvP.of qm_214 (Nat.le_of_ble_eq_true rfl) rfl ?_
  show MEvP _ none q_214 0 [(0, .ref 301), (1, .int a1)] [] _ 0 0 _
  refine mp_a (a_iload_n dX7_append_0 rfl) (mpp 1 rfl ?_)
  refine mp_a (a_bipush (v := 32) dX7_append_1 rfl) (mpp 3 rfl ?_)
  refine mp_a (a_bipush (v := 126) dX7_append_3 rfl) (mpp 5 rfl ?_)
  refine mp_calls (i := 61) (q' := q_127) (As := [.int a1, .int 32, .int 126]) (rest := []) dX7_append_5 rfl qm_127 (by decide) rfl (Nat.le_of_ble_eq_true rfl) rfl ⟨rfl, rfl⟩ ⟨Nat.le_of_ble_eq_true rfl, Nat.le_of_ble_eq_true rfl⟩ (EvP.mono (by decide) (m_isIn_gt h1 h2)) (fun r1 P1 g1 => mpp 8 rfl ?_)
  obtain ⟨rfl, rfl⟩ := g1
  show MEvP _ none q_214 8 [(0, .ref 301), (1, .int a1)] [.int 0] _ _ _ _
  refine mp_Tt (t := 20) (j_if_eq dX7_append_8) (by decide) (by decide) ?_
  refine mp_a (a_sipush (v := -1002) dX7_append_20 rfl) (mpp 23 rfl ?_)
  exact mp_iret (rfl) dX7_append_23 (Or.inl rfl)

set_option maxRecDepth 100000 in
set_option maxHeartbeats 4000000 in
theorem mo_append_3 {P : mP} (a1 : Int32)  (h : MOD P) (h1 : ¬ a1 < 32) (h2 : ¬ 126 < a1) : EvP 10 214 [.ref 301, .int a1] P (fun r P' => r = some (.int 1)) := by
  have h := MODK.of h
  refine EvP.of qm_214 (Nat.le_of_ble_eq_true rfl) rfl ?_
  show MEvP _ none q_214 0 [(0, .ref 301), (1, .int a1)] [] _ 0 0 _
  refine mp_a (a_iload_n dX7_append_0 rfl) (mpp 1 rfl ?_)
  refine mp_a (a_bipush (v := 32) dX7_append_1 rfl) (mpp 3 rfl ?_)
  refine mp_a (a_bipush (v := 126) dX7_append_3 rfl) (mpp 5 rfl ?_)
  refine mp_calls (i := 61) (q' := q_127) (As := [.int a1, .int 32, .int 126]) (rest := []) dX7_append_5 rfl qm_127 (by decide) rfl (Nat.le_of_ble_eq_true rfl) rfl ⟨rfl, rfl⟩ ⟨Nat.le_of_ble_eq_true rfl, Nat.le_of_ble_eq_true rfl⟩ (EvP.mono (by decide) (m_isIn_in h1 h2)) (fun r1 P1 g1 => mpp 8 rfl ?_)
  obtain ⟨rfl, rfl⟩ := g1
  show MEvP _ none q_214 8 [(0, .ref 301), (1, .int a1)] [.int 1] _ _ _ _
  refine mp_Tf (t := 20) (j_if_eq dX7_append_8) (by decide) (by decide) (mpp 11 rfl ?_)
  refine mp_a (a_aload_n dX7_append_11 rfl) (mpp 12 rfl ?_)
  refine mp_get (i := 291) (v := .int 0) dX7_append_12 rfl (h.f (by decide) (by decide) p0_301) rfl (mpp 15 rfl ?_)
  refine mp_a (a_bipush (v := 80) dX7_append_15 rfl) (mpp 17 rfl ?_)
  refine mp_Tt (t := 24) (j_icmp_ne dX7_append_17) (by decide) (by decide) ?_
  refine mp_a (a_aload_n dX7_append_24 rfl) (mpp 25 rfl ?_)
  refine mp_get (i := 47) (v := .ref 314) dX7_append_25 rfl (h.f (by decide) (by decide) p0_301) rfl (mpp 28 rfl ?_)
  refine mp_a (a_aload_n dX7_append_28 rfl) (mpp 29 rfl ?_)
  refine mp_get (i := 291) (v := .int 0) dX7_append_29 rfl (h.f (by decide) (by decide) p0_301) rfl (mpp 32 rfl ?_)
  refine mp_a (a_iload_n dX7_append_32 rfl) (mpp 33 rfl ?_)
  refine mp_ias (N := 80) dX7_append_33 (h.f (by decide) (by decide) p0_314) rfl (by decide) (mpp 34 rfl ?_)
  refine mp_a (a_aload_n dX7_append_34 rfl) (mpp 35 rfl ?_)
  refine mp_t (s_dup dX7_append_35 rfl) (mpp 36 rfl ?_)
  refine mp_get (i := 291) (v := .int 0) dX7_append_36 rfl (mset_ne (h.f (by decide) (by decide) p0_301) (by decide)) rfl (mpp 39 rfl ?_)
  refine mp_a (a_iconst (v := 1) dX7_append_39 rfl) (mpp 40 rfl ?_)
  refine mp_t (s_iadd (v := 1) dX7_append_40 rfl) (mpp 41 rfl ?_)
  refine mp_put (i := 291) dX7_append_41 rfl (mset_ne (h.f (by decide) (by decide) p0_301) (by decide)) (Nat.le_of_ble_eq_true rfl) rfl (Or.inl rfl) (mpp 44 rfl ?_)
  refine mp_a (a_aload_n dX7_append_44 rfl) (mpp 45 rfl ?_)
  refine mp_get (i := 291) (v := .int 1) dX7_append_45 rfl (mset_eq (mset_ne (h.f (by decide) (by decide) p0_301) (by decide))) rfl (mpp 48 rfl ?_)
  exact mp_iret (rfl) dX7_append_48 (Or.inl rfl)

set_option maxRecDepth 100000 in
set_option maxHeartbeats 4000000 in
theorem mo_read {P : mP}  (h : MOD P)  : EvP 10 215 [.ref 301] P (fun r P' => r = some (.int (-2000))) := by
  have h := MODK.of h
  refine EvP.of qm_215 (Nat.le_of_ble_eq_true rfl) rfl ?_
  show MEvP _ none q_215 0 [(0, .ref 301)] [] _ 0 0 _
  refine mp_a (a_aload_n dX7_read_0 rfl) (mpp 1 rfl ?_)
  refine mp_callv (i := 342) (q' := q_216) (As := []) (rest := []) dX7_read_1 rfl qm_216 (by decide) rfl (h.f (by decide) (by decide) p0_301) (by decide) (Nat.le_of_ble_eq_true rfl) rfl ⟨rfl, rfl⟩ ⟨Nat.le_of_ble_eq_true rfl, Nat.le_of_ble_eq_true rfl⟩ (EvP.mono (by decide) (m_isText (h.f (by decide) (by decide) p0_301))) (fun r1 P1 g1 => mpp 4 rfl ?_)
  obtain ⟨rfl, rfl⟩ := g1
  show MEvP _ none q_215 4 [(0, .ref 301)] [.int 0] _ _ _ _
  refine mp_Tf (t := 21) (j_if_ne dX7_read_4) (by decide) (by decide) (mpp 7 rfl ?_)
  refine mp_a (a_aload_n dX7_read_7 rfl) (mpp 8 rfl ?_)
  refine mp_a (a_iconst (v := 0) dX7_read_8 rfl) (mpp 9 rfl ?_)
  refine mp_put (i := 291) dX7_read_9 rfl (mset_eq (mset_eq (h.f (by decide) (by decide) p0_301))) (Nat.le_of_ble_eq_true rfl) rfl (Or.inl rfl) (mpp 12 rfl ?_)
  refine mp_a (a_sipush (v := -2000) dX7_read_12 rfl) (mpp 15 rfl ?_)
  refine mp_a (a_aload_n dX7_read_15 rfl) (mpp 16 rfl ?_)
  refine mp_get (i := 294) (v := .int 0) dX7_read_16 rfl (mset_eq (mset_eq (mset_eq (h.f (by decide) (by decide) p0_301)))) rfl (mpp 19 rfl ?_)
  refine mp_t (s_isub (v := (-2000)) dX7_read_19 rfl) (mpp 20 rfl ?_)
  exact mp_iret (rfl) dX7_read_20 (Or.inl rfl)

set_option maxRecDepth 100000 in
set_option maxHeartbeats 4000000 in
theorem mo_save {P : mP}  (h : MOD P)  : EvP 10 234 [.ref 301] P (fun r P' => r = some (.int 0)) := by
  have h := MODK.of h
  obtain ⟨w, hw, hl⟩ := h.2
  refine EvP.of qm_234 (Nat.le_of_ble_eq_true rfl) rfl ?_
  show MEvP _ none q_234 0 [(0, .ref 301)] [] _ 0 0 _
  refine mp_a (a_aload_n dX7_save_0 rfl) (mpp 1 rfl ?_)
  refine mp_get (i := 9) (v := .ref 302) dX7_save_1 rfl (h.f (by decide) (by decide) p0_301) rfl (mpp 4 rfl ?_)
  refine mp_a (a_iconst (v := 0) dX7_save_4 rfl) (mpp 5 rfl ?_)
  refine mp_a (a_aload_n dX7_save_5 rfl) (mpp 6 rfl ?_)
  refine mp_get (i := 16) (v := .ref 304) dX7_save_6 rfl (h.f (by decide) (by decide) p0_301) rfl (mpp 9 rfl ?_)
  refine mp_a (a_iconst (v := 0) dX7_save_9 rfl) (mpp 10 rfl ?_)
  refine mp_calls (i := 54) (q' := q_125) (As := [.ref 302, .int 0, .ref 304, .int 0]) (rest := []) dX7_save_10 rfl qm_125 (by decide) rfl (Nat.le_of_ble_eq_true rfl) rfl ⟨rfl, rfl⟩ ⟨Nat.le_of_ble_eq_true rfl, Nat.le_of_ble_eq_true rfl⟩ (EvP.mono (by decide) (m_copies (i := 0) (j := 0) (h.f (by decide) (by decide) p0_302) (h.f (by decide) (by decide) p0_304) (by decide) (by decide) (by decide) (by decide) (by decide))) (fun r1 P1 g1 => mpp 13 rfl ?_)
  obtain ⟨rfl, rfl⟩ := g1
  show MEvP _ none q_234 13 [(0, .ref 301)] [] _ _ _ _
  refine mp_a (a_aload_n dX7_save_13 rfl) (mpp 14 rfl ?_)
  refine mp_a (a_iconst (v := 1) dX7_save_14 rfl) (mpp 15 rfl ?_)
  refine mp_put (i := 363) dX7_save_15 rfl (mset_ne (h.f (by decide) (by decide) p0_301) (by decide)) (Nat.le_of_ble_eq_true rfl) rfl (Or.inl rfl) (mpp 18 rfl ?_)
  refine mp_a (a_aload_n dX7_save_18 rfl) (mpp 19 rfl ?_)
  refine mp_get (i := 9) (v := .ref 302) dX7_save_19 rfl (mset_eq (mset_ne (h.f (by decide) (by decide) p0_301) (by decide))) rfl (mpp 22 rfl ?_)
  refine mp_a (a_iconst (v := 0) dX7_save_22 rfl) (mpp 23 rfl ?_)
  refine mp_ial (N := 155) (v := 0) dX7_save_23 (mset_ne (mset_ne (h.f (by decide) (by decide) p0_302) (by decide)) (by decide)) rfl (by decide) rfl (mpp 24 rfl ?_)
  exact mp_iret (rfl) dX7_save_24 (Or.inl rfl)
