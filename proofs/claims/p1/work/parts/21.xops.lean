/-! the class, on a fresh object: what has no piece (written by a program) -/
theorem dX4_codeHere_0 : decode cX4_codeHere 0 = .ok (.aload_n 0, 1) := by decide +kernel
theorem dX4_codeHere_1 : decode cX4_codeHere 1 = .ok (.getfield 23, 3) := by decide +kernel
theorem dX4_codeHere_4 : decode cX4_codeHere 4 = .ok (.aload_n 0, 1) := by decide +kernel
theorem dX4_codeHere_5 : decode cX4_codeHere 5 = .ok (.getfield 15, 3) := by decide +kernel
theorem dX4_codeHere_8 : decode cX4_codeHere 8 = .ok (.if_icmp .ge 17, 3) := by decide +kernel
theorem dX4_codeHere_25 : decode cX4_codeHere 25 = .ok (.iconst 0, 1) := by decide +kernel
theorem dX4_codeHere_26 : decode cX4_codeHere 26 = .ok (.ireturn, 1) := by decide +kernel
theorem dX5_countOfKind_0 : decode cX5_countOfKind 0 = .ok (.iconst 0, 1) := by decide +kernel
theorem dX5_countOfKind_1 : decode cX5_countOfKind 1 = .ok (.istore_n 2, 1) := by decide +kernel
theorem dX5_countOfKind_2 : decode cX5_countOfKind 2 = .ok (.iconst 0, 1) := by decide +kernel
theorem dX5_countOfKind_3 : decode cX5_countOfKind 3 = .ok (.istore_n 3, 1) := by decide +kernel
theorem dX5_countOfKind_4 : decode cX5_countOfKind 4 = .ok (.iload_n 3, 1) := by decide +kernel
theorem dX5_countOfKind_5 : decode cX5_countOfKind 5 = .ok (.aload_n 0, 1) := by decide +kernel
theorem dX5_countOfKind_6 : decode cX5_countOfKind 6 = .ok (.getfield 22, 3) := by decide +kernel
theorem dX5_countOfKind_9 : decode cX5_countOfKind 9 = .ok (.if_icmp .ge 33, 3) := by decide +kernel
theorem dX5_countOfKind_42 : decode cX5_countOfKind 42 = .ok (.iload_n 2, 1) := by decide +kernel
theorem dX5_countOfKind_43 : decode cX5_countOfKind 43 = .ok (.ireturn, 1) := by decide +kernel
theorem dX5_creasesOf_0 : decode cX5_creasesOf 0 = .ok (.iconst 0, 1) := by decide +kernel
theorem dX5_creasesOf_1 : decode cX5_creasesOf 1 = .ok (.istore_n 2, 1) := by decide +kernel
theorem dX5_creasesOf_2 : decode cX5_creasesOf 2 = .ok (.iconst 0, 1) := by decide +kernel
theorem dX5_creasesOf_3 : decode cX5_creasesOf 3 = .ok (.istore_n 3, 1) := by decide +kernel
theorem dX5_creasesOf_4 : decode cX5_creasesOf 4 = .ok (.iload_n 3, 1) := by decide +kernel
theorem dX5_creasesOf_5 : decode cX5_creasesOf 5 = .ok (.aload_n 0, 1) := by decide +kernel
theorem dX5_creasesOf_6 : decode cX5_creasesOf 6 = .ok (.getfield 22, 3) := by decide +kernel
theorem dX5_creasesOf_9 : decode cX5_creasesOf 9 = .ok (.if_icmp .ge 30, 3) := by decide +kernel
theorem dX5_creasesOf_39 : decode cX5_creasesOf 39 = .ok (.iload_n 2, 1) := by decide +kernel
theorem dX5_creasesOf_40 : decode cX5_creasesOf 40 = .ok (.ireturn, 1) := by decide +kernel
theorem dX5_foldedCount_0 : decode cX5_foldedCount 0 = .ok (.iconst 0, 1) := by decide +kernel
theorem dX5_foldedCount_1 : decode cX5_foldedCount 1 = .ok (.istore_n 1, 1) := by decide +kernel
theorem dX5_foldedCount_2 : decode cX5_foldedCount 2 = .ok (.iconst 0, 1) := by decide +kernel
theorem dX5_foldedCount_3 : decode cX5_foldedCount 3 = .ok (.istore_n 2, 1) := by decide +kernel
theorem dX5_foldedCount_4 : decode cX5_foldedCount 4 = .ok (.iload_n 2, 1) := by decide +kernel
theorem dX5_foldedCount_5 : decode cX5_foldedCount 5 = .ok (.aload_n 0, 1) := by decide +kernel
theorem dX5_foldedCount_6 : decode cX5_foldedCount 6 = .ok (.getfield 22, 3) := by decide +kernel
theorem dX5_foldedCount_9 : decode cX5_foldedCount 9 = .ok (.if_icmp .ge 29, 3) := by decide +kernel
theorem dX5_foldedCount_38 : decode cX5_foldedCount 38 = .ok (.iload_n 1, 1) := by decide +kernel
theorem dX5_foldedCount_39 : decode cX5_foldedCount 39 = .ok (.ireturn, 1) := by decide +kernel
theorem dX5_occupied_0 : decode cX5_occupied 0 = .ok (.iconst 0, 1) := by decide +kernel
theorem dX5_occupied_1 : decode cX5_occupied 1 = .ok (.istore_n 1, 1) := by decide +kernel
theorem dX5_occupied_2 : decode cX5_occupied 2 = .ok (.iconst 0, 1) := by decide +kernel
theorem dX5_occupied_3 : decode cX5_occupied 3 = .ok (.istore_n 2, 1) := by decide +kernel
theorem dX5_occupied_4 : decode cX5_occupied 4 = .ok (.iload_n 2, 1) := by decide +kernel
theorem dX5_occupied_5 : decode cX5_occupied 5 = .ok (.aload_n 0, 1) := by decide +kernel
theorem dX5_occupied_6 : decode cX5_occupied 6 = .ok (.getfield 22, 3) := by decide +kernel
theorem dX5_occupied_9 : decode cX5_occupied 9 = .ok (.if_icmp .ge 33, 3) := by decide +kernel
theorem dX5_occupied_42 : decode cX5_occupied 42 = .ok (.iload_n 1, 1) := by decide +kernel
theorem dX5_occupied_43 : decode cX5_occupied 43 = .ok (.ireturn, 1) := by decide +kernel
theorem dX5_panelCount_0 : decode cX5_panelCount 0 = .ok (.iconst 0, 1) := by decide +kernel
theorem dX5_panelCount_1 : decode cX5_panelCount 1 = .ok (.istore_n 1, 1) := by decide +kernel
theorem dX5_panelCount_2 : decode cX5_panelCount 2 = .ok (.iconst 0, 1) := by decide +kernel
theorem dX5_panelCount_3 : decode cX5_panelCount 3 = .ok (.istore_n 2, 1) := by decide +kernel
theorem dX5_panelCount_4 : decode cX5_panelCount 4 = .ok (.iload_n 2, 1) := by decide +kernel
theorem dX5_panelCount_5 : decode cX5_panelCount 5 = .ok (.aload_n 0, 1) := by decide +kernel
theorem dX5_panelCount_6 : decode cX5_panelCount 6 = .ok (.getfield 22, 3) := by decide +kernel
theorem dX5_panelCount_9 : decode cX5_panelCount 9 = .ok (.if_icmp .ge 33, 3) := by decide +kernel
theorem dX5_panelCount_42 : decode cX5_panelCount 42 = .ok (.iload_n 1, 1) := by decide +kernel
theorem dX5_panelCount_43 : decode cX5_panelCount 43 = .ok (.ireturn, 1) := by decide +kernel
theorem dX5_pieceAt_0 : decode cX5_pieceAt 0 = .ok (.iload_n 1, 1) := by decide +kernel
theorem dX5_pieceAt_1 : decode cX5_pieceAt 1 = .ok (.ifCond .lt 29, 3) := by decide +kernel
theorem dX5_pieceAt_4 : decode cX5_pieceAt 4 = .ok (.iload_n 1, 1) := by decide +kernel
theorem dX5_pieceAt_5 : decode cX5_pieceAt 5 = .ok (.aload_n 0, 1) := by decide +kernel
theorem dX5_pieceAt_6 : decode cX5_pieceAt 6 = .ok (.getfield 22, 3) := by decide +kernel
theorem dX5_pieceAt_9 : decode cX5_pieceAt 9 = .ok (.if_icmp .ge 21, 3) := by decide +kernel
theorem dX5_pieceAt_30 : decode cX5_pieceAt 30 = .ok (.aconst_null, 1) := by decide +kernel
theorem dX5_pieceAt_31 : decode cX5_pieceAt 31 = .ok (.areturn, 1) := by decide +kernel
theorem dX6_crease_0 : decode cX6_crease 0 = .ok (.aload_n 0, 1) := by decide +kernel
theorem dX6_crease_1 : decode cX6_crease 1 = .ok (.getfield 10, 3) := by decide +kernel
theorem dX6_crease_4 : decode cX6_crease 4 = .ok (.iload_n 1, 1) := by decide +kernel
theorem dX6_crease_5 : decode cX6_crease 5 = .ok (.invokevirtual 94, 3) := by decide +kernel
theorem dX6_crease_8 : decode cX6_crease 8 = .ok (.astore_n 3, 1) := by decide +kernel
theorem dX6_crease_9 : decode cX6_crease 9 = .ok (.aload_n 3, 1) := by decide +kernel
theorem dX6_crease_10 : decode cX6_crease 10 = .ok (.ifnull 11, 3) := by decide +kernel
theorem dX6_crease_21 : decode cX6_crease 21 = .ok (.sipush (-1001), 3) := by decide +kernel
theorem dX6_crease_24 : decode cX6_crease 24 = .ok (.ireturn, 1) := by decide +kernel
theorem dX6_cut_0 : decode cX6_cut 0 = .ok (.aload_n 0, 1) := by decide +kernel
theorem dX6_cut_1 : decode cX6_cut 1 = .ok (.getfield 10, 3) := by decide +kernel
theorem dX6_cut_4 : decode cX6_cut 4 = .ok (.iload_n 1, 1) := by decide +kernel
theorem dX6_cut_5 : decode cX6_cut 5 = .ok (.invokevirtual 94, 3) := by decide +kernel
theorem dX6_cut_8 : decode cX6_cut 8 = .ok (.astore_n 3, 1) := by decide +kernel
theorem dX6_cut_9 : decode cX6_cut 9 = .ok (.aload_n 3, 1) := by decide +kernel
theorem dX6_cut_10 : decode cX6_cut 10 = .ok (.ifnull 11, 3) := by decide +kernel
theorem dX6_cut_21 : decode cX6_cut 21 = .ok (.sipush (-1001), 3) := by decide +kernel
theorem dX6_cut_24 : decode cX6_cut 24 = .ok (.ireturn, 1) := by decide +kernel
theorem dX6_drop_0 : decode cX6_drop 0 = .ok (.aload_n 0, 1) := by decide +kernel
theorem dX6_drop_1 : decode cX6_drop 1 = .ok (.getfield 10, 3) := by decide +kernel
theorem dX6_drop_4 : decode cX6_drop 4 = .ok (.iload_n 1, 1) := by decide +kernel
theorem dX6_drop_5 : decode cX6_drop 5 = .ok (.invokevirtual 94, 3) := by decide +kernel
theorem dX6_drop_8 : decode cX6_drop 8 = .ok (.ifnonnull 7, 3) := by decide +kernel
theorem dX6_drop_11 : decode cX6_drop 11 = .ok (.sipush (-1001), 3) := by decide +kernel
theorem dX6_drop_14 : decode cX6_drop 14 = .ok (.ireturn, 1) := by decide +kernel
theorem dX6_errorOfDecidedStrip_0 : decode cX6_errorOfDecidedStrip 0 = .ok (.aload_n 0, 1) := by decide +kernel
theorem dX6_errorOfDecidedStrip_1 : decode cX6_errorOfDecidedStrip 1 = .ok (.ifnonnull 7, 3) := by decide +kernel
theorem dX6_errorOfDecidedStrip_4 : decode cX6_errorOfDecidedStrip 4 = .ok (.sipush (-1001), 3) := by decide +kernel
theorem dX6_errorOfDecidedStrip_7 : decode cX6_errorOfDecidedStrip 7 = .ok (.ireturn, 1) := by decide +kernel
theorem dX6_fewest_0 : decode cX6_fewest 0 = .ok (.aload_n 0, 1) := by decide +kernel
theorem dX6_fewest_1 : decode cX6_fewest 1 = .ok (.getfield 10, 3) := by decide +kernel
theorem dX6_fewest_4 : decode cX6_fewest 4 = .ok (.iload_n 1, 1) := by decide +kernel
theorem dX6_fewest_5 : decode cX6_fewest 5 = .ok (.invokevirtual 94, 3) := by decide +kernel
theorem dX6_fewest_8 : decode cX6_fewest 8 = .ok (.astore_n 2, 1) := by decide +kernel
theorem dX6_fewest_9 : decode cX6_fewest 9 = .ok (.aload_n 2, 1) := by decide +kernel
theorem dX6_fewest_10 : decode cX6_fewest 10 = .ok (.ifnonnull 9, 3) := by decide +kernel
theorem dX6_fewest_13 : decode cX6_fewest 13 = .ok (.sipush (-1001), 3) := by decide +kernel
theorem dX6_fewest_16 : decode cX6_fewest 16 = .ok (.goto 11, 3) := by decide +kernel
theorem dX6_fewest_27 : decode cX6_fewest 27 = .ok (.ireturn, 1) := by decide +kernel
theorem dX6_fold_0 : decode cX6_fold 0 = .ok (.aload_n 0, 1) := by decide +kernel
theorem dX6_fold_1 : decode cX6_fold 1 = .ok (.getfield 10, 3) := by decide +kernel
theorem dX6_fold_4 : decode cX6_fold 4 = .ok (.iload_n 1, 1) := by decide +kernel
theorem dX6_fold_5 : decode cX6_fold 5 = .ok (.invokevirtual 94, 3) := by decide +kernel
theorem dX6_fold_8 : decode cX6_fold 8 = .ok (.astore_n 2, 1) := by decide +kernel
theorem dX6_fold_9 : decode cX6_fold 9 = .ok (.aload_n 2, 1) := by decide +kernel
theorem dX6_fold_10 : decode cX6_fold 10 = .ok (.ifnonnull 7, 3) := by decide +kernel
theorem dX6_fold_13 : decode cX6_fold 13 = .ok (.sipush (-1001), 3) := by decide +kernel
theorem dX6_fold_16 : decode cX6_fold 16 = .ok (.ireturn, 1) := by decide +kernel
theorem dX6_foldsAgain_0 : decode cX6_foldsAgain 0 = .ok (.aload_n 0, 1) := by decide +kernel
theorem dX6_foldsAgain_1 : decode cX6_foldsAgain 1 = .ok (.getfield 10, 3) := by decide +kernel
theorem dX6_foldsAgain_4 : decode cX6_foldsAgain 4 = .ok (.iload_n 1, 1) := by decide +kernel
theorem dX6_foldsAgain_5 : decode cX6_foldsAgain 5 = .ok (.invokevirtual 94, 3) := by decide +kernel
theorem dX6_foldsAgain_8 : decode cX6_foldsAgain 8 = .ok (.astore_n 2, 1) := by decide +kernel
theorem dX6_foldsAgain_9 : decode cX6_foldsAgain 9 = .ok (.aload_n 2, 1) := by decide +kernel
theorem dX6_foldsAgain_10 : decode cX6_foldsAgain 10 = .ok (.invokestatic 181, 3) := by decide +kernel
theorem dX6_foldsAgain_13 : decode cX6_foldsAgain 13 = .ok (.istore_n 3, 1) := by decide +kernel
theorem dX6_foldsAgain_14 : decode cX6_foldsAgain 14 = .ok (.iload_n 3, 1) := by decide +kernel
theorem dX6_foldsAgain_15 : decode cX6_foldsAgain 15 = .ok (.ifCond .ne 7, 3) := by decide +kernel
theorem dX6_foldsAgain_22 : decode cX6_foldsAgain 22 = .ok (.iload_n 3, 1) := by decide +kernel
theorem dX6_foldsAgain_23 : decode cX6_foldsAgain 23 = .ok (.ireturn, 1) := by decide +kernel
theorem dX6_join_0 : decode cX6_join 0 = .ok (.aload_n 0, 1) := by decide +kernel
theorem dX6_join_1 : decode cX6_join 1 = .ok (.getfield 10, 3) := by decide +kernel
theorem dX6_join_4 : decode cX6_join 4 = .ok (.iload_n 1, 1) := by decide +kernel
theorem dX6_join_5 : decode cX6_join 5 = .ok (.invokevirtual 94, 3) := by decide +kernel
theorem dX6_join_8 : decode cX6_join 8 = .ok (.astore 4, 2) := by decide +kernel
theorem dX6_join_10 : decode cX6_join 10 = .ok (.aload_n 0, 1) := by decide +kernel
theorem dX6_join_11 : decode cX6_join 11 = .ok (.getfield 10, 3) := by decide +kernel
theorem dX6_join_14 : decode cX6_join 14 = .ok (.iload_n 2, 1) := by decide +kernel
theorem dX6_join_15 : decode cX6_join 15 = .ok (.invokevirtual 94, 3) := by decide +kernel
theorem dX6_join_18 : decode cX6_join 18 = .ok (.astore 5, 2) := by decide +kernel
theorem dX6_join_20 : decode cX6_join 20 = .ok (.aload 4, 2) := by decide +kernel
theorem dX6_join_22 : decode cX6_join 22 = .ok (.ifnull 13, 3) := by decide +kernel
theorem dX6_join_35 : decode cX6_join 35 = .ok (.sipush (-1001), 3) := by decide +kernel
theorem dX6_join_38 : decode cX6_join 38 = .ok (.ireturn, 1) := by decide +kernel
theorem dX6_layer_0 : decode cX6_layer 0 = .ok (.aload_n 0, 1) := by decide +kernel
theorem dX6_layer_1 : decode cX6_layer 1 = .ok (.getfield 10, 3) := by decide +kernel
theorem dX6_layer_4 : decode cX6_layer 4 = .ok (.iload_n 1, 1) := by decide +kernel
theorem dX6_layer_5 : decode cX6_layer 5 = .ok (.invokevirtual 94, 3) := by decide +kernel
theorem dX6_layer_8 : decode cX6_layer 8 = .ok (.astore_n 3, 1) := by decide +kernel
theorem dX6_layer_9 : decode cX6_layer 9 = .ok (.aload_n 3, 1) := by decide +kernel
theorem dX6_layer_10 : decode cX6_layer 10 = .ok (.ifnonnull 7, 3) := by decide +kernel
theorem dX6_layer_13 : decode cX6_layer 13 = .ok (.sipush (-1001), 3) := by decide +kernel
theorem dX6_layer_16 : decode cX6_layer 16 = .ok (.ireturn, 1) := by decide +kernel
theorem dX6_mark_0 : decode cX6_mark 0 = .ok (.aload_n 0, 1) := by decide +kernel
theorem dX6_mark_1 : decode cX6_mark 1 = .ok (.getfield 10, 3) := by decide +kernel
theorem dX6_mark_4 : decode cX6_mark 4 = .ok (.iload_n 1, 1) := by decide +kernel
theorem dX6_mark_5 : decode cX6_mark 5 = .ok (.invokevirtual 94, 3) := by decide +kernel
theorem dX6_mark_8 : decode cX6_mark 8 = .ok (.astore 4, 2) := by decide +kernel
theorem dX6_mark_10 : decode cX6_mark 10 = .ok (.aload 4, 2) := by decide +kernel
theorem dX6_mark_12 : decode cX6_mark 12 = .ok (.ifnull 12, 3) := by decide +kernel
theorem dX6_mark_24 : decode cX6_mark 24 = .ok (.sipush (-1001), 3) := by decide +kernel
theorem dX6_mark_27 : decode cX6_mark 27 = .ok (.ireturn, 1) := by decide +kernel
theorem dX6_orders_0 : decode cX6_orders 0 = .ok (.aload_n 0, 1) := by decide +kernel
theorem dX6_orders_1 : decode cX6_orders 1 = .ok (.getfield 10, 3) := by decide +kernel
theorem dX6_orders_4 : decode cX6_orders 4 = .ok (.iload_n 1, 1) := by decide +kernel
theorem dX6_orders_5 : decode cX6_orders 5 = .ok (.invokevirtual 94, 3) := by decide +kernel
theorem dX6_orders_8 : decode cX6_orders 8 = .ok (.astore_n 2, 1) := by decide +kernel
theorem dX6_orders_9 : decode cX6_orders 9 = .ok (.aload_n 2, 1) := by decide +kernel
theorem dX6_orders_10 : decode cX6_orders 10 = .ok (.invokestatic 181, 3) := by decide +kernel
theorem dX6_orders_13 : decode cX6_orders 13 = .ok (.istore_n 3, 1) := by decide +kernel
theorem dX6_orders_14 : decode cX6_orders 14 = .ok (.iload_n 3, 1) := by decide +kernel
theorem dX6_orders_15 : decode cX6_orders 15 = .ok (.ifCond .ne 7, 3) := by decide +kernel
theorem dX6_orders_22 : decode cX6_orders 22 = .ok (.iload_n 3, 1) := by decide +kernel
theorem dX6_orders_23 : decode cX6_orders 23 = .ok (.ireturn, 1) := by decide +kernel
theorem dX6_piece_0 : decode cX6_piece 0 = .ok (.aload_n 0, 1) := by decide +kernel
theorem dX6_piece_1 : decode cX6_piece 1 = .ok (.getfield 10, 3) := by decide +kernel
theorem dX6_piece_4 : decode cX6_piece 4 = .ok (.iload_n 1, 1) := by decide +kernel
theorem dX6_piece_5 : decode cX6_piece 5 = .ok (.invokevirtual 94, 3) := by decide +kernel
theorem dX6_piece_8 : decode cX6_piece 8 = .ok (.astore_n 3, 1) := by decide +kernel
theorem dX6_piece_9 : decode cX6_piece 9 = .ok (.aload_n 3, 1) := by decide +kernel
theorem dX6_piece_10 : decode cX6_piece 10 = .ok (.ifnonnull 7, 3) := by decide +kernel
theorem dX6_piece_13 : decode cX6_piece 13 = .ok (.sipush (-1001), 3) := by decide +kernel
theorem dX6_piece_16 : decode cX6_piece 16 = .ok (.ireturn, 1) := by decide +kernel
theorem dX6_place_0 : decode cX6_place 0 = .ok (.aload_n 0, 1) := by decide +kernel
theorem dX6_place_1 : decode cX6_place 1 = .ok (.getfield 10, 3) := by decide +kernel
theorem dX6_place_4 : decode cX6_place 4 = .ok (.iload_n 1, 1) := by decide +kernel
theorem dX6_place_5 : decode cX6_place 5 = .ok (.invokevirtual 94, 3) := by decide +kernel
theorem dX6_place_8 : decode cX6_place 8 = .ok (.astore_n 3, 1) := by decide +kernel
theorem dX6_place_9 : decode cX6_place 9 = .ok (.aload_n 3, 1) := by decide +kernel
theorem dX6_place_10 : decode cX6_place 10 = .ok (.ifnonnull 7, 3) := by decide +kernel
theorem dX6_place_13 : decode cX6_place 13 = .ok (.sipush (-1001), 3) := by decide +kernel
theorem dX6_place_16 : decode cX6_place 16 = .ok (.ireturn, 1) := by decide +kernel
theorem dX6_reflected_0 : decode cX6_reflected 0 = .ok (.aload_n 0, 1) := by decide +kernel
theorem dX6_reflected_1 : decode cX6_reflected 1 = .ok (.getfield 10, 3) := by decide +kernel
theorem dX6_reflected_4 : decode cX6_reflected 4 = .ok (.iload_n 1, 1) := by decide +kernel
theorem dX6_reflected_5 : decode cX6_reflected 5 = .ok (.invokevirtual 94, 3) := by decide +kernel
theorem dX6_reflected_8 : decode cX6_reflected 8 = .ok (.astore_n 2, 1) := by decide +kernel
theorem dX6_reflected_9 : decode cX6_reflected 9 = .ok (.aload_n 2, 1) := by decide +kernel
theorem dX6_reflected_10 : decode cX6_reflected 10 = .ok (.ifnonnull 7, 3) := by decide +kernel
theorem dX6_reflected_13 : decode cX6_reflected 13 = .ok (.sipush (-1001), 3) := by decide +kernel
theorem dX6_reflected_16 : decode cX6_reflected 16 = .ok (.ireturn, 1) := by decide +kernel
theorem dX6_restore_0 : decode cX6_restore 0 = .ok (.aload_n 0, 1) := by decide +kernel
theorem dX6_restore_1 : decode cX6_restore 1 = .ok (.getfield 272, 3) := by decide +kernel
theorem dX6_restore_4 : decode cX6_restore 4 = .ok (.ifCond .ne 7, 3) := by decide +kernel
theorem dX6_restore_7 : decode cX6_restore 7 = .ok (.sipush (-1004), 3) := by decide +kernel
theorem dX6_restore_10 : decode cX6_restore 10 = .ok (.ireturn, 1) := by decide +kernel
theorem dX6_rotate_0 : decode cX6_rotate 0 = .ok (.aload_n 0, 1) := by decide +kernel
theorem dX6_rotate_1 : decode cX6_rotate 1 = .ok (.getfield 10, 3) := by decide +kernel
theorem dX6_rotate_4 : decode cX6_rotate 4 = .ok (.iload_n 1, 1) := by decide +kernel
theorem dX6_rotate_5 : decode cX6_rotate 5 = .ok (.invokevirtual 94, 3) := by decide +kernel
theorem dX6_rotate_8 : decode cX6_rotate 8 = .ok (.astore_n 3, 1) := by decide +kernel
theorem dX6_rotate_9 : decode cX6_rotate 9 = .ok (.aload_n 3, 1) := by decide +kernel
theorem dX6_rotate_10 : decode cX6_rotate 10 = .ok (.ifnull 11, 3) := by decide +kernel
theorem dX6_rotate_21 : decode cX6_rotate 21 = .ok (.sipush (-1001), 3) := by decide +kernel
theorem dX6_rotate_24 : decode cX6_rotate 24 = .ok (.ireturn, 1) := by decide +kernel
theorem dX6_share_0 : decode cX6_share 0 = .ok (.aload_n 0, 1) := by decide +kernel
theorem dX6_share_1 : decode cX6_share 1 = .ok (.getfield 10, 3) := by decide +kernel
theorem dX6_share_4 : decode cX6_share 4 = .ok (.iconst 1, 1) := by decide +kernel
theorem dX6_share_5 : decode cX6_share 5 = .ok (.invokevirtual 261, 3) := by decide +kernel
theorem dX6_share_8 : decode cX6_share 8 = .ok (.aload_n 0, 1) := by decide +kernel
theorem dX6_share_9 : decode cX6_share 9 = .ok (.getfield 10, 3) := by decide +kernel
theorem dX6_share_12 : decode cX6_share 12 = .ok (.iconst 2, 1) := by decide +kernel
theorem dX6_share_13 : decode cX6_share 13 = .ok (.invokevirtual 261, 3) := by decide +kernel
theorem dX6_share_16 : decode cX6_share 16 = .ok (.iadd, 1) := by decide +kernel
theorem dX6_share_17 : decode cX6_share 17 = .ok (.istore_n 1, 1) := by decide +kernel
theorem dX6_share_18 : decode cX6_share 18 = .ok (.iload_n 1, 1) := by decide +kernel
theorem dX6_share_19 : decode cX6_share 19 = .ok (.aload_n 0, 1) := by decide +kernel
theorem dX6_share_20 : decode cX6_share 20 = .ok (.getfield 10, 3) := by decide +kernel
theorem dX6_share_23 : decode cX6_share 23 = .ok (.iconst 0, 1) := by decide +kernel
theorem dX6_share_24 : decode cX6_share 24 = .ok (.invokevirtual 261, 3) := by decide +kernel
theorem dX6_share_27 : decode cX6_share 27 = .ok (.iadd, 1) := by decide +kernel
theorem dX6_share_28 : decode cX6_share 28 = .ok (.istore_n 2, 1) := by decide +kernel
theorem dX6_share_29 : decode cX6_share 29 = .ok (.iload_n 2, 1) := by decide +kernel
theorem dX6_share_30 : decode cX6_share 30 = .ok (.ifCond .gt 7, 3) := by decide +kernel
theorem dX6_share_33 : decode cX6_share 33 = .ok (.sipush (-1004), 3) := by decide +kernel
theorem dX6_share_36 : decode cX6_share 36 = .ok (.ireturn, 1) := by decide +kernel
theorem dX6_size_0 : decode cX6_size 0 = .ok (.aload_n 0, 1) := by decide +kernel
theorem dX6_size_1 : decode cX6_size 1 = .ok (.getfield 10, 3) := by decide +kernel
theorem dX6_size_4 : decode cX6_size 4 = .ok (.iload_n 1, 1) := by decide +kernel
theorem dX6_size_5 : decode cX6_size 5 = .ok (.invokevirtual 94, 3) := by decide +kernel
theorem dX6_size_8 : decode cX6_size 8 = .ok (.astore_n 3, 1) := by decide +kernel
theorem dX6_size_9 : decode cX6_size 9 = .ok (.aload_n 3, 1) := by decide +kernel
theorem dX6_size_10 : decode cX6_size 10 = .ok (.ifnull 15, 3) := by decide +kernel
theorem dX6_size_25 : decode cX6_size 25 = .ok (.sipush (-1001), 3) := by decide +kernel
theorem dX6_size_28 : decode cX6_size 28 = .ok (.ireturn, 1) := by decide +kernel
theorem dX6_step_0 : decode cX6_step 0 = .ok (.aload_n 0, 1) := by decide +kernel
theorem dX6_step_1 : decode cX6_step 1 = .ok (.getfield 10, 3) := by decide +kernel
theorem dX6_step_4 : decode cX6_step 4 = .ok (.iload_n 1, 1) := by decide +kernel
theorem dX6_step_5 : decode cX6_step 5 = .ok (.invokevirtual 94, 3) := by decide +kernel
theorem dX6_step_8 : decode cX6_step 8 = .ok (.astore_n 2, 1) := by decide +kernel
theorem dX6_step_9 : decode cX6_step 9 = .ok (.aload_n 2, 1) := by decide +kernel
theorem dX6_step_10 : decode cX6_step 10 = .ok (.ifnonnull 7, 3) := by decide +kernel
theorem dX6_step_13 : decode cX6_step 13 = .ok (.sipush (-1001), 3) := by decide +kernel
theorem dX6_step_16 : decode cX6_step 16 = .ok (.ireturn, 1) := by decide +kernel
theorem dX6_steps_0 : decode cX6_steps 0 = .ok (.aload_n 0, 1) := by decide +kernel
theorem dX6_steps_1 : decode cX6_steps 1 = .ok (.getfield 10, 3) := by decide +kernel
theorem dX6_steps_4 : decode cX6_steps 4 = .ok (.iload_n 1, 1) := by decide +kernel
theorem dX6_steps_5 : decode cX6_steps 5 = .ok (.invokevirtual 94, 3) := by decide +kernel
theorem dX6_steps_8 : decode cX6_steps 8 = .ok (.astore_n 2, 1) := by decide +kernel
theorem dX6_steps_9 : decode cX6_steps 9 = .ok (.aload_n 2, 1) := by decide +kernel
theorem dX6_steps_10 : decode cX6_steps 10 = .ok (.ifnonnull 7, 3) := by decide +kernel
theorem dX6_steps_13 : decode cX6_steps 13 = .ok (.sipush (-1001), 3) := by decide +kernel
theorem dX6_steps_16 : decode cX6_steps 16 = .ok (.ireturn, 1) := by decide +kernel
theorem dX6_thickest_0 : decode cX6_thickest 0 = .ok (.aload_n 0, 1) := by decide +kernel
theorem dX6_thickest_1 : decode cX6_thickest 1 = .ok (.getfield 10, 3) := by decide +kernel
theorem dX6_thickest_4 : decode cX6_thickest 4 = .ok (.iload_n 1, 1) := by decide +kernel
theorem dX6_thickest_5 : decode cX6_thickest 5 = .ok (.invokevirtual 94, 3) := by decide +kernel
theorem dX6_thickest_8 : decode cX6_thickest 8 = .ok (.astore_n 2, 1) := by decide +kernel
theorem dX6_thickest_9 : decode cX6_thickest 9 = .ok (.aload_n 2, 1) := by decide +kernel
theorem dX6_thickest_10 : decode cX6_thickest 10 = .ok (.ifnonnull 7, 3) := by decide +kernel
theorem dX6_thickest_13 : decode cX6_thickest 13 = .ok (.sipush (-1001), 3) := by decide +kernel
theorem dX6_thickest_16 : decode cX6_thickest 16 = .ok (.ireturn, 1) := by decide +kernel
theorem dX6_turn_0 : decode cX6_turn 0 = .ok (.aload_n 0, 1) := by decide +kernel
theorem dX6_turn_1 : decode cX6_turn 1 = .ok (.getfield 10, 3) := by decide +kernel
theorem dX6_turn_4 : decode cX6_turn 4 = .ok (.iload_n 1, 1) := by decide +kernel
theorem dX6_turn_5 : decode cX6_turn 5 = .ok (.invokevirtual 94, 3) := by decide +kernel
theorem dX6_turn_8 : decode cX6_turn 8 = .ok (.astore_n 2, 1) := by decide +kernel
theorem dX6_turn_9 : decode cX6_turn 9 = .ok (.aload_n 2, 1) := by decide +kernel
theorem dX6_turn_10 : decode cX6_turn 10 = .ok (.ifnonnull 7, 3) := by decide +kernel
theorem dX6_turn_13 : decode cX6_turn 13 = .ok (.sipush (-1001), 3) := by decide +kernel
theorem dX6_turn_16 : decode cX6_turn 16 = .ok (.ireturn, 1) := by decide +kernel
theorem dX6_undo_0 : decode cX6_undo 0 = .ok (.aload_n 0, 1) := by decide +kernel
theorem dX6_undo_1 : decode cX6_undo 1 = .ok (.getfield 25, 3) := by decide +kernel
theorem dX6_undo_4 : decode cX6_undo 4 = .ok (.getfield 264, 3) := by decide +kernel
theorem dX6_undo_7 : decode cX6_undo 7 = .ok (.ifCond .gt 7, 3) := by decide +kernel
theorem dX6_undo_10 : decode cX6_undo 10 = .ok (.sipush (-1004), 3) := by decide +kernel
theorem dX6_undo_13 : decode cX6_undo 13 = .ok (.ireturn, 1) := by decide +kernel
theorem dX6_unfold_0 : decode cX6_unfold 0 = .ok (.aload_n 0, 1) := by decide +kernel
theorem dX6_unfold_1 : decode cX6_unfold 1 = .ok (.getfield 10, 3) := by decide +kernel
theorem dX6_unfold_4 : decode cX6_unfold 4 = .ok (.iload_n 1, 1) := by decide +kernel
theorem dX6_unfold_5 : decode cX6_unfold 5 = .ok (.invokevirtual 94, 3) := by decide +kernel
theorem dX6_unfold_8 : decode cX6_unfold 8 = .ok (.astore_n 2, 1) := by decide +kernel
theorem dX6_unfold_9 : decode cX6_unfold 9 = .ok (.aload_n 2, 1) := by decide +kernel
theorem dX6_unfold_10 : decode cX6_unfold 10 = .ok (.ifnonnull 7, 3) := by decide +kernel
theorem dX6_unfold_13 : decode cX6_unfold 13 = .ok (.sipush (-1001), 3) := by decide +kernel
theorem dX6_unfold_16 : decode cX6_unfold 16 = .ok (.ireturn, 1) := by decide +kernel
theorem dX6_ways_0 : decode cX6_ways 0 = .ok (.aload_n 0, 1) := by decide +kernel
theorem dX6_ways_1 : decode cX6_ways 1 = .ok (.getfield 10, 3) := by decide +kernel
theorem dX6_ways_4 : decode cX6_ways 4 = .ok (.iload_n 1, 1) := by decide +kernel
theorem dX6_ways_5 : decode cX6_ways 5 = .ok (.invokevirtual 94, 3) := by decide +kernel
theorem dX6_ways_8 : decode cX6_ways 8 = .ok (.astore_n 2, 1) := by decide +kernel
theorem dX6_ways_9 : decode cX6_ways 9 = .ok (.aload_n 2, 1) := by decide +kernel
theorem dX6_ways_10 : decode cX6_ways 10 = .ok (.ifnonnull 9, 3) := by decide +kernel
theorem dX6_ways_13 : decode cX6_ways 13 = .ok (.sipush (-1001), 3) := by decide +kernel
theorem dX6_ways_16 : decode cX6_ways 16 = .ok (.goto 11, 3) := by decide +kernel
theorem dX6_ways_27 : decode cX6_ways 27 = .ok (.ireturn, 1) := by decide +kernel
theorem dX6_why_0 : decode cX6_why 0 = .ok (.aload_n 0, 1) := by decide +kernel
theorem dX6_why_1 : decode cX6_why 1 = .ok (.getfield 10, 3) := by decide +kernel
theorem dX6_why_4 : decode cX6_why 4 = .ok (.iload_n 1, 1) := by decide +kernel
theorem dX6_why_5 : decode cX6_why 5 = .ok (.invokevirtual 94, 3) := by decide +kernel
theorem dX6_why_8 : decode cX6_why 8 = .ok (.astore_n 2, 1) := by decide +kernel
theorem dX6_why_9 : decode cX6_why 9 = .ok (.aload_n 2, 1) := by decide +kernel
theorem dX6_why_10 : decode cX6_why 10 = .ok (.ifnonnull 9, 3) := by decide +kernel
theorem dX6_why_13 : decode cX6_why 13 = .ok (.sipush (-1001), 3) := by decide +kernel
theorem dX6_why_16 : decode cX6_why 16 = .ok (.goto 11, 3) := by decide +kernel
theorem dX6_why_27 : decode cX6_why 27 = .ok (.ireturn, 1) := by decide +kernel
def q_8 : mQ := (yX5_occupied, cX5_occupied, 4, (some FieldType.int), 0, 5, 0, 0)
theorem qm_8 : mtL[8]? = some q_8 := rfl
def q_9 : mQ := (yX5_pieceAt, cX5_pieceAt, 2, (some (FieldType.object "FoldedTheatre$Piece")), 1, 5, 0, 0)
theorem qm_9 : mtL[9]? = some q_9 := rfl
def q_28 : mQ := (yX6_mark, cX6_mark, 6, (some FieldType.int), 3, 6, 0, 0)
theorem qm_28 : mtL[28]? = some q_28 := rfl
def q_30 : mQ := (yX6_turn, cX6_turn, 3, (some FieldType.int), 1, 6, 0, 0)
theorem qm_30 : mtL[30]? = some q_30 := rfl
def q_33 : mQ := (yX6_rotate, cX6_rotate, 4, (some FieldType.int), 2, 6, 0, 0)
theorem qm_33 : mtL[33]? = some q_33 := rfl
def q_36 : mQ := (yX6_join, cX6_join, 7, (some FieldType.int), 3, 6, 0, 0)
theorem qm_36 : mtL[36]? = some q_36 := rfl
def q_39 : mQ := (yX6_cut, cX6_cut, 6, (some FieldType.int), 2, 6, 0, 0)
theorem qm_39 : mtL[39]? = some q_39 := rfl
def q_41 : mQ := (yX6_fold, cX6_fold, 6, (some FieldType.int), 1, 6, 0, 0)
theorem qm_41 : mtL[41]? = some q_41 := rfl
def q_56 : mQ := (yX6_unfold, cX6_unfold, 3, (some FieldType.int), 1, 6, 0, 0)
theorem qm_56 : mtL[56]? = some q_56 := rfl
def q_57 : mQ := (yX6_drop, cX6_drop, 2, (some FieldType.int), 1, 6, 0, 0)
theorem qm_57 : mtL[57]? = some q_57 := rfl
def q_58 : mQ := (yX6_piece, cX6_piece, 4, (some FieldType.int), 2, 6, 0, 0)
theorem qm_58 : mtL[58]? = some q_58 := rfl
def q_59 : mQ := (yX6_size, cX6_size, 4, (some FieldType.int), 2, 6, 0, 0)
theorem qm_59 : mtL[59]? = some q_59 := rfl
def q_60 : mQ := (yX6_crease, cX6_crease, 4, (some FieldType.int), 2, 6, 0, 0)
theorem qm_60 : mtL[60]? = some q_60 := rfl
def q_61 : mQ := (yX6_why, cX6_why, 3, (some FieldType.int), 1, 6, 0, 0)
theorem qm_61 : mtL[61]? = some q_61 := rfl
def q_62 : mQ := (yX6_foldsAgain, cX6_foldsAgain, 4, (some FieldType.int), 1, 6, 0, 0)
theorem qm_62 : mtL[62]? = some q_62 := rfl
def q_63 : mQ := (yX6_errorOfDecidedStrip, cX6_errorOfDecidedStrip, 1, (some FieldType.int), 1, 6, 0, 0)
theorem qm_63 : mtL[63]? = some q_63 := rfl
def q_73 : mQ := (yX6_step, cX6_step, 4, (some FieldType.int), 1, 6, 0, 0)
theorem qm_73 : mtL[73]? = some q_73 := rfl
def q_74 : mQ := (yX6_steps, cX6_steps, 3, (some FieldType.int), 1, 6, 0, 0)
theorem qm_74 : mtL[74]? = some q_74 := rfl
def q_75 : mQ := (yX6_ways, cX6_ways, 3, (some FieldType.int), 1, 6, 0, 0)
theorem qm_75 : mtL[75]? = some q_75 := rfl
def q_80 : mQ := (yX6_fewest, cX6_fewest, 3, (some FieldType.int), 1, 6, 0, 0)
theorem qm_80 : mtL[80]? = some q_80 := rfl
def q_82 : mQ := (yX6_place, cX6_place, 4, (some FieldType.int), 2, 6, 0, 0)
theorem qm_82 : mtL[82]? = some q_82 := rfl
def q_83 : mQ := (yX6_layer, cX6_layer, 5, (some FieldType.int), 2, 6, 0, 0)
theorem qm_83 : mtL[83]? = some q_83 := rfl
def q_84 : mQ := (yX6_orders, cX6_orders, 4, (some FieldType.int), 1, 6, 0, 0)
theorem qm_84 : mtL[84]? = some q_84 := rfl
def q_85 : mQ := (yX6_thickest, cX6_thickest, 3, (some FieldType.int), 1, 6, 0, 0)
theorem qm_85 : mtL[85]? = some q_85 := rfl
def q_90 : mQ := (yX6_reflected, cX6_reflected, 3, (some FieldType.int), 1, 6, 0, 0)
theorem qm_90 : mtL[90]? = some q_90 := rfl
def q_98 : mQ := (yX4_codeHere, cX4_codeHere, 1, (some FieldType.int), 0, 4, 0, 0)
theorem qm_98 : mtL[98]? = some q_98 := rfl
def q_111 : mQ := (yX5_countOfKind, cX5_countOfKind, 5, (some FieldType.int), 1, 5, 0, 0)
theorem qm_111 : mtL[111]? = some q_111 := rfl
def q_112 : mQ := (yX5_foldedCount, cX5_foldedCount, 4, (some FieldType.int), 0, 5, 0, 0)
theorem qm_112 : mtL[112]? = some q_112 := rfl
def q_113 : mQ := (yX5_panelCount, cX5_panelCount, 4, (some FieldType.int), 0, 5, 0, 0)
theorem qm_113 : mtL[113]? = some q_113 := rfl
def q_114 : mQ := (yX5_creasesOf, cX5_creasesOf, 5, (some FieldType.int), 1, 5, 0, 0)
theorem qm_114 : mtL[114]? = some q_114 := rfl
def q_115 : mQ := (yX6_share, cX6_share, 3, (some FieldType.int), 0, 6, 0, 0)
theorem qm_115 : mtL[115]? = some q_115 := rfl
def q_117 : mQ := (yX6_undo, cX6_undo, 1, (some FieldType.int), 0, 6, 0, 0)
theorem qm_117 : mtL[117]? = some q_117 := rfl
def q_120 : mQ := (yX6_restore, cX6_restore, 1, (some FieldType.int), 0, 6, 0, 0)
theorem qm_120 : mtL[120]? = some q_120 := rfl
set_option maxRecDepth 100000 in
set_option maxHeartbeats 4000000 in
theorem x_pieceAt {P : mP} {a : Nat} {pv wv fv : Value} {i : Int32} (h : P[a]? = some (5, [pv, .int 0, wv, fv])) : EvP 1 9 [.ref a, .int i] P (fun r P' => r = some .null ∧ P' = P) := by
  refine EvP.of qm_9 (Nat.le_of_ble_eq_true rfl) rfl ?_
  show MEvP _ none q_9 0 [(0, .ref a), (1, .int i)] [] _ 0 0 _
  refine mp_a (a_iload_n dX5_pieceAt_0 rfl) (mpp 1 rfl ?_)
  refine mp_Tb (t := 30) (j_if_lt dX5_pieceAt_1) (by decide) (fun c1 => ?_) (fun c1 => mpp 4 rfl ?_)
  · refine mp_a (a_null dX5_pieceAt_30) (mpp 31 rfl ?_)
    exact mp_aretN (⟨rfl, rfl⟩) dX5_pieceAt_31 rfl
  · refine mp_a (a_iload_n dX5_pieceAt_4 rfl) (mpp 5 rfl ?_)
    refine mp_a (a_aload_n dX5_pieceAt_5 rfl) (mpp 6 rfl ?_)
    refine mp_get (i := 22) (v := .int 0) dX5_pieceAt_6 rfl h rfl (mpp 9 rfl ?_)
    refine mp_Tb (t := 30) (j_icmp_ge dX5_pieceAt_9) (by decide) (fun c2 => ?_) (fun c2 => mpp 12 rfl ?_)
    · refine mp_a (a_null dX5_pieceAt_30) (mpp 31 rfl ?_)
      exact mp_aretN (⟨rfl, rfl⟩) dX5_pieceAt_31 rfl
    · exfalso; have k0 : (0 : Int32).toInt = 0 := rfl; simp only [Int32.lt_iff_toInt_lt, Int32.le_iff_toInt_le, ← Int32.toInt_inj, Decidable.not_not] at c1 c2; omega

set_option maxRecDepth 100000 in
set_option maxHeartbeats 4000000 in
theorem x_errstrip {P : mP}  : EvP 1 63 [.null] P (fun r P' => r = some (.int (-1001)) ∧ P' = P) := by
  refine EvP.of qm_63 (Nat.le_of_ble_eq_true rfl) rfl ?_
  show MEvP _ none q_63 0 [(0, .null)] [] _ 0 0 _
  refine mp_a (a_aload_nN dX6_errorOfDecidedStrip_0 rfl) (mpp 1 rfl ?_)
  refine mp_t (s_ifnonnullN dX6_errorOfDecidedStrip_1) (mpp 4 rfl ?_)
  refine mp_a (a_sipush (v := -1001) dX6_errorOfDecidedStrip_4 rfl) (mpp 7 rfl ?_)
  exact mp_iret (⟨rfl, rfl⟩) dX6_errorOfDecidedStrip_7 (Or.inl rfl)

set_option maxRecDepth 100000 in
set_option maxHeartbeats 4000000 in
theorem x_occupied {P : mP} {a : Nat} {pv wv fv : Value} (h : P[a]? = some (5, [pv, .int 0, wv, fv])) : EvP 2 8 [.ref a] P (fun r P' => r = some (.int 0) ∧ P' = P) := by
  refine EvP.of qm_8 (Nat.le_of_ble_eq_true rfl) rfl ?_
  show MEvP _ none q_8 0 [(0, .ref a)] [] _ 0 0 _
  refine mp_a (a_iconst (v := 0) dX5_occupied_0 rfl) (mpp 1 rfl ?_)
  refine mp_a (a_istore_n (L' := [(1, .int 0), (0, .ref a)]) dX5_occupied_1 (by decide) rfl) (mpp 2 rfl ?_)
  refine mp_a (a_iconst (v := 0) dX5_occupied_2 rfl) (mpp 3 rfl ?_)
  refine mp_a (a_istore_n (L' := [(2, .int 0), (1, .int 0), (0, .ref a)]) dX5_occupied_3 (by decide) rfl) (mpp 4 rfl ?_)
  refine mp_a (a_iload_n dX5_occupied_4 rfl) (mpp 5 rfl ?_)
  refine mp_a (a_aload_n dX5_occupied_5 rfl) (mpp 6 rfl ?_)
  refine mp_get (i := 22) (v := .int 0) dX5_occupied_6 rfl h rfl (mpp 9 rfl ?_)
  refine mp_Tt (t := 42) (j_icmp_ge dX5_occupied_9) (by decide) (by decide) ?_
  refine mp_a (a_iload_n dX5_occupied_42 rfl) (mpp 43 rfl ?_)
  exact mp_iret (⟨rfl, rfl⟩) dX5_occupied_43 (Or.inl rfl)

set_option maxRecDepth 100000 in
set_option maxHeartbeats 4000000 in
theorem x_foldedCount {P : mP} {a : Nat} {pv wv fv : Value} (h : P[a]? = some (5, [pv, .int 0, wv, fv])) : EvP 2 112 [.ref a] P (fun r P' => r = some (.int 0) ∧ P' = P) := by
  refine EvP.of qm_112 (Nat.le_of_ble_eq_true rfl) rfl ?_
  show MEvP _ none q_112 0 [(0, .ref a)] [] _ 0 0 _
  refine mp_a (a_iconst (v := 0) dX5_foldedCount_0 rfl) (mpp 1 rfl ?_)
  refine mp_a (a_istore_n (L' := [(1, .int 0), (0, .ref a)]) dX5_foldedCount_1 (by decide) rfl) (mpp 2 rfl ?_)
  refine mp_a (a_iconst (v := 0) dX5_foldedCount_2 rfl) (mpp 3 rfl ?_)
  refine mp_a (a_istore_n (L' := [(2, .int 0), (1, .int 0), (0, .ref a)]) dX5_foldedCount_3 (by decide) rfl) (mpp 4 rfl ?_)
  refine mp_a (a_iload_n dX5_foldedCount_4 rfl) (mpp 5 rfl ?_)
  refine mp_a (a_aload_n dX5_foldedCount_5 rfl) (mpp 6 rfl ?_)
  refine mp_get (i := 22) (v := .int 0) dX5_foldedCount_6 rfl h rfl (mpp 9 rfl ?_)
  refine mp_Tt (t := 38) (j_icmp_ge dX5_foldedCount_9) (by decide) (by decide) ?_
  refine mp_a (a_iload_n dX5_foldedCount_38 rfl) (mpp 39 rfl ?_)
  exact mp_iret (⟨rfl, rfl⟩) dX5_foldedCount_39 (Or.inl rfl)

set_option maxRecDepth 100000 in
set_option maxHeartbeats 4000000 in
theorem x_panelCount {P : mP} {a : Nat} {pv wv fv : Value} (h : P[a]? = some (5, [pv, .int 0, wv, fv])) : EvP 2 113 [.ref a] P (fun r P' => r = some (.int 0) ∧ P' = P) := by
  refine EvP.of qm_113 (Nat.le_of_ble_eq_true rfl) rfl ?_
  show MEvP _ none q_113 0 [(0, .ref a)] [] _ 0 0 _
  refine mp_a (a_iconst (v := 0) dX5_panelCount_0 rfl) (mpp 1 rfl ?_)
  refine mp_a (a_istore_n (L' := [(1, .int 0), (0, .ref a)]) dX5_panelCount_1 (by decide) rfl) (mpp 2 rfl ?_)
  refine mp_a (a_iconst (v := 0) dX5_panelCount_2 rfl) (mpp 3 rfl ?_)
  refine mp_a (a_istore_n (L' := [(2, .int 0), (1, .int 0), (0, .ref a)]) dX5_panelCount_3 (by decide) rfl) (mpp 4 rfl ?_)
  refine mp_a (a_iload_n dX5_panelCount_4 rfl) (mpp 5 rfl ?_)
  refine mp_a (a_aload_n dX5_panelCount_5 rfl) (mpp 6 rfl ?_)
  refine mp_get (i := 22) (v := .int 0) dX5_panelCount_6 rfl h rfl (mpp 9 rfl ?_)
  refine mp_Tt (t := 42) (j_icmp_ge dX5_panelCount_9) (by decide) (by decide) ?_
  refine mp_a (a_iload_n dX5_panelCount_42 rfl) (mpp 43 rfl ?_)
  exact mp_iret (⟨rfl, rfl⟩) dX5_panelCount_43 (Or.inl rfl)

set_option maxRecDepth 100000 in
set_option maxHeartbeats 4000000 in
theorem x_countOfKind {P : mP} {a : Nat} {pv wv fv : Value} {i : Int32} (h : P[a]? = some (5, [pv, .int 0, wv, fv])) : EvP 2 111 [.ref a, .int i] P (fun r P' => r = some (.int 0) ∧ P' = P) := by
  refine EvP.of qm_111 (Nat.le_of_ble_eq_true rfl) rfl ?_
  show MEvP _ none q_111 0 [(0, .ref a), (1, .int i)] [] _ 0 0 _
  refine mp_a (a_iconst (v := 0) dX5_countOfKind_0 rfl) (mpp 1 rfl ?_)
  refine mp_a (a_istore_n (L' := [(2, .int 0), (0, .ref a), (1, .int i)]) dX5_countOfKind_1 (by decide) rfl) (mpp 2 rfl ?_)
  refine mp_a (a_iconst (v := 0) dX5_countOfKind_2 rfl) (mpp 3 rfl ?_)
  refine mp_a (a_istore_n (L' := [(3, .int 0), (2, .int 0), (0, .ref a), (1, .int i)]) dX5_countOfKind_3 (by decide) rfl) (mpp 4 rfl ?_)
  refine mp_a (a_iload_n dX5_countOfKind_4 rfl) (mpp 5 rfl ?_)
  refine mp_a (a_aload_n dX5_countOfKind_5 rfl) (mpp 6 rfl ?_)
  refine mp_get (i := 22) (v := .int 0) dX5_countOfKind_6 rfl h rfl (mpp 9 rfl ?_)
  refine mp_Tt (t := 42) (j_icmp_ge dX5_countOfKind_9) (by decide) (by decide) ?_
  refine mp_a (a_iload_n dX5_countOfKind_42 rfl) (mpp 43 rfl ?_)
  exact mp_iret (⟨rfl, rfl⟩) dX5_countOfKind_43 (Or.inl rfl)

set_option maxRecDepth 100000 in
set_option maxHeartbeats 4000000 in
theorem x_creasesOf {P : mP} {a : Nat} {pv wv fv : Value} {i : Int32} (h : P[a]? = some (5, [pv, .int 0, wv, fv])) : EvP 2 114 [.ref a, .int i] P (fun r P' => r = some (.int 0) ∧ P' = P) := by
  refine EvP.of qm_114 (Nat.le_of_ble_eq_true rfl) rfl ?_
  show MEvP _ none q_114 0 [(0, .ref a), (1, .int i)] [] _ 0 0 _
  refine mp_a (a_iconst (v := 0) dX5_creasesOf_0 rfl) (mpp 1 rfl ?_)
  refine mp_a (a_istore_n (L' := [(2, .int 0), (0, .ref a), (1, .int i)]) dX5_creasesOf_1 (by decide) rfl) (mpp 2 rfl ?_)
  refine mp_a (a_iconst (v := 0) dX5_creasesOf_2 rfl) (mpp 3 rfl ?_)
  refine mp_a (a_istore_n (L' := [(3, .int 0), (2, .int 0), (0, .ref a), (1, .int i)]) dX5_creasesOf_3 (by decide) rfl) (mpp 4 rfl ?_)
  refine mp_a (a_iload_n dX5_creasesOf_4 rfl) (mpp 5 rfl ?_)
  refine mp_a (a_aload_n dX5_creasesOf_5 rfl) (mpp 6 rfl ?_)
  refine mp_get (i := 22) (v := .int 0) dX5_creasesOf_6 rfl h rfl (mpp 9 rfl ?_)
  refine mp_Tt (t := 39) (j_icmp_ge dX5_creasesOf_9) (by decide) (by decide) ?_
  refine mp_a (a_iload_n dX5_creasesOf_39 rfl) (mpp 40 rfl ?_)
  exact mp_iret (⟨rfl, rfl⟩) dX5_creasesOf_40 (Or.inl rfl)

set_option maxRecDepth 100000 in
set_option maxHeartbeats 4000000 in
theorem x_codeHere {P : mP} {a : Nat} {cv v3 v4 v5 v6 v7 : Value} (h : P[a]? = some (4, [cv, .int 0, .int 0, v3, v4, v5, v6, v7])) : EvP 2 98 [.ref a] P (fun r P' => r = some (.int 0) ∧ P' = P) := by
  refine EvP.of qm_98 (Nat.le_of_ble_eq_true rfl) rfl ?_
  show MEvP _ none q_98 0 [(0, .ref a)] [] _ 0 0 _
  refine mp_a (a_aload_n dX4_codeHere_0 rfl) (mpp 1 rfl ?_)
  refine mp_get (i := 23) (v := .int 0) dX4_codeHere_1 rfl h rfl (mpp 4 rfl ?_)
  refine mp_a (a_aload_n dX4_codeHere_4 rfl) (mpp 5 rfl ?_)
  refine mp_get (i := 15) (v := .int 0) dX4_codeHere_5 rfl h rfl (mpp 8 rfl ?_)
  refine mp_Tt (t := 25) (j_icmp_ge dX4_codeHere_8) (by decide) (by decide) ?_
  refine mp_a (a_iconst (v := 0) dX4_codeHere_25 rfl) (mpp 26 rfl ?_)
  exact mp_iret (⟨rfl, rfl⟩) dX4_codeHere_26 (Or.inl rfl)

set_option maxRecDepth 100000 in
set_option maxHeartbeats 4000000 in
theorem xo_mark (a1 : Int32) (a2 : Int32) (a3 : Int32)   : EvP 8 28 [.ref 0, .int a1, .int a2, .int a3] P0 (fun r P' => r = some (.int (-1001)) ∧ MOD P') := by
  refine EvP.of qm_28 (Nat.le_of_ble_eq_true rfl) rfl ?_
  show MEvP _ none q_28 0 [(0, .ref 0), (1, .int a1), (2, .int a2), (3, .int a3)] [] _ 0 0 _
  refine mp_a (a_aload_n dX6_mark_0 rfl) (mpp 1 rfl ?_)
  refine mp_get (i := 10) (v := .ref 1) dX6_mark_1 rfl p0_0 rfl (mpp 4 rfl ?_)
  refine mp_a (a_iload_n dX6_mark_4 rfl) (mpp 5 rfl ?_)
  refine mp_callv (i := 94) (q' := q_9) (As := [.int a1]) (rest := []) dX6_mark_5 rfl qm_9 (by decide) rfl p0_1 (by decide) (Nat.le_of_ble_eq_true rfl) rfl ⟨rfl, rfl⟩ ⟨Nat.le_of_ble_eq_true rfl, Nat.le_of_ble_eq_true rfl⟩ (EvP.mono (by decide) (x_pieceAt p0_1)) (fun r1 P1 g1 => mpp 8 rfl ?_)
  obtain ⟨rfl, rfl⟩ := g1
  show MEvP _ none q_28 8 [(0, .ref 0), (1, .int a1), (2, .int a2), (3, .int a3)] [.null] _ _ _ _
  refine mp_a (a_astoreN (L' := [(4, .null), (0, .ref 0), (1, .int a1), (2, .int a2), (3, .int a3)]) dX6_mark_8 (by decide) rfl) (mpp 10 rfl ?_)
  refine mp_a (a_aloadN dX6_mark_10 rfl) (mpp 12 rfl ?_)
  refine mp_t (s_ifnullN (t := 24) dX6_mark_12 (by decide)) ?_
  refine mp_a (a_sipush (v := -1001) dX6_mark_24 rfl) (mpp 27 rfl ?_)
  exact mp_iret (⟨rfl, MOD.r⟩) dX6_mark_27 (Or.inl rfl)

set_option maxRecDepth 100000 in
set_option maxHeartbeats 4000000 in
theorem xo_turn (a1 : Int32)   : EvP 8 30 [.ref 0, .int a1] P0 (fun r P' => r = some (.int (-1001)) ∧ MOD P') := by
  refine EvP.of qm_30 (Nat.le_of_ble_eq_true rfl) rfl ?_
  show MEvP _ none q_30 0 [(0, .ref 0), (1, .int a1)] [] _ 0 0 _
  refine mp_a (a_aload_n dX6_turn_0 rfl) (mpp 1 rfl ?_)
  refine mp_get (i := 10) (v := .ref 1) dX6_turn_1 rfl p0_0 rfl (mpp 4 rfl ?_)
  refine mp_a (a_iload_n dX6_turn_4 rfl) (mpp 5 rfl ?_)
  refine mp_callv (i := 94) (q' := q_9) (As := [.int a1]) (rest := []) dX6_turn_5 rfl qm_9 (by decide) rfl p0_1 (by decide) (Nat.le_of_ble_eq_true rfl) rfl ⟨rfl, rfl⟩ ⟨Nat.le_of_ble_eq_true rfl, Nat.le_of_ble_eq_true rfl⟩ (EvP.mono (by decide) (x_pieceAt p0_1)) (fun r1 P1 g1 => mpp 8 rfl ?_)
  obtain ⟨rfl, rfl⟩ := g1
  show MEvP _ none q_30 8 [(0, .ref 0), (1, .int a1)] [.null] _ _ _ _
  refine mp_a (a_astore_nN (L' := [(2, .null), (0, .ref 0), (1, .int a1)]) dX6_turn_8 (by decide) rfl) (mpp 9 rfl ?_)
  refine mp_a (a_aload_nN dX6_turn_9 rfl) (mpp 10 rfl ?_)
  refine mp_t (s_ifnonnullN dX6_turn_10) (mpp 13 rfl ?_)
  refine mp_a (a_sipush (v := -1001) dX6_turn_13 rfl) (mpp 16 rfl ?_)
  exact mp_iret (⟨rfl, MOD.r⟩) dX6_turn_16 (Or.inl rfl)

set_option maxRecDepth 100000 in
set_option maxHeartbeats 4000000 in
theorem xo_rotate (a1 : Int32) (a2 : Int32)   : EvP 8 33 [.ref 0, .int a1, .int a2] P0 (fun r P' => r = some (.int (-1001)) ∧ MOD P') := by
  refine EvP.of qm_33 (Nat.le_of_ble_eq_true rfl) rfl ?_
  show MEvP _ none q_33 0 [(0, .ref 0), (1, .int a1), (2, .int a2)] [] _ 0 0 _
  refine mp_a (a_aload_n dX6_rotate_0 rfl) (mpp 1 rfl ?_)
  refine mp_get (i := 10) (v := .ref 1) dX6_rotate_1 rfl p0_0 rfl (mpp 4 rfl ?_)
  refine mp_a (a_iload_n dX6_rotate_4 rfl) (mpp 5 rfl ?_)
  refine mp_callv (i := 94) (q' := q_9) (As := [.int a1]) (rest := []) dX6_rotate_5 rfl qm_9 (by decide) rfl p0_1 (by decide) (Nat.le_of_ble_eq_true rfl) rfl ⟨rfl, rfl⟩ ⟨Nat.le_of_ble_eq_true rfl, Nat.le_of_ble_eq_true rfl⟩ (EvP.mono (by decide) (x_pieceAt p0_1)) (fun r1 P1 g1 => mpp 8 rfl ?_)
  obtain ⟨rfl, rfl⟩ := g1
  show MEvP _ none q_33 8 [(0, .ref 0), (1, .int a1), (2, .int a2)] [.null] _ _ _ _
  refine mp_a (a_astore_nN (L' := [(3, .null), (0, .ref 0), (1, .int a1), (2, .int a2)]) dX6_rotate_8 (by decide) rfl) (mpp 9 rfl ?_)
  refine mp_a (a_aload_nN dX6_rotate_9 rfl) (mpp 10 rfl ?_)
  refine mp_t (s_ifnullN (t := 21) dX6_rotate_10 (by decide)) ?_
  refine mp_a (a_sipush (v := -1001) dX6_rotate_21 rfl) (mpp 24 rfl ?_)
  exact mp_iret (⟨rfl, MOD.r⟩) dX6_rotate_24 (Or.inl rfl)

set_option maxRecDepth 100000 in
set_option maxHeartbeats 4000000 in
theorem xo_join (a1 : Int32) (a2 : Int32) (a3 : Int32)   : EvP 8 36 [.ref 0, .int a1, .int a2, .int a3] P0 (fun r P' => r = some (.int (-1001)) ∧ MOD P') := by
  refine EvP.of qm_36 (Nat.le_of_ble_eq_true rfl) rfl ?_
  show MEvP _ none q_36 0 [(0, .ref 0), (1, .int a1), (2, .int a2), (3, .int a3)] [] _ 0 0 _
  refine mp_a (a_aload_n dX6_join_0 rfl) (mpp 1 rfl ?_)
  refine mp_get (i := 10) (v := .ref 1) dX6_join_1 rfl p0_0 rfl (mpp 4 rfl ?_)
  refine mp_a (a_iload_n dX6_join_4 rfl) (mpp 5 rfl ?_)
  refine mp_callv (i := 94) (q' := q_9) (As := [.int a1]) (rest := []) dX6_join_5 rfl qm_9 (by decide) rfl p0_1 (by decide) (Nat.le_of_ble_eq_true rfl) rfl ⟨rfl, rfl⟩ ⟨Nat.le_of_ble_eq_true rfl, Nat.le_of_ble_eq_true rfl⟩ (EvP.mono (by decide) (x_pieceAt p0_1)) (fun r1 P1 g1 => mpp 8 rfl ?_)
  obtain ⟨rfl, rfl⟩ := g1
  show MEvP _ none q_36 8 [(0, .ref 0), (1, .int a1), (2, .int a2), (3, .int a3)] [.null] _ _ _ _
  refine mp_a (a_astoreN (L' := [(4, .null), (0, .ref 0), (1, .int a1), (2, .int a2), (3, .int a3)]) dX6_join_8 (by decide) rfl) (mpp 10 rfl ?_)
  refine mp_a (a_aload_n dX6_join_10 rfl) (mpp 11 rfl ?_)
  refine mp_get (i := 10) (v := .ref 1) dX6_join_11 rfl p0_0 rfl (mpp 14 rfl ?_)
  refine mp_a (a_iload_n dX6_join_14 rfl) (mpp 15 rfl ?_)
  refine mp_callv (i := 94) (q' := q_9) (As := [.int a2]) (rest := []) dX6_join_15 rfl qm_9 (by decide) rfl p0_1 (by decide) (Nat.le_of_ble_eq_true rfl) rfl ⟨rfl, rfl⟩ ⟨Nat.le_of_ble_eq_true rfl, Nat.le_of_ble_eq_true rfl⟩ (EvP.mono (by decide) (x_pieceAt p0_1)) (fun r1 P1 g1 => mpp 18 rfl ?_)
  obtain ⟨rfl, rfl⟩ := g1
  show MEvP _ none q_36 18 [(4, .null), (0, .ref 0), (1, .int a1), (2, .int a2), (3, .int a3)] [.null] _ _ _ _
  refine mp_a (a_astoreN (L' := [(5, .null), (4, .null), (0, .ref 0), (1, .int a1), (2, .int a2), (3, .int a3)]) dX6_join_18 (by decide) rfl) (mpp 20 rfl ?_)
  refine mp_a (a_aloadN dX6_join_20 rfl) (mpp 22 rfl ?_)
  refine mp_t (s_ifnullN (t := 35) dX6_join_22 (by decide)) ?_
  refine mp_a (a_sipush (v := -1001) dX6_join_35 rfl) (mpp 38 rfl ?_)
  exact mp_iret (⟨rfl, MOD.r⟩) dX6_join_38 (Or.inl rfl)

set_option maxRecDepth 100000 in
set_option maxHeartbeats 4000000 in
theorem xo_cut (a1 : Int32) (a2 : Int32)   : EvP 8 39 [.ref 0, .int a1, .int a2] P0 (fun r P' => r = some (.int (-1001)) ∧ MOD P') := by
  refine EvP.of qm_39 (Nat.le_of_ble_eq_true rfl) rfl ?_
  show MEvP _ none q_39 0 [(0, .ref 0), (1, .int a1), (2, .int a2)] [] _ 0 0 _
  refine mp_a (a_aload_n dX6_cut_0 rfl) (mpp 1 rfl ?_)
  refine mp_get (i := 10) (v := .ref 1) dX6_cut_1 rfl p0_0 rfl (mpp 4 rfl ?_)
  refine mp_a (a_iload_n dX6_cut_4 rfl) (mpp 5 rfl ?_)
  refine mp_callv (i := 94) (q' := q_9) (As := [.int a1]) (rest := []) dX6_cut_5 rfl qm_9 (by decide) rfl p0_1 (by decide) (Nat.le_of_ble_eq_true rfl) rfl ⟨rfl, rfl⟩ ⟨Nat.le_of_ble_eq_true rfl, Nat.le_of_ble_eq_true rfl⟩ (EvP.mono (by decide) (x_pieceAt p0_1)) (fun r1 P1 g1 => mpp 8 rfl ?_)
  obtain ⟨rfl, rfl⟩ := g1
  show MEvP _ none q_39 8 [(0, .ref 0), (1, .int a1), (2, .int a2)] [.null] _ _ _ _
  refine mp_a (a_astore_nN (L' := [(3, .null), (0, .ref 0), (1, .int a1), (2, .int a2)]) dX6_cut_8 (by decide) rfl) (mpp 9 rfl ?_)
  refine mp_a (a_aload_nN dX6_cut_9 rfl) (mpp 10 rfl ?_)
  refine mp_t (s_ifnullN (t := 21) dX6_cut_10 (by decide)) ?_
  refine mp_a (a_sipush (v := -1001) dX6_cut_21 rfl) (mpp 24 rfl ?_)
  exact mp_iret (⟨rfl, MOD.r⟩) dX6_cut_24 (Or.inl rfl)

set_option maxRecDepth 100000 in
set_option maxHeartbeats 4000000 in
theorem xo_fold (a1 : Int32)   : EvP 8 41 [.ref 0, .int a1] P0 (fun r P' => r = some (.int (-1001)) ∧ MOD P') := by
  refine EvP.of qm_41 (Nat.le_of_ble_eq_true rfl) rfl ?_
  show MEvP _ none q_41 0 [(0, .ref 0), (1, .int a1)] [] _ 0 0 _
  refine mp_a (a_aload_n dX6_fold_0 rfl) (mpp 1 rfl ?_)
  refine mp_get (i := 10) (v := .ref 1) dX6_fold_1 rfl p0_0 rfl (mpp 4 rfl ?_)
  refine mp_a (a_iload_n dX6_fold_4 rfl) (mpp 5 rfl ?_)
  refine mp_callv (i := 94) (q' := q_9) (As := [.int a1]) (rest := []) dX6_fold_5 rfl qm_9 (by decide) rfl p0_1 (by decide) (Nat.le_of_ble_eq_true rfl) rfl ⟨rfl, rfl⟩ ⟨Nat.le_of_ble_eq_true rfl, Nat.le_of_ble_eq_true rfl⟩ (EvP.mono (by decide) (x_pieceAt p0_1)) (fun r1 P1 g1 => mpp 8 rfl ?_)
  obtain ⟨rfl, rfl⟩ := g1
  show MEvP _ none q_41 8 [(0, .ref 0), (1, .int a1)] [.null] _ _ _ _
  refine mp_a (a_astore_nN (L' := [(2, .null), (0, .ref 0), (1, .int a1)]) dX6_fold_8 (by decide) rfl) (mpp 9 rfl ?_)
  refine mp_a (a_aload_nN dX6_fold_9 rfl) (mpp 10 rfl ?_)
  refine mp_t (s_ifnonnullN dX6_fold_10) (mpp 13 rfl ?_)
  refine mp_a (a_sipush (v := -1001) dX6_fold_13 rfl) (mpp 16 rfl ?_)
  exact mp_iret (⟨rfl, MOD.r⟩) dX6_fold_16 (Or.inl rfl)

set_option maxRecDepth 100000 in
set_option maxHeartbeats 4000000 in
theorem xo_unfold (a1 : Int32)   : EvP 8 56 [.ref 0, .int a1] P0 (fun r P' => r = some (.int (-1001)) ∧ MOD P') := by
  refine EvP.of qm_56 (Nat.le_of_ble_eq_true rfl) rfl ?_
  show MEvP _ none q_56 0 [(0, .ref 0), (1, .int a1)] [] _ 0 0 _
  refine mp_a (a_aload_n dX6_unfold_0 rfl) (mpp 1 rfl ?_)
  refine mp_get (i := 10) (v := .ref 1) dX6_unfold_1 rfl p0_0 rfl (mpp 4 rfl ?_)
  refine mp_a (a_iload_n dX6_unfold_4 rfl) (mpp 5 rfl ?_)
  refine mp_callv (i := 94) (q' := q_9) (As := [.int a1]) (rest := []) dX6_unfold_5 rfl qm_9 (by decide) rfl p0_1 (by decide) (Nat.le_of_ble_eq_true rfl) rfl ⟨rfl, rfl⟩ ⟨Nat.le_of_ble_eq_true rfl, Nat.le_of_ble_eq_true rfl⟩ (EvP.mono (by decide) (x_pieceAt p0_1)) (fun r1 P1 g1 => mpp 8 rfl ?_)
  obtain ⟨rfl, rfl⟩ := g1
  show MEvP _ none q_56 8 [(0, .ref 0), (1, .int a1)] [.null] _ _ _ _
  refine mp_a (a_astore_nN (L' := [(2, .null), (0, .ref 0), (1, .int a1)]) dX6_unfold_8 (by decide) rfl) (mpp 9 rfl ?_)
  refine mp_a (a_aload_nN dX6_unfold_9 rfl) (mpp 10 rfl ?_)
  refine mp_t (s_ifnonnullN dX6_unfold_10) (mpp 13 rfl ?_)
  refine mp_a (a_sipush (v := -1001) dX6_unfold_13 rfl) (mpp 16 rfl ?_)
  exact mp_iret (⟨rfl, MOD.r⟩) dX6_unfold_16 (Or.inl rfl)

set_option maxRecDepth 100000 in
set_option maxHeartbeats 4000000 in
theorem xo_drop (a1 : Int32)   : EvP 8 57 [.ref 0, .int a1] P0 (fun r P' => r = some (.int (-1001)) ∧ MOD P') := by
  refine EvP.of qm_57 (Nat.le_of_ble_eq_true rfl) rfl ?_
  show MEvP _ none q_57 0 [(0, .ref 0), (1, .int a1)] [] _ 0 0 _
  refine mp_a (a_aload_n dX6_drop_0 rfl) (mpp 1 rfl ?_)
  refine mp_get (i := 10) (v := .ref 1) dX6_drop_1 rfl p0_0 rfl (mpp 4 rfl ?_)
  refine mp_a (a_iload_n dX6_drop_4 rfl) (mpp 5 rfl ?_)
  refine mp_callv (i := 94) (q' := q_9) (As := [.int a1]) (rest := []) dX6_drop_5 rfl qm_9 (by decide) rfl p0_1 (by decide) (Nat.le_of_ble_eq_true rfl) rfl ⟨rfl, rfl⟩ ⟨Nat.le_of_ble_eq_true rfl, Nat.le_of_ble_eq_true rfl⟩ (EvP.mono (by decide) (x_pieceAt p0_1)) (fun r1 P1 g1 => mpp 8 rfl ?_)
  obtain ⟨rfl, rfl⟩ := g1
  show MEvP _ none q_57 8 [(0, .ref 0), (1, .int a1)] [.null] _ _ _ _
  refine mp_t (s_ifnonnullN dX6_drop_8) (mpp 11 rfl ?_)
  refine mp_a (a_sipush (v := -1001) dX6_drop_11 rfl) (mpp 14 rfl ?_)
  exact mp_iret (⟨rfl, MOD.r⟩) dX6_drop_14 (Or.inl rfl)

set_option maxRecDepth 100000 in
set_option maxHeartbeats 4000000 in
theorem xo_piece (a1 : Int32) (a2 : Int32)   : EvP 8 58 [.ref 0, .int a1, .int a2] P0 (fun r P' => r = some (.int (-1001)) ∧ MOD P') := by
  refine EvP.of qm_58 (Nat.le_of_ble_eq_true rfl) rfl ?_
  show MEvP _ none q_58 0 [(0, .ref 0), (1, .int a1), (2, .int a2)] [] _ 0 0 _
  refine mp_a (a_aload_n dX6_piece_0 rfl) (mpp 1 rfl ?_)
  refine mp_get (i := 10) (v := .ref 1) dX6_piece_1 rfl p0_0 rfl (mpp 4 rfl ?_)
  refine mp_a (a_iload_n dX6_piece_4 rfl) (mpp 5 rfl ?_)
  refine mp_callv (i := 94) (q' := q_9) (As := [.int a1]) (rest := []) dX6_piece_5 rfl qm_9 (by decide) rfl p0_1 (by decide) (Nat.le_of_ble_eq_true rfl) rfl ⟨rfl, rfl⟩ ⟨Nat.le_of_ble_eq_true rfl, Nat.le_of_ble_eq_true rfl⟩ (EvP.mono (by decide) (x_pieceAt p0_1)) (fun r1 P1 g1 => mpp 8 rfl ?_)
  obtain ⟨rfl, rfl⟩ := g1
  show MEvP _ none q_58 8 [(0, .ref 0), (1, .int a1), (2, .int a2)] [.null] _ _ _ _
  refine mp_a (a_astore_nN (L' := [(3, .null), (0, .ref 0), (1, .int a1), (2, .int a2)]) dX6_piece_8 (by decide) rfl) (mpp 9 rfl ?_)
  refine mp_a (a_aload_nN dX6_piece_9 rfl) (mpp 10 rfl ?_)
  refine mp_t (s_ifnonnullN dX6_piece_10) (mpp 13 rfl ?_)
  refine mp_a (a_sipush (v := -1001) dX6_piece_13 rfl) (mpp 16 rfl ?_)
  exact mp_iret (⟨rfl, MOD.r⟩) dX6_piece_16 (Or.inl rfl)

set_option maxRecDepth 100000 in
set_option maxHeartbeats 4000000 in
theorem xo_size (a1 : Int32) (a2 : Int32)   : EvP 8 59 [.ref 0, .int a1, .int a2] P0 (fun r P' => r = some (.int (-1001)) ∧ MOD P') := by
  refine EvP.of qm_59 (Nat.le_of_ble_eq_true rfl) rfl ?_
  show MEvP _ none q_59 0 [(0, .ref 0), (1, .int a1), (2, .int a2)] [] _ 0 0 _
  refine mp_a (a_aload_n dX6_size_0 rfl) (mpp 1 rfl ?_)
  refine mp_get (i := 10) (v := .ref 1) dX6_size_1 rfl p0_0 rfl (mpp 4 rfl ?_)
  refine mp_a (a_iload_n dX6_size_4 rfl) (mpp 5 rfl ?_)
  refine mp_callv (i := 94) (q' := q_9) (As := [.int a1]) (rest := []) dX6_size_5 rfl qm_9 (by decide) rfl p0_1 (by decide) (Nat.le_of_ble_eq_true rfl) rfl ⟨rfl, rfl⟩ ⟨Nat.le_of_ble_eq_true rfl, Nat.le_of_ble_eq_true rfl⟩ (EvP.mono (by decide) (x_pieceAt p0_1)) (fun r1 P1 g1 => mpp 8 rfl ?_)
  obtain ⟨rfl, rfl⟩ := g1
  show MEvP _ none q_59 8 [(0, .ref 0), (1, .int a1), (2, .int a2)] [.null] _ _ _ _
  refine mp_a (a_astore_nN (L' := [(3, .null), (0, .ref 0), (1, .int a1), (2, .int a2)]) dX6_size_8 (by decide) rfl) (mpp 9 rfl ?_)
  refine mp_a (a_aload_nN dX6_size_9 rfl) (mpp 10 rfl ?_)
  refine mp_t (s_ifnullN (t := 25) dX6_size_10 (by decide)) ?_
  refine mp_a (a_sipush (v := -1001) dX6_size_25 rfl) (mpp 28 rfl ?_)
  exact mp_iret (⟨rfl, MOD.r⟩) dX6_size_28 (Or.inl rfl)

set_option maxRecDepth 100000 in
set_option maxHeartbeats 4000000 in
theorem xo_crease (a1 : Int32) (a2 : Int32)   : EvP 8 60 [.ref 0, .int a1, .int a2] P0 (fun r P' => r = some (.int (-1001)) ∧ MOD P') := by
  refine EvP.of qm_60 (Nat.le_of_ble_eq_true rfl) rfl ?_
  show MEvP _ none q_60 0 [(0, .ref 0), (1, .int a1), (2, .int a2)] [] _ 0 0 _
  refine mp_a (a_aload_n dX6_crease_0 rfl) (mpp 1 rfl ?_)
  refine mp_get (i := 10) (v := .ref 1) dX6_crease_1 rfl p0_0 rfl (mpp 4 rfl ?_)
  refine mp_a (a_iload_n dX6_crease_4 rfl) (mpp 5 rfl ?_)
  refine mp_callv (i := 94) (q' := q_9) (As := [.int a1]) (rest := []) dX6_crease_5 rfl qm_9 (by decide) rfl p0_1 (by decide) (Nat.le_of_ble_eq_true rfl) rfl ⟨rfl, rfl⟩ ⟨Nat.le_of_ble_eq_true rfl, Nat.le_of_ble_eq_true rfl⟩ (EvP.mono (by decide) (x_pieceAt p0_1)) (fun r1 P1 g1 => mpp 8 rfl ?_)
  obtain ⟨rfl, rfl⟩ := g1
  show MEvP _ none q_60 8 [(0, .ref 0), (1, .int a1), (2, .int a2)] [.null] _ _ _ _
  refine mp_a (a_astore_nN (L' := [(3, .null), (0, .ref 0), (1, .int a1), (2, .int a2)]) dX6_crease_8 (by decide) rfl) (mpp 9 rfl ?_)
  refine mp_a (a_aload_nN dX6_crease_9 rfl) (mpp 10 rfl ?_)
  refine mp_t (s_ifnullN (t := 21) dX6_crease_10 (by decide)) ?_
  refine mp_a (a_sipush (v := -1001) dX6_crease_21 rfl) (mpp 24 rfl ?_)
  exact mp_iret (⟨rfl, MOD.r⟩) dX6_crease_24 (Or.inl rfl)

set_option maxRecDepth 100000 in
set_option maxHeartbeats 4000000 in
theorem xo_why (a1 : Int32)   : EvP 8 61 [.ref 0, .int a1] P0 (fun r P' => r = some (.int (-1001)) ∧ MOD P') := by
  refine EvP.of qm_61 (Nat.le_of_ble_eq_true rfl) rfl ?_
  show MEvP _ none q_61 0 [(0, .ref 0), (1, .int a1)] [] _ 0 0 _
  refine mp_a (a_aload_n dX6_why_0 rfl) (mpp 1 rfl ?_)
  refine mp_get (i := 10) (v := .ref 1) dX6_why_1 rfl p0_0 rfl (mpp 4 rfl ?_)
  refine mp_a (a_iload_n dX6_why_4 rfl) (mpp 5 rfl ?_)
  refine mp_callv (i := 94) (q' := q_9) (As := [.int a1]) (rest := []) dX6_why_5 rfl qm_9 (by decide) rfl p0_1 (by decide) (Nat.le_of_ble_eq_true rfl) rfl ⟨rfl, rfl⟩ ⟨Nat.le_of_ble_eq_true rfl, Nat.le_of_ble_eq_true rfl⟩ (EvP.mono (by decide) (x_pieceAt p0_1)) (fun r1 P1 g1 => mpp 8 rfl ?_)
  obtain ⟨rfl, rfl⟩ := g1
  show MEvP _ none q_61 8 [(0, .ref 0), (1, .int a1)] [.null] _ _ _ _
  refine mp_a (a_astore_nN (L' := [(2, .null), (0, .ref 0), (1, .int a1)]) dX6_why_8 (by decide) rfl) (mpp 9 rfl ?_)
  refine mp_a (a_aload_nN dX6_why_9 rfl) (mpp 10 rfl ?_)
  refine mp_t (s_ifnonnullN dX6_why_10) (mpp 13 rfl ?_)
  refine mp_a (a_sipush (v := -1001) dX6_why_13 rfl) (mpp 16 rfl ?_)
  refine mp_a (a_goto (t := 27) dX6_why_16 (by decide)) ?_
  exact mp_iret (⟨rfl, MOD.r⟩) dX6_why_27 (Or.inl rfl)

set_option maxRecDepth 100000 in
set_option maxHeartbeats 4000000 in
theorem xo_foldsAgain (a1 : Int32)   : EvP 8 62 [.ref 0, .int a1] P0 (fun r P' => r = some (.int (-1001)) ∧ MOD P') := by
  refine EvP.of qm_62 (Nat.le_of_ble_eq_true rfl) rfl ?_
  show MEvP _ none q_62 0 [(0, .ref 0), (1, .int a1)] [] _ 0 0 _
  refine mp_a (a_aload_n dX6_foldsAgain_0 rfl) (mpp 1 rfl ?_)
  refine mp_get (i := 10) (v := .ref 1) dX6_foldsAgain_1 rfl p0_0 rfl (mpp 4 rfl ?_)
  refine mp_a (a_iload_n dX6_foldsAgain_4 rfl) (mpp 5 rfl ?_)
  refine mp_callv (i := 94) (q' := q_9) (As := [.int a1]) (rest := []) dX6_foldsAgain_5 rfl qm_9 (by decide) rfl p0_1 (by decide) (Nat.le_of_ble_eq_true rfl) rfl ⟨rfl, rfl⟩ ⟨Nat.le_of_ble_eq_true rfl, Nat.le_of_ble_eq_true rfl⟩ (EvP.mono (by decide) (x_pieceAt p0_1)) (fun r1 P1 g1 => mpp 8 rfl ?_)
  obtain ⟨rfl, rfl⟩ := g1
  show MEvP _ none q_62 8 [(0, .ref 0), (1, .int a1)] [.null] _ _ _ _
  refine mp_a (a_astore_nN (L' := [(2, .null), (0, .ref 0), (1, .int a1)]) dX6_foldsAgain_8 (by decide) rfl) (mpp 9 rfl ?_)
  refine mp_a (a_aload_nN dX6_foldsAgain_9 rfl) (mpp 10 rfl ?_)
  refine mp_calls (i := 181) (q' := q_63) (As := [.null]) (rest := []) dX6_foldsAgain_10 rfl qm_63 (by decide) rfl (Nat.le_of_ble_eq_true rfl) rfl ⟨rfl, rfl⟩ ⟨Nat.le_of_ble_eq_true rfl, Nat.le_of_ble_eq_true rfl⟩ (EvP.mono (by decide) x_errstrip) (fun r1 P1 g1 => mpp 13 rfl ?_)
  obtain ⟨rfl, rfl⟩ := g1
  show MEvP _ none q_62 13 [(2, .null), (0, .ref 0), (1, .int a1)] [.int (-1001)] _ _ _ _
  refine mp_a (a_istore_n (L' := [(3, .int (-1001)), (2, .null), (0, .ref 0), (1, .int a1)]) dX6_foldsAgain_13 (by decide) rfl) (mpp 14 rfl ?_)
  refine mp_a (a_iload_n dX6_foldsAgain_14 rfl) (mpp 15 rfl ?_)
  refine mp_Tt (t := 22) (j_if_ne dX6_foldsAgain_15) (by decide) (by decide) ?_
  refine mp_a (a_iload_n dX6_foldsAgain_22 rfl) (mpp 23 rfl ?_)
  exact mp_iret (⟨rfl, MOD.r⟩) dX6_foldsAgain_23 (Or.inl rfl)

set_option maxRecDepth 100000 in
set_option maxHeartbeats 4000000 in
theorem xo_step (a1 : Int32)   : EvP 8 73 [.ref 0, .int a1] P0 (fun r P' => r = some (.int (-1001)) ∧ MOD P') := by
  refine EvP.of qm_73 (Nat.le_of_ble_eq_true rfl) rfl ?_
  show MEvP _ none q_73 0 [(0, .ref 0), (1, .int a1)] [] _ 0 0 _
  refine mp_a (a_aload_n dX6_step_0 rfl) (mpp 1 rfl ?_)
  refine mp_get (i := 10) (v := .ref 1) dX6_step_1 rfl p0_0 rfl (mpp 4 rfl ?_)
  refine mp_a (a_iload_n dX6_step_4 rfl) (mpp 5 rfl ?_)
  refine mp_callv (i := 94) (q' := q_9) (As := [.int a1]) (rest := []) dX6_step_5 rfl qm_9 (by decide) rfl p0_1 (by decide) (Nat.le_of_ble_eq_true rfl) rfl ⟨rfl, rfl⟩ ⟨Nat.le_of_ble_eq_true rfl, Nat.le_of_ble_eq_true rfl⟩ (EvP.mono (by decide) (x_pieceAt p0_1)) (fun r1 P1 g1 => mpp 8 rfl ?_)
  obtain ⟨rfl, rfl⟩ := g1
  show MEvP _ none q_73 8 [(0, .ref 0), (1, .int a1)] [.null] _ _ _ _
  refine mp_a (a_astore_nN (L' := [(2, .null), (0, .ref 0), (1, .int a1)]) dX6_step_8 (by decide) rfl) (mpp 9 rfl ?_)
  refine mp_a (a_aload_nN dX6_step_9 rfl) (mpp 10 rfl ?_)
  refine mp_t (s_ifnonnullN dX6_step_10) (mpp 13 rfl ?_)
  refine mp_a (a_sipush (v := -1001) dX6_step_13 rfl) (mpp 16 rfl ?_)
  exact mp_iret (⟨rfl, MOD.r⟩) dX6_step_16 (Or.inl rfl)

set_option maxRecDepth 100000 in
set_option maxHeartbeats 4000000 in
theorem xo_steps (a1 : Int32)   : EvP 8 74 [.ref 0, .int a1] P0 (fun r P' => r = some (.int (-1001)) ∧ MOD P') := by
  refine EvP.of qm_74 (Nat.le_of_ble_eq_true rfl) rfl ?_
  show MEvP _ none q_74 0 [(0, .ref 0), (1, .int a1)] [] _ 0 0 _
  refine mp_a (a_aload_n dX6_steps_0 rfl) (mpp 1 rfl ?_)
  refine mp_get (i := 10) (v := .ref 1) dX6_steps_1 rfl p0_0 rfl (mpp 4 rfl ?_)
  refine mp_a (a_iload_n dX6_steps_4 rfl) (mpp 5 rfl ?_)
  refine mp_callv (i := 94) (q' := q_9) (As := [.int a1]) (rest := []) dX6_steps_5 rfl qm_9 (by decide) rfl p0_1 (by decide) (Nat.le_of_ble_eq_true rfl) rfl ⟨rfl, rfl⟩ ⟨Nat.le_of_ble_eq_true rfl, Nat.le_of_ble_eq_true rfl⟩ (EvP.mono (by decide) (x_pieceAt p0_1)) (fun r1 P1 g1 => mpp 8 rfl ?_)
  obtain ⟨rfl, rfl⟩ := g1
  show MEvP _ none q_74 8 [(0, .ref 0), (1, .int a1)] [.null] _ _ _ _
  refine mp_a (a_astore_nN (L' := [(2, .null), (0, .ref 0), (1, .int a1)]) dX6_steps_8 (by decide) rfl) (mpp 9 rfl ?_)
  refine mp_a (a_aload_nN dX6_steps_9 rfl) (mpp 10 rfl ?_)
  refine mp_t (s_ifnonnullN dX6_steps_10) (mpp 13 rfl ?_)
  refine mp_a (a_sipush (v := -1001) dX6_steps_13 rfl) (mpp 16 rfl ?_)
  exact mp_iret (⟨rfl, MOD.r⟩) dX6_steps_16 (Or.inl rfl)

set_option maxRecDepth 100000 in
set_option maxHeartbeats 4000000 in
theorem xo_ways (a1 : Int32)   : EvP 8 75 [.ref 0, .int a1] P0 (fun r P' => r = some (.int (-1001)) ∧ MOD P') := by
  refine EvP.of qm_75 (Nat.le_of_ble_eq_true rfl) rfl ?_
  show MEvP _ none q_75 0 [(0, .ref 0), (1, .int a1)] [] _ 0 0 _
  refine mp_a (a_aload_n dX6_ways_0 rfl) (mpp 1 rfl ?_)
  refine mp_get (i := 10) (v := .ref 1) dX6_ways_1 rfl p0_0 rfl (mpp 4 rfl ?_)
  refine mp_a (a_iload_n dX6_ways_4 rfl) (mpp 5 rfl ?_)
  refine mp_callv (i := 94) (q' := q_9) (As := [.int a1]) (rest := []) dX6_ways_5 rfl qm_9 (by decide) rfl p0_1 (by decide) (Nat.le_of_ble_eq_true rfl) rfl ⟨rfl, rfl⟩ ⟨Nat.le_of_ble_eq_true rfl, Nat.le_of_ble_eq_true rfl⟩ (EvP.mono (by decide) (x_pieceAt p0_1)) (fun r1 P1 g1 => mpp 8 rfl ?_)
  obtain ⟨rfl, rfl⟩ := g1
  show MEvP _ none q_75 8 [(0, .ref 0), (1, .int a1)] [.null] _ _ _ _
  refine mp_a (a_astore_nN (L' := [(2, .null), (0, .ref 0), (1, .int a1)]) dX6_ways_8 (by decide) rfl) (mpp 9 rfl ?_)
  refine mp_a (a_aload_nN dX6_ways_9 rfl) (mpp 10 rfl ?_)
  refine mp_t (s_ifnonnullN dX6_ways_10) (mpp 13 rfl ?_)
  refine mp_a (a_sipush (v := -1001) dX6_ways_13 rfl) (mpp 16 rfl ?_)
  refine mp_a (a_goto (t := 27) dX6_ways_16 (by decide)) ?_
  exact mp_iret (⟨rfl, MOD.r⟩) dX6_ways_27 (Or.inl rfl)

set_option maxRecDepth 100000 in
set_option maxHeartbeats 4000000 in
theorem xo_fewest (a1 : Int32)   : EvP 8 80 [.ref 0, .int a1] P0 (fun r P' => r = some (.int (-1001)) ∧ MOD P') := by
  refine EvP.of qm_80 (Nat.le_of_ble_eq_true rfl) rfl ?_
  show MEvP _ none q_80 0 [(0, .ref 0), (1, .int a1)] [] _ 0 0 _
  refine mp_a (a_aload_n dX6_fewest_0 rfl) (mpp 1 rfl ?_)
  refine mp_get (i := 10) (v := .ref 1) dX6_fewest_1 rfl p0_0 rfl (mpp 4 rfl ?_)
  refine mp_a (a_iload_n dX6_fewest_4 rfl) (mpp 5 rfl ?_)
  refine mp_callv (i := 94) (q' := q_9) (As := [.int a1]) (rest := []) dX6_fewest_5 rfl qm_9 (by decide) rfl p0_1 (by decide) (Nat.le_of_ble_eq_true rfl) rfl ⟨rfl, rfl⟩ ⟨Nat.le_of_ble_eq_true rfl, Nat.le_of_ble_eq_true rfl⟩ (EvP.mono (by decide) (x_pieceAt p0_1)) (fun r1 P1 g1 => mpp 8 rfl ?_)
  obtain ⟨rfl, rfl⟩ := g1
  show MEvP _ none q_80 8 [(0, .ref 0), (1, .int a1)] [.null] _ _ _ _
  refine mp_a (a_astore_nN (L' := [(2, .null), (0, .ref 0), (1, .int a1)]) dX6_fewest_8 (by decide) rfl) (mpp 9 rfl ?_)
  refine mp_a (a_aload_nN dX6_fewest_9 rfl) (mpp 10 rfl ?_)
  refine mp_t (s_ifnonnullN dX6_fewest_10) (mpp 13 rfl ?_)
  refine mp_a (a_sipush (v := -1001) dX6_fewest_13 rfl) (mpp 16 rfl ?_)
  refine mp_a (a_goto (t := 27) dX6_fewest_16 (by decide)) ?_
  exact mp_iret (⟨rfl, MOD.r⟩) dX6_fewest_27 (Or.inl rfl)

set_option maxRecDepth 100000 in
set_option maxHeartbeats 4000000 in
theorem xo_place (a1 : Int32) (a2 : Int32)   : EvP 8 82 [.ref 0, .int a1, .int a2] P0 (fun r P' => r = some (.int (-1001)) ∧ MOD P') := by
  refine EvP.of qm_82 (Nat.le_of_ble_eq_true rfl) rfl ?_
  show MEvP _ none q_82 0 [(0, .ref 0), (1, .int a1), (2, .int a2)] [] _ 0 0 _
  refine mp_a (a_aload_n dX6_place_0 rfl) (mpp 1 rfl ?_)
  refine mp_get (i := 10) (v := .ref 1) dX6_place_1 rfl p0_0 rfl (mpp 4 rfl ?_)
  refine mp_a (a_iload_n dX6_place_4 rfl) (mpp 5 rfl ?_)
  refine mp_callv (i := 94) (q' := q_9) (As := [.int a1]) (rest := []) dX6_place_5 rfl qm_9 (by decide) rfl p0_1 (by decide) (Nat.le_of_ble_eq_true rfl) rfl ⟨rfl, rfl⟩ ⟨Nat.le_of_ble_eq_true rfl, Nat.le_of_ble_eq_true rfl⟩ (EvP.mono (by decide) (x_pieceAt p0_1)) (fun r1 P1 g1 => mpp 8 rfl ?_)
  obtain ⟨rfl, rfl⟩ := g1
  show MEvP _ none q_82 8 [(0, .ref 0), (1, .int a1), (2, .int a2)] [.null] _ _ _ _
  refine mp_a (a_astore_nN (L' := [(3, .null), (0, .ref 0), (1, .int a1), (2, .int a2)]) dX6_place_8 (by decide) rfl) (mpp 9 rfl ?_)
  refine mp_a (a_aload_nN dX6_place_9 rfl) (mpp 10 rfl ?_)
  refine mp_t (s_ifnonnullN dX6_place_10) (mpp 13 rfl ?_)
  refine mp_a (a_sipush (v := -1001) dX6_place_13 rfl) (mpp 16 rfl ?_)
  exact mp_iret (⟨rfl, MOD.r⟩) dX6_place_16 (Or.inl rfl)

set_option maxRecDepth 100000 in
set_option maxHeartbeats 4000000 in
theorem xo_layer (a1 : Int32) (a2 : Int32)   : EvP 8 83 [.ref 0, .int a1, .int a2] P0 (fun r P' => r = some (.int (-1001)) ∧ MOD P') := by
  refine EvP.of qm_83 (Nat.le_of_ble_eq_true rfl) rfl ?_
  show MEvP _ none q_83 0 [(0, .ref 0), (1, .int a1), (2, .int a2)] [] _ 0 0 _
  refine mp_a (a_aload_n dX6_layer_0 rfl) (mpp 1 rfl ?_)
  refine mp_get (i := 10) (v := .ref 1) dX6_layer_1 rfl p0_0 rfl (mpp 4 rfl ?_)
  refine mp_a (a_iload_n dX6_layer_4 rfl) (mpp 5 rfl ?_)
  refine mp_callv (i := 94) (q' := q_9) (As := [.int a1]) (rest := []) dX6_layer_5 rfl qm_9 (by decide) rfl p0_1 (by decide) (Nat.le_of_ble_eq_true rfl) rfl ⟨rfl, rfl⟩ ⟨Nat.le_of_ble_eq_true rfl, Nat.le_of_ble_eq_true rfl⟩ (EvP.mono (by decide) (x_pieceAt p0_1)) (fun r1 P1 g1 => mpp 8 rfl ?_)
  obtain ⟨rfl, rfl⟩ := g1
  show MEvP _ none q_83 8 [(0, .ref 0), (1, .int a1), (2, .int a2)] [.null] _ _ _ _
  refine mp_a (a_astore_nN (L' := [(3, .null), (0, .ref 0), (1, .int a1), (2, .int a2)]) dX6_layer_8 (by decide) rfl) (mpp 9 rfl ?_)
  refine mp_a (a_aload_nN dX6_layer_9 rfl) (mpp 10 rfl ?_)
  refine mp_t (s_ifnonnullN dX6_layer_10) (mpp 13 rfl ?_)
  refine mp_a (a_sipush (v := -1001) dX6_layer_13 rfl) (mpp 16 rfl ?_)
  exact mp_iret (⟨rfl, MOD.r⟩) dX6_layer_16 (Or.inl rfl)

set_option maxRecDepth 100000 in
set_option maxHeartbeats 4000000 in
theorem xo_orders (a1 : Int32)   : EvP 8 84 [.ref 0, .int a1] P0 (fun r P' => r = some (.int (-1001)) ∧ MOD P') := by
  refine EvP.of qm_84 (Nat.le_of_ble_eq_true rfl) rfl ?_
  show MEvP _ none q_84 0 [(0, .ref 0), (1, .int a1)] [] _ 0 0 _
  refine mp_a (a_aload_n dX6_orders_0 rfl) (mpp 1 rfl ?_)
  refine mp_get (i := 10) (v := .ref 1) dX6_orders_1 rfl p0_0 rfl (mpp 4 rfl ?_)
  refine mp_a (a_iload_n dX6_orders_4 rfl) (mpp 5 rfl ?_)
  refine mp_callv (i := 94) (q' := q_9) (As := [.int a1]) (rest := []) dX6_orders_5 rfl qm_9 (by decide) rfl p0_1 (by decide) (Nat.le_of_ble_eq_true rfl) rfl ⟨rfl, rfl⟩ ⟨Nat.le_of_ble_eq_true rfl, Nat.le_of_ble_eq_true rfl⟩ (EvP.mono (by decide) (x_pieceAt p0_1)) (fun r1 P1 g1 => mpp 8 rfl ?_)
  obtain ⟨rfl, rfl⟩ := g1
  show MEvP _ none q_84 8 [(0, .ref 0), (1, .int a1)] [.null] _ _ _ _
  refine mp_a (a_astore_nN (L' := [(2, .null), (0, .ref 0), (1, .int a1)]) dX6_orders_8 (by decide) rfl) (mpp 9 rfl ?_)
  refine mp_a (a_aload_nN dX6_orders_9 rfl) (mpp 10 rfl ?_)
  refine mp_calls (i := 181) (q' := q_63) (As := [.null]) (rest := []) dX6_orders_10 rfl qm_63 (by decide) rfl (Nat.le_of_ble_eq_true rfl) rfl ⟨rfl, rfl⟩ ⟨Nat.le_of_ble_eq_true rfl, Nat.le_of_ble_eq_true rfl⟩ (EvP.mono (by decide) x_errstrip) (fun r1 P1 g1 => mpp 13 rfl ?_)
  obtain ⟨rfl, rfl⟩ := g1
  show MEvP _ none q_84 13 [(2, .null), (0, .ref 0), (1, .int a1)] [.int (-1001)] _ _ _ _
  refine mp_a (a_istore_n (L' := [(3, .int (-1001)), (2, .null), (0, .ref 0), (1, .int a1)]) dX6_orders_13 (by decide) rfl) (mpp 14 rfl ?_)
  refine mp_a (a_iload_n dX6_orders_14 rfl) (mpp 15 rfl ?_)
  refine mp_Tt (t := 22) (j_if_ne dX6_orders_15) (by decide) (by decide) ?_
  refine mp_a (a_iload_n dX6_orders_22 rfl) (mpp 23 rfl ?_)
  exact mp_iret (⟨rfl, MOD.r⟩) dX6_orders_23 (Or.inl rfl)

set_option maxRecDepth 100000 in
set_option maxHeartbeats 4000000 in
theorem xo_thickest (a1 : Int32)   : EvP 8 85 [.ref 0, .int a1] P0 (fun r P' => r = some (.int (-1001)) ∧ MOD P') := by
  refine EvP.of qm_85 (Nat.le_of_ble_eq_true rfl) rfl ?_
  show MEvP _ none q_85 0 [(0, .ref 0), (1, .int a1)] [] _ 0 0 _
  refine mp_a (a_aload_n dX6_thickest_0 rfl) (mpp 1 rfl ?_)
  refine mp_get (i := 10) (v := .ref 1) dX6_thickest_1 rfl p0_0 rfl (mpp 4 rfl ?_)
  refine mp_a (a_iload_n dX6_thickest_4 rfl) (mpp 5 rfl ?_)
  refine mp_callv (i := 94) (q' := q_9) (As := [.int a1]) (rest := []) dX6_thickest_5 rfl qm_9 (by decide) rfl p0_1 (by decide) (Nat.le_of_ble_eq_true rfl) rfl ⟨rfl, rfl⟩ ⟨Nat.le_of_ble_eq_true rfl, Nat.le_of_ble_eq_true rfl⟩ (EvP.mono (by decide) (x_pieceAt p0_1)) (fun r1 P1 g1 => mpp 8 rfl ?_)
  obtain ⟨rfl, rfl⟩ := g1
  show MEvP _ none q_85 8 [(0, .ref 0), (1, .int a1)] [.null] _ _ _ _
  refine mp_a (a_astore_nN (L' := [(2, .null), (0, .ref 0), (1, .int a1)]) dX6_thickest_8 (by decide) rfl) (mpp 9 rfl ?_)
  refine mp_a (a_aload_nN dX6_thickest_9 rfl) (mpp 10 rfl ?_)
  refine mp_t (s_ifnonnullN dX6_thickest_10) (mpp 13 rfl ?_)
  refine mp_a (a_sipush (v := -1001) dX6_thickest_13 rfl) (mpp 16 rfl ?_)
  exact mp_iret (⟨rfl, MOD.r⟩) dX6_thickest_16 (Or.inl rfl)

set_option maxRecDepth 100000 in
set_option maxHeartbeats 4000000 in
theorem xo_reflected (a1 : Int32)   : EvP 8 90 [.ref 0, .int a1] P0 (fun r P' => r = some (.int (-1001)) ∧ MOD P') := by
  refine EvP.of qm_90 (Nat.le_of_ble_eq_true rfl) rfl ?_
  show MEvP _ none q_90 0 [(0, .ref 0), (1, .int a1)] [] _ 0 0 _
  refine mp_a (a_aload_n dX6_reflected_0 rfl) (mpp 1 rfl ?_)
  refine mp_get (i := 10) (v := .ref 1) dX6_reflected_1 rfl p0_0 rfl (mpp 4 rfl ?_)
  refine mp_a (a_iload_n dX6_reflected_4 rfl) (mpp 5 rfl ?_)
  refine mp_callv (i := 94) (q' := q_9) (As := [.int a1]) (rest := []) dX6_reflected_5 rfl qm_9 (by decide) rfl p0_1 (by decide) (Nat.le_of_ble_eq_true rfl) rfl ⟨rfl, rfl⟩ ⟨Nat.le_of_ble_eq_true rfl, Nat.le_of_ble_eq_true rfl⟩ (EvP.mono (by decide) (x_pieceAt p0_1)) (fun r1 P1 g1 => mpp 8 rfl ?_)
  obtain ⟨rfl, rfl⟩ := g1
  show MEvP _ none q_90 8 [(0, .ref 0), (1, .int a1)] [.null] _ _ _ _
  refine mp_a (a_astore_nN (L' := [(2, .null), (0, .ref 0), (1, .int a1)]) dX6_reflected_8 (by decide) rfl) (mpp 9 rfl ?_)
  refine mp_a (a_aload_nN dX6_reflected_9 rfl) (mpp 10 rfl ?_)
  refine mp_t (s_ifnonnullN dX6_reflected_10) (mpp 13 rfl ?_)
  refine mp_a (a_sipush (v := -1001) dX6_reflected_13 rfl) (mpp 16 rfl ?_)
  exact mp_iret (⟨rfl, MOD.r⟩) dX6_reflected_16 (Or.inl rfl)

set_option maxRecDepth 100000 in
set_option maxHeartbeats 4000000 in
theorem xo_share   : EvP 8 115 [.ref 0] P0 (fun r P' => r = some (.int (-1004)) ∧ MOD P') := by
  refine EvP.of qm_115 (Nat.le_of_ble_eq_true rfl) rfl ?_
  show MEvP _ none q_115 0 [(0, .ref 0)] [] _ 0 0 _
  refine mp_a (a_aload_n dX6_share_0 rfl) (mpp 1 rfl ?_)
  refine mp_get (i := 10) (v := .ref 1) dX6_share_1 rfl p0_0 rfl (mpp 4 rfl ?_)
  refine mp_a (a_iconst (v := 1) dX6_share_4 rfl) (mpp 5 rfl ?_)
  refine mp_callv (i := 261) (q' := q_114) (As := [.int 1]) (rest := []) dX6_share_5 rfl qm_114 (by decide) rfl p0_1 (by decide) (Nat.le_of_ble_eq_true rfl) rfl ⟨rfl, rfl⟩ ⟨Nat.le_of_ble_eq_true rfl, Nat.le_of_ble_eq_true rfl⟩ (EvP.mono (by decide) (x_creasesOf p0_1)) (fun r1 P1 g1 => mpp 8 rfl ?_)
  obtain ⟨rfl, rfl⟩ := g1
  show MEvP _ none q_115 8 [(0, .ref 0)] [.int 0] _ _ _ _
  refine mp_a (a_aload_n dX6_share_8 rfl) (mpp 9 rfl ?_)
  refine mp_get (i := 10) (v := .ref 1) dX6_share_9 rfl p0_0 rfl (mpp 12 rfl ?_)
  refine mp_a (a_iconst (v := 2) dX6_share_12 rfl) (mpp 13 rfl ?_)
  refine mp_callv (i := 261) (q' := q_114) (As := [.int 2]) (rest := [.int 0]) dX6_share_13 rfl qm_114 (by decide) rfl p0_1 (by decide) (Nat.le_of_ble_eq_true rfl) rfl ⟨rfl, rfl⟩ ⟨Nat.le_of_ble_eq_true rfl, Nat.le_of_ble_eq_true rfl⟩ (EvP.mono (by decide) (x_creasesOf p0_1)) (fun r1 P1 g1 => mpp 16 rfl ?_)
  obtain ⟨rfl, rfl⟩ := g1
  show MEvP _ none q_115 16 [(0, .ref 0)] [.int 0, .int 0] _ _ _ _
  refine mp_t (s_iadd (v := 0) dX6_share_16 rfl) (mpp 17 rfl ?_)
  refine mp_a (a_istore_n (L' := [(1, .int 0), (0, .ref 0)]) dX6_share_17 (by decide) rfl) (mpp 18 rfl ?_)
  refine mp_a (a_iload_n dX6_share_18 rfl) (mpp 19 rfl ?_)
  refine mp_a (a_aload_n dX6_share_19 rfl) (mpp 20 rfl ?_)
  refine mp_get (i := 10) (v := .ref 1) dX6_share_20 rfl p0_0 rfl (mpp 23 rfl ?_)
  refine mp_a (a_iconst (v := 0) dX6_share_23 rfl) (mpp 24 rfl ?_)
  refine mp_callv (i := 261) (q' := q_114) (As := [.int 0]) (rest := [.int 0]) dX6_share_24 rfl qm_114 (by decide) rfl p0_1 (by decide) (Nat.le_of_ble_eq_true rfl) rfl ⟨rfl, rfl⟩ ⟨Nat.le_of_ble_eq_true rfl, Nat.le_of_ble_eq_true rfl⟩ (EvP.mono (by decide) (x_creasesOf p0_1)) (fun r1 P1 g1 => mpp 27 rfl ?_)
  obtain ⟨rfl, rfl⟩ := g1
  show MEvP _ none q_115 27 [(1, .int 0), (0, .ref 0)] [.int 0, .int 0] _ _ _ _
  refine mp_t (s_iadd (v := 0) dX6_share_27 rfl) (mpp 28 rfl ?_)
  refine mp_a (a_istore_n (L' := [(2, .int 0), (1, .int 0), (0, .ref 0)]) dX6_share_28 (by decide) rfl) (mpp 29 rfl ?_)
  refine mp_a (a_iload_n dX6_share_29 rfl) (mpp 30 rfl ?_)
  refine mp_Tf (t := 37) (j_if_gt dX6_share_30) (by decide) (by decide) (mpp 33 rfl ?_)
  refine mp_a (a_sipush (v := -1004) dX6_share_33 rfl) (mpp 36 rfl ?_)
  exact mp_iret (⟨rfl, MOD.r⟩) dX6_share_36 (Or.inl rfl)

set_option maxRecDepth 100000 in
set_option maxHeartbeats 4000000 in
theorem xo_undo   : EvP 8 117 [.ref 0] P0 (fun r P' => r = some (.int (-1004)) ∧ MOD P') := by
  refine EvP.of qm_117 (Nat.le_of_ble_eq_true rfl) rfl ?_
  show MEvP _ none q_117 0 [(0, .ref 0)] [] _ 0 0 _
  refine mp_a (a_aload_n dX6_undo_0 rfl) (mpp 1 rfl ?_)
  refine mp_get (i := 25) (v := .ref 79) dX6_undo_1 rfl p0_0 rfl (mpp 4 rfl ?_)
  refine mp_get (i := 264) (v := .int 0) dX6_undo_4 rfl p0_79 rfl (mpp 7 rfl ?_)
  refine mp_Tf (t := 14) (j_if_gt dX6_undo_7) (by decide) (by decide) (mpp 10 rfl ?_)
  refine mp_a (a_sipush (v := -1004) dX6_undo_10 rfl) (mpp 13 rfl ?_)
  exact mp_iret (⟨rfl, MOD.r⟩) dX6_undo_13 (Or.inl rfl)

set_option maxRecDepth 100000 in
set_option maxHeartbeats 4000000 in
theorem xo_restore   : EvP 8 120 [.ref 0] P0 (fun r P' => r = some (.int (-1004)) ∧ MOD P') := by
  refine EvP.of qm_120 (Nat.le_of_ble_eq_true rfl) rfl ?_
  show MEvP _ none q_120 0 [(0, .ref 0)] [] _ 0 0 _
  refine mp_a (a_aload_n dX6_restore_0 rfl) (mpp 1 rfl ?_)
  refine mp_get (i := 272) (v := .int 0) dX6_restore_1 rfl p0_0 rfl (mpp 4 rfl ?_)
  refine mp_Tf (t := 11) (j_if_ne dX6_restore_4) (by decide) (by decide) (mpp 7 rfl ?_)
  refine mp_a (a_sipush (v := -1004) dX6_restore_7 rfl) (mpp 10 rfl ?_)
  exact mp_iret (⟨rfl, MOD.r⟩) dX6_restore_10 (Or.inl rfl)
