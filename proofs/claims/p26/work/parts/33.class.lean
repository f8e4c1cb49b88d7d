/-! the class on typed pools: rows, pieces (written by a program) -/
theorem dX2_countOf_0 : decode cX2_countOf 0 = .ok (.iconst 0, 1) := by decide +kernel
theorem dX2_countOf_1 : decode cX2_countOf 1 = .ok (.istore_n 2, 1) := by decide +kernel
theorem dX2_countOf_2 : decode cX2_countOf 2 = .ok (.iconst 0, 1) := by decide +kernel
theorem dX2_countOf_3 : decode cX2_countOf 3 = .ok (.istore_n 3, 1) := by decide +kernel
theorem dX2_countOf_4 : decode cX2_countOf 4 = .ok (.iload_n 3, 1) := by decide +kernel
theorem dX2_countOf_5 : decode cX2_countOf 5 = .ok (.aload_n 0, 1) := by decide +kernel
theorem dX2_countOf_6 : decode cX2_countOf 6 = .ok (.invokevirtual 37, 3) := by decide +kernel
theorem dX2_countOf_9 : decode cX2_countOf 9 = .ok (.if_icmp .ge 24, 3) := by decide +kernel
theorem dX2_countOf_12 : decode cX2_countOf 12 = .ok (.aload_n 0, 1) := by decide +kernel
theorem dX2_countOf_13 : decode cX2_countOf 13 = .ok (.getfield 15, 3) := by decide +kernel
theorem dX2_countOf_16 : decode cX2_countOf 16 = .ok (.iload_n 3, 1) := by decide +kernel
theorem dX2_countOf_17 : decode cX2_countOf 17 = .ok (.invokestatic 48, 3) := by decide +kernel
theorem dX2_countOf_20 : decode cX2_countOf 20 = .ok (.iload_n 1, 1) := by decide +kernel
theorem dX2_countOf_21 : decode cX2_countOf 21 = .ok (.if_icmp .ne 6, 3) := by decide +kernel
theorem dX2_countOf_24 : decode cX2_countOf 24 = .ok (.iinc 2 1, 3) := by decide +kernel
theorem dX2_countOf_27 : decode cX2_countOf 27 = .ok (.iinc 3 1, 3) := by decide +kernel
theorem dX2_countOf_30 : decode cX2_countOf 30 = .ok (.goto (-26), 3) := by decide +kernel
theorem dX2_countOf_33 : decode cX2_countOf 33 = .ok (.iload_n 2, 1) := by decide +kernel
theorem dX2_countOf_34 : decode cX2_countOf 34 = .ok (.ireturn, 1) := by decide +kernel
theorem dX2_creaseCount_0 : decode cX2_creaseCount 0 = .ok (.aload_n 0, 1) := by decide +kernel
theorem dX2_creaseCount_1 : decode cX2_creaseCount 1 = .ok (.getfield 18, 3) := by decide +kernel
theorem dX2_creaseCount_4 : decode cX2_creaseCount 4 = .ok (.ifCond .ne 12, 3) := by decide +kernel
theorem dX2_creaseCount_7 : decode cX2_creaseCount 7 = .ok (.aload_n 0, 1) := by decide +kernel
theorem dX2_creaseCount_8 : decode cX2_creaseCount 8 = .ok (.getfield 26, 3) := by decide +kernel
theorem dX2_creaseCount_11 : decode cX2_creaseCount 11 = .ok (.iconst 1, 1) := by decide +kernel
theorem dX2_creaseCount_12 : decode cX2_creaseCount 12 = .ok (.isub, 1) := by decide +kernel
theorem dX2_creaseCount_13 : decode cX2_creaseCount 13 = .ok (.goto 7, 3) := by decide +kernel
theorem dX2_creaseCount_16 : decode cX2_creaseCount 16 = .ok (.aload_n 0, 1) := by decide +kernel
theorem dX2_creaseCount_17 : decode cX2_creaseCount 17 = .ok (.getfield 26, 3) := by decide +kernel
theorem dX2_creaseCount_20 : decode cX2_creaseCount 20 = .ok (.ireturn, 1) := by decide +kernel
theorem dX2_greatestSize_0 : decode cX2_greatestSize 0 = .ok (.iconst 0, 1) := by decide +kernel
theorem dX2_greatestSize_1 : decode cX2_greatestSize 1 = .ok (.istore_n 1, 1) := by decide +kernel
theorem dX2_greatestSize_2 : decode cX2_greatestSize 2 = .ok (.iconst 0, 1) := by decide +kernel
theorem dX2_greatestSize_3 : decode cX2_greatestSize 3 = .ok (.istore_n 2, 1) := by decide +kernel
theorem dX2_greatestSize_4 : decode cX2_greatestSize 4 = .ok (.iload_n 2, 1) := by decide +kernel
theorem dX2_greatestSize_5 : decode cX2_greatestSize 5 = .ok (.aload_n 0, 1) := by decide +kernel
theorem dX2_greatestSize_6 : decode cX2_greatestSize 6 = .ok (.getfield 26, 3) := by decide +kernel
theorem dX2_greatestSize_9 : decode cX2_greatestSize 9 = .ok (.if_icmp .ge 22, 3) := by decide +kernel
theorem dX2_greatestSize_12 : decode cX2_greatestSize 12 = .ok (.iload_n 1, 1) := by decide +kernel
theorem dX2_greatestSize_13 : decode cX2_greatestSize 13 = .ok (.aload_n 0, 1) := by decide +kernel
theorem dX2_greatestSize_14 : decode cX2_greatestSize 14 = .ok (.getfield 9, 3) := by decide +kernel
theorem dX2_greatestSize_17 : decode cX2_greatestSize 17 = .ok (.iload_n 2, 1) := by decide +kernel
theorem dX2_greatestSize_18 : decode cX2_greatestSize 18 = .ok (.invokestatic 48, 3) := by decide +kernel
theorem dX2_greatestSize_21 : decode cX2_greatestSize 21 = .ok (.invokestatic 65, 3) := by decide +kernel
theorem dX2_greatestSize_24 : decode cX2_greatestSize 24 = .ok (.istore_n 1, 1) := by decide +kernel
theorem dX2_greatestSize_25 : decode cX2_greatestSize 25 = .ok (.iinc 2 1, 3) := by decide +kernel
theorem dX2_greatestSize_28 : decode cX2_greatestSize 28 = .ok (.goto (-24), 3) := by decide +kernel
theorem dX2_greatestSize_31 : decode cX2_greatestSize 31 = .ok (.iload_n 1, 1) := by decide +kernel
theorem dX2_greatestSize_32 : decode cX2_greatestSize 32 = .ok (.ireturn, 1) := by decide +kernel
theorem dX2_hasCrease_0 : decode cX2_hasCrease 0 = .ok (.iload_n 1, 1) := by decide +kernel
theorem dX2_hasCrease_1 : decode cX2_hasCrease 1 = .ok (.ifCond .lt 15, 3) := by decide +kernel
theorem dX2_hasCrease_4 : decode cX2_hasCrease 4 = .ok (.iload_n 1, 1) := by decide +kernel
theorem dX2_hasCrease_5 : decode cX2_hasCrease 5 = .ok (.aload_n 0, 1) := by decide +kernel
theorem dX2_hasCrease_6 : decode cX2_hasCrease 6 = .ok (.invokevirtual 37, 3) := by decide +kernel
theorem dX2_hasCrease_9 : decode cX2_hasCrease 9 = .ok (.if_icmp .ge 7, 3) := by decide +kernel
theorem dX2_hasCrease_12 : decode cX2_hasCrease 12 = .ok (.iconst 1, 1) := by decide +kernel
theorem dX2_hasCrease_13 : decode cX2_hasCrease 13 = .ok (.goto 4, 3) := by decide +kernel
theorem dX2_hasCrease_16 : decode cX2_hasCrease 16 = .ok (.iconst 0, 1) := by decide +kernel
theorem dX2_hasCrease_17 : decode cX2_hasCrease 17 = .ok (.ireturn, 1) := by decide +kernel
theorem dX2_isUndecided_0 : decode cX2_isUndecided 0 = .ok (.aload_n 0, 1) := by decide +kernel
theorem dX2_isUndecided_1 : decode cX2_isUndecided 1 = .ok (.iconst 0, 1) := by decide +kernel
theorem dX2_isUndecided_2 : decode cX2_isUndecided 2 = .ok (.invokevirtual 52, 3) := by decide +kernel
theorem dX2_isUndecided_5 : decode cX2_isUndecided 5 = .ok (.ifCond .le 7, 3) := by decide +kernel
theorem dX2_isUndecided_8 : decode cX2_isUndecided 8 = .ok (.iconst 1, 1) := by decide +kernel
theorem dX2_isUndecided_9 : decode cX2_isUndecided 9 = .ok (.goto 4, 3) := by decide +kernel
theorem dX2_isUndecided_12 : decode cX2_isUndecided 12 = .ok (.iconst 0, 1) := by decide +kernel
theorem dX2_isUndecided_13 : decode cX2_isUndecided 13 = .ok (.ireturn, 1) := by decide +kernel
theorem dX2_lowestUndecided_0 : decode cX2_lowestUndecided 0 = .ok (.iconst 0, 1) := by decide +kernel
theorem dX2_lowestUndecided_1 : decode cX2_lowestUndecided 1 = .ok (.istore_n 1, 1) := by decide +kernel
theorem dX2_lowestUndecided_2 : decode cX2_lowestUndecided 2 = .ok (.iconst 0, 1) := by decide +kernel
theorem dX2_lowestUndecided_3 : decode cX2_lowestUndecided 3 = .ok (.istore_n 2, 1) := by decide +kernel
theorem dX2_lowestUndecided_4 : decode cX2_lowestUndecided 4 = .ok (.iload_n 2, 1) := by decide +kernel
theorem dX2_lowestUndecided_5 : decode cX2_lowestUndecided 5 = .ok (.aload_n 0, 1) := by decide +kernel
theorem dX2_lowestUndecided_6 : decode cX2_lowestUndecided 6 = .ok (.invokevirtual 37, 3) := by decide +kernel
theorem dX2_lowestUndecided_9 : decode cX2_lowestUndecided 9 = .ok (.if_icmp .ge 24, 3) := by decide +kernel
theorem dX2_lowestUndecided_12 : decode cX2_lowestUndecided 12 = .ok (.aload_n 0, 1) := by decide +kernel
theorem dX2_lowestUndecided_13 : decode cX2_lowestUndecided 13 = .ok (.getfield 15, 3) := by decide +kernel
theorem dX2_lowestUndecided_16 : decode cX2_lowestUndecided 16 = .ok (.iload_n 2, 1) := by decide +kernel
theorem dX2_lowestUndecided_17 : decode cX2_lowestUndecided 17 = .ok (.invokestatic 48, 3) := by decide +kernel
theorem dX2_lowestUndecided_20 : decode cX2_lowestUndecided 20 = .ok (.ifCond .eq 13, 3) := by decide +kernel
theorem dX2_lowestUndecided_23 : decode cX2_lowestUndecided 23 = .ok (.iload_n 2, 1) := by decide +kernel
theorem dX2_lowestUndecided_24 : decode cX2_lowestUndecided 24 = .ok (.iconst 1, 1) := by decide +kernel
theorem dX2_lowestUndecided_25 : decode cX2_lowestUndecided 25 = .ok (.iadd, 1) := by decide +kernel
theorem dX2_lowestUndecided_26 : decode cX2_lowestUndecided 26 = .ok (.istore_n 1, 1) := by decide +kernel
theorem dX2_lowestUndecided_27 : decode cX2_lowestUndecided 27 = .ok (.iinc 2 1, 3) := by decide +kernel
theorem dX2_lowestUndecided_30 : decode cX2_lowestUndecided 30 = .ok (.goto (-26), 3) := by decide +kernel
theorem dX2_lowestUndecided_33 : decode cX2_lowestUndecided 33 = .ok (.iload_n 1, 1) := by decide +kernel
theorem dX2_lowestUndecided_34 : decode cX2_lowestUndecided 34 = .ok (.ireturn, 1) := by decide +kernel
theorem dX2_sizesAsNumber_0 : decode cX2_sizesAsNumber 0 = .ok (.iconst 0, 1) := by decide +kernel
theorem dX2_sizesAsNumber_1 : decode cX2_sizesAsNumber 1 = .ok (.istore_n 1, 1) := by decide +kernel
theorem dX2_sizesAsNumber_2 : decode cX2_sizesAsNumber 2 = .ok (.iconst 0, 1) := by decide +kernel
theorem dX2_sizesAsNumber_3 : decode cX2_sizesAsNumber 3 = .ok (.istore_n 2, 1) := by decide +kernel
theorem dX2_sizesAsNumber_4 : decode cX2_sizesAsNumber 4 = .ok (.iload_n 2, 1) := by decide +kernel
theorem dX2_sizesAsNumber_5 : decode cX2_sizesAsNumber 5 = .ok (.aload_n 0, 1) := by decide +kernel
theorem dX2_sizesAsNumber_6 : decode cX2_sizesAsNumber 6 = .ok (.getfield 26, 3) := by decide +kernel
theorem dX2_sizesAsNumber_9 : decode cX2_sizesAsNumber 9 = .ok (.if_icmp .ge 23, 3) := by decide +kernel
theorem dX2_sizesAsNumber_12 : decode cX2_sizesAsNumber 12 = .ok (.iload_n 1, 1) := by decide +kernel
theorem dX2_sizesAsNumber_13 : decode cX2_sizesAsNumber 13 = .ok (.bipush 10, 2) := by decide +kernel
theorem dX2_sizesAsNumber_15 : decode cX2_sizesAsNumber 15 = .ok (.imul, 1) := by decide +kernel
theorem dX2_sizesAsNumber_16 : decode cX2_sizesAsNumber 16 = .ok (.aload_n 0, 1) := by decide +kernel
theorem dX2_sizesAsNumber_17 : decode cX2_sizesAsNumber 17 = .ok (.getfield 9, 3) := by decide +kernel
theorem dX2_sizesAsNumber_20 : decode cX2_sizesAsNumber 20 = .ok (.iload_n 2, 1) := by decide +kernel
theorem dX2_sizesAsNumber_21 : decode cX2_sizesAsNumber 21 = .ok (.invokestatic 48, 3) := by decide +kernel
theorem dX2_sizesAsNumber_24 : decode cX2_sizesAsNumber 24 = .ok (.iadd, 1) := by decide +kernel
theorem dX2_sizesAsNumber_25 : decode cX2_sizesAsNumber 25 = .ok (.istore_n 1, 1) := by decide +kernel
theorem dX2_sizesAsNumber_26 : decode cX2_sizesAsNumber 26 = .ok (.iinc 2 1, 3) := by decide +kernel
theorem dX2_sizesAsNumber_29 : decode cX2_sizesAsNumber 29 = .ok (.goto (-25), 3) := by decide +kernel
theorem dX2_sizesAsNumber_32 : decode cX2_sizesAsNumber 32 = .ok (.iload_n 1, 1) := by decide +kernel
theorem dX2_sizesAsNumber_33 : decode cX2_sizesAsNumber 33 = .ok (.ireturn, 1) := by decide +kernel
theorem dX2_sum_0 : decode cX2_sum 0 = .ok (.iconst 0, 1) := by decide +kernel
theorem dX2_sum_1 : decode cX2_sum 1 = .ok (.istore_n 1, 1) := by decide +kernel
theorem dX2_sum_2 : decode cX2_sum 2 = .ok (.iconst 0, 1) := by decide +kernel
theorem dX2_sum_3 : decode cX2_sum 3 = .ok (.istore_n 2, 1) := by decide +kernel
theorem dX2_sum_4 : decode cX2_sum 4 = .ok (.iload_n 2, 1) := by decide +kernel
theorem dX2_sum_5 : decode cX2_sum 5 = .ok (.aload_n 0, 1) := by decide +kernel
theorem dX2_sum_6 : decode cX2_sum 6 = .ok (.getfield 26, 3) := by decide +kernel
theorem dX2_sum_9 : decode cX2_sum 9 = .ok (.if_icmp .ge 20, 3) := by decide +kernel
theorem dX2_sum_12 : decode cX2_sum 12 = .ok (.iload_n 1, 1) := by decide +kernel
theorem dX2_sum_13 : decode cX2_sum 13 = .ok (.aload_n 0, 1) := by decide +kernel
theorem dX2_sum_14 : decode cX2_sum 14 = .ok (.getfield 9, 3) := by decide +kernel
theorem dX2_sum_17 : decode cX2_sum 17 = .ok (.iload_n 2, 1) := by decide +kernel
theorem dX2_sum_18 : decode cX2_sum 18 = .ok (.invokestatic 48, 3) := by decide +kernel
theorem dX2_sum_21 : decode cX2_sum 21 = .ok (.iadd, 1) := by decide +kernel
theorem dX2_sum_22 : decode cX2_sum 22 = .ok (.istore_n 1, 1) := by decide +kernel
theorem dX2_sum_23 : decode cX2_sum 23 = .ok (.iinc 2 1, 3) := by decide +kernel
theorem dX2_sum_26 : decode cX2_sum 26 = .ok (.goto (-22), 3) := by decide +kernel
theorem dX2_sum_29 : decode cX2_sum 29 = .ok (.iload_n 1, 1) := by decide +kernel
theorem dX2_sum_30 : decode cX2_sum 30 = .ok (.ireturn, 1) := by decide +kernel
theorem dX2_turnOver_0 : decode cX2_turnOver 0 = .ok (.iconst 0, 1) := by decide +kernel
theorem dX2_turnOver_1 : decode cX2_turnOver 1 = .ok (.istore_n 1, 1) := by decide +kernel
theorem dX2_turnOver_2 : decode cX2_turnOver 2 = .ok (.iload_n 1, 1) := by decide +kernel
theorem dX2_turnOver_3 : decode cX2_turnOver 3 = .ok (.aload_n 0, 1) := by decide +kernel
theorem dX2_turnOver_4 : decode cX2_turnOver 4 = .ok (.invokevirtual 37, 3) := by decide +kernel
theorem dX2_turnOver_7 : decode cX2_turnOver 7 = .ok (.if_icmp .ge 40, 3) := by decide +kernel
theorem dX2_turnOver_10 : decode cX2_turnOver 10 = .ok (.aload_n 0, 1) := by decide +kernel
theorem dX2_turnOver_11 : decode cX2_turnOver 11 = .ok (.getfield 15, 3) := by decide +kernel
theorem dX2_turnOver_14 : decode cX2_turnOver 14 = .ok (.iload_n 1, 1) := by decide +kernel
theorem dX2_turnOver_15 : decode cX2_turnOver 15 = .ok (.invokestatic 48, 3) := by decide +kernel
theorem dX2_turnOver_18 : decode cX2_turnOver 18 = .ok (.istore_n 2, 1) := by decide +kernel
theorem dX2_turnOver_19 : decode cX2_turnOver 19 = .ok (.iload_n 2, 1) := by decide +kernel
theorem dX2_turnOver_20 : decode cX2_turnOver 20 = .ok (.ifCond .eq 21, 3) := by decide +kernel
theorem dX2_turnOver_23 : decode cX2_turnOver 23 = .ok (.aload_n 0, 1) := by decide +kernel
theorem dX2_turnOver_24 : decode cX2_turnOver 24 = .ok (.getfield 15, 3) := by decide +kernel
theorem dX2_turnOver_27 : decode cX2_turnOver 27 = .ok (.iload_n 1, 1) := by decide +kernel
theorem dX2_turnOver_28 : decode cX2_turnOver 28 = .ok (.iload_n 2, 1) := by decide +kernel
theorem dX2_turnOver_29 : decode cX2_turnOver 29 = .ok (.iconst 1, 1) := by decide +kernel
theorem dX2_turnOver_30 : decode cX2_turnOver 30 = .ok (.if_icmp .ne 7, 3) := by decide +kernel
theorem dX2_turnOver_33 : decode cX2_turnOver 33 = .ok (.iconst 2, 1) := by decide +kernel
theorem dX2_turnOver_34 : decode cX2_turnOver 34 = .ok (.goto 4, 3) := by decide +kernel
theorem dX2_turnOver_37 : decode cX2_turnOver 37 = .ok (.iconst 1, 1) := by decide +kernel
theorem dX2_turnOver_38 : decode cX2_turnOver 38 = .ok (.invokestatic 29, 3) := by decide +kernel
theorem dX2_turnOver_41 : decode cX2_turnOver 41 = .ok (.iinc 1 1, 3) := by decide +kernel
theorem dX2_turnOver_44 : decode cX2_turnOver 44 = .ok (.goto (-42), 3) := by decide +kernel
theorem dX2_turnOver_47 : decode cX2_turnOver 47 = .ok (.return_, 1) := by decide +kernel
theorem dX6_at_0 : decode cX6_at 0 = .ok (.iload_n 1, 1) := by decide +kernel
theorem dX6_at_1 : decode cX6_at 1 = .ok (.ifCond .lt 15, 3) := by decide +kernel
theorem dX6_at_4 : decode cX6_at 4 = .ok (.iload_n 1, 1) := by decide +kernel
theorem dX6_at_5 : decode cX6_at 5 = .ok (.aload_n 0, 1) := by decide +kernel
theorem dX6_at_6 : decode cX6_at 6 = .ok (.arraylength, 1) := by decide +kernel
theorem dX6_at_7 : decode cX6_at 7 = .ok (.if_icmp .ge 9, 3) := by decide +kernel
theorem dX6_at_10 : decode cX6_at 10 = .ok (.aload_n 0, 1) := by decide +kernel
theorem dX6_at_11 : decode cX6_at 11 = .ok (.iload_n 1, 1) := by decide +kernel
theorem dX6_at_12 : decode cX6_at 12 = .ok (.iaload, 1) := by decide +kernel
theorem dX6_at_13 : decode cX6_at 13 = .ok (.goto 4, 3) := by decide +kernel
theorem dX6_at_16 : decode cX6_at 16 = .ok (.iconst 0, 1) := by decide +kernel
theorem dX6_at_17 : decode cX6_at 17 = .ok (.ireturn, 1) := by decide +kernel
theorem dX6_copyRow_0 : decode cX6_copyRow 0 = .ok (.iconst 0, 1) := by decide +kernel
theorem dX6_copyRow_1 : decode cX6_copyRow 1 = .ok (.istore_n 2, 1) := by decide +kernel
theorem dX6_copyRow_2 : decode cX6_copyRow 2 = .ok (.iload_n 2, 1) := by decide +kernel
theorem dX6_copyRow_3 : decode cX6_copyRow 3 = .ok (.aload_n 0, 1) := by decide +kernel
theorem dX6_copyRow_4 : decode cX6_copyRow 4 = .ok (.arraylength, 1) := by decide +kernel
theorem dX6_copyRow_5 : decode cX6_copyRow 5 = .ok (.if_icmp .ge 21, 3) := by decide +kernel
theorem dX6_copyRow_8 : decode cX6_copyRow 8 = .ok (.iload_n 2, 1) := by decide +kernel
theorem dX6_copyRow_9 : decode cX6_copyRow 9 = .ok (.aload_n 1, 1) := by decide +kernel
theorem dX6_copyRow_10 : decode cX6_copyRow 10 = .ok (.arraylength, 1) := by decide +kernel
theorem dX6_copyRow_11 : decode cX6_copyRow 11 = .ok (.if_icmp .ge 15, 3) := by decide +kernel
theorem dX6_copyRow_14 : decode cX6_copyRow 14 = .ok (.aload_n 1, 1) := by decide +kernel
theorem dX6_copyRow_15 : decode cX6_copyRow 15 = .ok (.iload_n 2, 1) := by decide +kernel
theorem dX6_copyRow_16 : decode cX6_copyRow 16 = .ok (.aload_n 0, 1) := by decide +kernel
theorem dX6_copyRow_17 : decode cX6_copyRow 17 = .ok (.iload_n 2, 1) := by decide +kernel
theorem dX6_copyRow_18 : decode cX6_copyRow 18 = .ok (.iaload, 1) := by decide +kernel
theorem dX6_copyRow_19 : decode cX6_copyRow 19 = .ok (.iastore, 1) := by decide +kernel
theorem dX6_copyRow_20 : decode cX6_copyRow 20 = .ok (.iinc 2 1, 3) := by decide +kernel
theorem dX6_copyRow_23 : decode cX6_copyRow 23 = .ok (.goto (-21), 3) := by decide +kernel
theorem dX6_copyRow_26 : decode cX6_copyRow 26 = .ok (.return_, 1) := by decide +kernel
theorem dX6_put_0 : decode cX6_put 0 = .ok (.iload_n 1, 1) := by decide +kernel
theorem dX6_put_1 : decode cX6_put 1 = .ok (.ifCond .lt 13, 3) := by decide +kernel
theorem dX6_put_4 : decode cX6_put 4 = .ok (.iload_n 1, 1) := by decide +kernel
theorem dX6_put_5 : decode cX6_put 5 = .ok (.aload_n 0, 1) := by decide +kernel
theorem dX6_put_6 : decode cX6_put 6 = .ok (.arraylength, 1) := by decide +kernel
theorem dX6_put_7 : decode cX6_put 7 = .ok (.if_icmp .ge 7, 3) := by decide +kernel
theorem dX6_put_10 : decode cX6_put 10 = .ok (.aload_n 0, 1) := by decide +kernel
theorem dX6_put_11 : decode cX6_put 11 = .ok (.iload_n 1, 1) := by decide +kernel
theorem dX6_put_12 : decode cX6_put 12 = .ok (.iload_n 2, 1) := by decide +kernel
theorem dX6_put_13 : decode cX6_put 13 = .ok (.iastore, 1) := by decide +kernel
theorem dX6_put_14 : decode cX6_put 14 = .ok (.return_, 1) := by decide +kernel
def q_11 : mQ := (yX2_greatestSize, cX2_greatestSize, 3, (some FieldType.int), 0, 2, 0, 0)
theorem qm_11 : mtL[11]? = some q_11 := rfl
def q_12 : mQ := (yX6_at, cX6_at, 2, (some FieldType.int), 2, 6, 0, 0)
theorem qm_12 : mtL[12]? = some q_12 := rfl
def q_19 : mQ := (yX6_copyRow, cX6_copyRow, 3, none, 2, 6, 0, 0)
theorem qm_19 : mtL[19]? = some q_19 := rfl
def q_22 : mQ := (yX6_put, cX6_put, 3, none, 3, 6, 0, 0)
theorem qm_22 : mtL[22]? = some q_22 := rfl
def q_23 : mQ := (yX2_sum, cX2_sum, 3, (some FieldType.int), 0, 2, 0, 0)
theorem qm_23 : mtL[23]? = some q_23 := rfl
def q_25 : mQ := (yX2_creaseCount, cX2_creaseCount, 1, (some FieldType.int), 0, 2, 0, 0)
theorem qm_25 : mtL[25]? = some q_25 := rfl
def q_29 : mQ := (yX2_hasCrease, cX2_hasCrease, 2, (some FieldType.boolean), 1, 2, 0, 0)
theorem qm_29 : mtL[29]? = some q_29 := rfl
def q_31 : mQ := (yX2_turnOver, cX2_turnOver, 3, none, 0, 2, 0, 0)
theorem qm_31 : mtL[31]? = some q_31 := rfl
def q_32 : mQ := (yX2_countOf, cX2_countOf, 4, (some FieldType.int), 1, 2, 0, 0)
theorem qm_32 : mtL[32]? = some q_32 := rfl
def q_35 : mQ := (yX2_sizesAsNumber, cX2_sizesAsNumber, 3, (some FieldType.int), 0, 2, 0, 0)
theorem qm_35 : mtL[35]? = some q_35 := rfl
def q_42 : mQ := (yX2_isUndecided, cX2_isUndecided, 1, (some FieldType.boolean), 0, 2, 0, 0)
theorem qm_42 : mtL[42]? = some q_42 := rfl
def q_43 : mQ := (yX2_lowestUndecided, cX2_lowestUndecided, 3, (some FieldType.int), 0, 2, 0, 0)
theorem qm_43 : mtL[43]? = some q_43 := rfl
set_option maxHeartbeats 4000000 in
theorem c_at_sizes {P : mP} {a : Nat} {i : Int32} (hT : Typ P) (ha : rl a = 4) : EvP 1 12 [.ref a, .int i] P (fun r P' => (∃ x : Int32, r = some (.int x) ∧ (-2147483648 : Int) ≤ x.toInt ∧ x.toInt ≤ 2147483647) ∧ P' = P) := by
  refine EvP.of qm_12 (Nat.le_of_ble_eq_true rfl) rfl ?_
  show MEvP _ none q_12 0 [(0, .ref a), (1, .int i)] [] _ 0 0 _
  refine mp_a (a_iload_n dX6_at_0 rfl) (mpp 1 rfl ?_)
  refine mp_Tb (t := 16) (j_if_lt dX6_at_1) (by decide) (fun c1 => ?_) (fun c1 => mpp 4 rfl ?_)
  · have c1 : i.toInt < 0 := ti_lt c1
    refine mp_a (a_iconst (v := 0) dX6_at_16 rfl) (mpp 17 rfl ?_)
    exact mp_iret (⟨⟨_, rfl, (ti_full _).1, (ti_full _).2⟩, rfl⟩) dX6_at_17 (Or.inl rfl)
  · have c1 : i.toInt ≥ 0 := ti_lt_n c1
    refine mp_a (a_iload_n dX6_at_4 rfl) (mpp 5 rfl ?_)
    refine mp_a (a_aload_n dX6_at_5 rfl) (mpp 6 rfl ?_)
    refine mt_len (n := 8) hT dX6_at_6 ha (by decide) (by decide) rfl (mpp 7 rfl ?_)
    refine mp_Tb (t := 16) (j_icmp_ge dX6_at_7) (by decide) (fun c2 => ?_) (fun c2 => mpp 10 rfl ?_)
    · have c2 : i.toInt ≥ 8 := ti_ge c2
      refine mp_a (a_iconst (v := 0) dX6_at_16 rfl) (mpp 17 rfl ?_)
      exact mp_iret (⟨⟨_, rfl, (ti_full _).1, (ti_full _).2⟩, rfl⟩) dX6_at_17 (Or.inl rfl)
    · have c2 : i.toInt < 8 := ti_ge_n c2
      refine mp_a (a_aload_n dX6_at_10 rfl) (mpp 11 rfl ?_)
      refine mp_a (a_iload_n dX6_at_11 rfl) (mpp 12 rfl ?_)
      refine mt_ial (n := 8) hT dX6_at_12 ha (by decide) rfl rfl (by omega) (by omega) rfl (fun g3 g4 => mpp 13 rfl ?_)
      refine mp_a (a_goto (t := 17) dX6_at_13 (by decide)) ?_
      exact mp_iret (⟨⟨_, rfl, (ti_full _).1, (ti_full _).2⟩, rfl⟩) dX6_at_17 (Or.inl rfl)

set_option maxHeartbeats 4000000 in
theorem c_put_sizes {P : mP} {a : Nat} {i x : Int32} (hT : Typ P) (ha : rl a = 4) : EvP 1 22 [.ref a, .int i, .int x] P (fun r P' => r = none ∧ Typ P' ∧ KX P P') := by
  refine EvP.of qm_22 (Nat.le_of_ble_eq_true rfl) rfl ?_
  show MEvP _ none q_22 0 [(0, .ref a), (1, .int i), (2, .int x)] [] _ 0 0 _
  refine mp_a (a_iload_n dX6_put_0 rfl) (mpp 1 rfl ?_)
  refine mp_Tb (t := 14) (j_if_lt dX6_put_1) (by decide) (fun c1 => ?_) (fun c1 => mpp 4 rfl ?_)
  · have c1 : i.toInt < 0 := ti_lt c1
    exact mp_ret (⟨rfl, hT, (KX.refl P)⟩) dX6_put_14 rfl
  · have c1 : i.toInt ≥ 0 := ti_lt_n c1
    refine mp_a (a_iload_n dX6_put_4 rfl) (mpp 5 rfl ?_)
    refine mp_a (a_aload_n dX6_put_5 rfl) (mpp 6 rfl ?_)
    refine mt_len (n := 8) hT dX6_put_6 ha (by decide) (by decide) rfl (mpp 7 rfl ?_)
    refine mp_Tb (t := 14) (j_icmp_ge dX6_put_7) (by decide) (fun c2 => ?_) (fun c2 => mpp 10 rfl ?_)
    · have c2 : i.toInt ≥ 8 := ti_ge c2
      exact mp_ret (⟨rfl, hT, (KX.refl P)⟩) dX6_put_14 rfl
    · have c2 : i.toInt < 8 := ti_ge_n c2
      refine mp_a (a_aload_n dX6_put_10 rfl) (mpp 11 rfl ?_)
      refine mp_a (a_iload_n dX6_put_11 rfl) (mpp 12 rfl ?_)
      refine mp_a (a_iload_n dX6_put_12 rfl) (mpp 13 rfl ?_)
      refine mt_ias (n := 8) hT dX6_put_13 ha (by decide) rfl rfl (by omega) (by omega) rfl (ti_full x) (fun P3 hT4 f5 f6 => mpp 14 rfl ?_)
      have k7 := KX.step (KX.refl P) ha (by decide) f6
      exact mp_ret (⟨rfl, hT4, k7⟩) dX6_put_14 rfl

set_option maxHeartbeats 4000000 in
theorem c_at_creases {P : mP} {a : Nat} {i : Int32} (hT : Typ P) (ha : rl a = 5) : EvP 1 12 [.ref a, .int i] P (fun r P' => (∃ x : Int32, r = some (.int x) ∧ (-2147483648 : Int) ≤ x.toInt ∧ x.toInt ≤ 2147483647) ∧ P' = P) := by
  refine EvP.of qm_12 (Nat.le_of_ble_eq_true rfl) rfl ?_
  show MEvP _ none q_12 0 [(0, .ref a), (1, .int i)] [] _ 0 0 _
  refine mp_a (a_iload_n dX6_at_0 rfl) (mpp 1 rfl ?_)
  refine mp_Tb (t := 16) (j_if_lt dX6_at_1) (by decide) (fun c1 => ?_) (fun c1 => mpp 4 rfl ?_)
  · have c1 : i.toInt < 0 := ti_lt c1
    refine mp_a (a_iconst (v := 0) dX6_at_16 rfl) (mpp 17 rfl ?_)
    exact mp_iret (⟨⟨_, rfl, (ti_full _).1, (ti_full _).2⟩, rfl⟩) dX6_at_17 (Or.inl rfl)
  · have c1 : i.toInt ≥ 0 := ti_lt_n c1
    refine mp_a (a_iload_n dX6_at_4 rfl) (mpp 5 rfl ?_)
    refine mp_a (a_aload_n dX6_at_5 rfl) (mpp 6 rfl ?_)
    refine mt_len (n := 8) hT dX6_at_6 ha (by decide) (by decide) rfl (mpp 7 rfl ?_)
    refine mp_Tb (t := 16) (j_icmp_ge dX6_at_7) (by decide) (fun c2 => ?_) (fun c2 => mpp 10 rfl ?_)
    · have c2 : i.toInt ≥ 8 := ti_ge c2
      refine mp_a (a_iconst (v := 0) dX6_at_16 rfl) (mpp 17 rfl ?_)
      exact mp_iret (⟨⟨_, rfl, (ti_full _).1, (ti_full _).2⟩, rfl⟩) dX6_at_17 (Or.inl rfl)
    · have c2 : i.toInt < 8 := ti_ge_n c2
      refine mp_a (a_aload_n dX6_at_10 rfl) (mpp 11 rfl ?_)
      refine mp_a (a_iload_n dX6_at_11 rfl) (mpp 12 rfl ?_)
      refine mt_ial (n := 8) hT dX6_at_12 ha (by decide) rfl rfl (by omega) (by omega) rfl (fun g3 g4 => mpp 13 rfl ?_)
      refine mp_a (a_goto (t := 17) dX6_at_13 (by decide)) ?_
      exact mp_iret (⟨⟨_, rfl, (ti_full _).1, (ti_full _).2⟩, rfl⟩) dX6_at_17 (Or.inl rfl)

set_option maxHeartbeats 4000000 in
theorem c_put_creases {P : mP} {a : Nat} {i x : Int32} (hT : Typ P) (ha : rl a = 5) : EvP 1 22 [.ref a, .int i, .int x] P (fun r P' => r = none ∧ Typ P' ∧ KX P P') := by
  refine EvP.of qm_22 (Nat.le_of_ble_eq_true rfl) rfl ?_
  show MEvP _ none q_22 0 [(0, .ref a), (1, .int i), (2, .int x)] [] _ 0 0 _
  refine mp_a (a_iload_n dX6_put_0 rfl) (mpp 1 rfl ?_)
  refine mp_Tb (t := 14) (j_if_lt dX6_put_1) (by decide) (fun c1 => ?_) (fun c1 => mpp 4 rfl ?_)
  · have c1 : i.toInt < 0 := ti_lt c1
    exact mp_ret (⟨rfl, hT, (KX.refl P)⟩) dX6_put_14 rfl
  · have c1 : i.toInt ≥ 0 := ti_lt_n c1
    refine mp_a (a_iload_n dX6_put_4 rfl) (mpp 5 rfl ?_)
    refine mp_a (a_aload_n dX6_put_5 rfl) (mpp 6 rfl ?_)
    refine mt_len (n := 8) hT dX6_put_6 ha (by decide) (by decide) rfl (mpp 7 rfl ?_)
    refine mp_Tb (t := 14) (j_icmp_ge dX6_put_7) (by decide) (fun c2 => ?_) (fun c2 => mpp 10 rfl ?_)
    · have c2 : i.toInt ≥ 8 := ti_ge c2
      exact mp_ret (⟨rfl, hT, (KX.refl P)⟩) dX6_put_14 rfl
    · have c2 : i.toInt < 8 := ti_ge_n c2
      refine mp_a (a_aload_n dX6_put_10 rfl) (mpp 11 rfl ?_)
      refine mp_a (a_iload_n dX6_put_11 rfl) (mpp 12 rfl ?_)
      refine mp_a (a_iload_n dX6_put_12 rfl) (mpp 13 rfl ?_)
      refine mt_ias (n := 8) hT dX6_put_13 ha (by decide) rfl rfl (by omega) (by omega) rfl (ti_full x) (fun P3 hT4 f5 f6 => mpp 14 rfl ?_)
      have k7 := KX.step (KX.refl P) ha (by decide) f6
      exact mp_ret (⟨rfl, hT4, k7⟩) dX6_put_14 rfl

set_option maxHeartbeats 4000000 in
theorem c_at_codes {P : mP} {a : Nat} {i : Int32} (hT : Typ P) (ha : rl a = 9) : EvP 1 12 [.ref a, .int i] P (fun r P' => (∃ x : Int32, r = some (.int x) ∧ (-2147483648 : Int) ≤ x.toInt ∧ x.toInt ≤ 2147483647) ∧ P' = P) := by
  refine EvP.of qm_12 (Nat.le_of_ble_eq_true rfl) rfl ?_
  show MEvP _ none q_12 0 [(0, .ref a), (1, .int i)] [] _ 0 0 _
  refine mp_a (a_iload_n dX6_at_0 rfl) (mpp 1 rfl ?_)
  refine mp_Tb (t := 16) (j_if_lt dX6_at_1) (by decide) (fun c1 => ?_) (fun c1 => mpp 4 rfl ?_)
  · have c1 : i.toInt < 0 := ti_lt c1
    refine mp_a (a_iconst (v := 0) dX6_at_16 rfl) (mpp 17 rfl ?_)
    exact mp_iret (⟨⟨_, rfl, (ti_full _).1, (ti_full _).2⟩, rfl⟩) dX6_at_17 (Or.inl rfl)
  · have c1 : i.toInt ≥ 0 := ti_lt_n c1
    refine mp_a (a_iload_n dX6_at_4 rfl) (mpp 5 rfl ?_)
    refine mp_a (a_aload_n dX6_at_5 rfl) (mpp 6 rfl ?_)
    refine mt_len (n := 80) hT dX6_at_6 ha (by decide) (by decide) rfl (mpp 7 rfl ?_)
    refine mp_Tb (t := 16) (j_icmp_ge dX6_at_7) (by decide) (fun c2 => ?_) (fun c2 => mpp 10 rfl ?_)
    · have c2 : i.toInt ≥ 80 := ti_ge c2
      refine mp_a (a_iconst (v := 0) dX6_at_16 rfl) (mpp 17 rfl ?_)
      exact mp_iret (⟨⟨_, rfl, (ti_full _).1, (ti_full _).2⟩, rfl⟩) dX6_at_17 (Or.inl rfl)
    · have c2 : i.toInt < 80 := ti_ge_n c2
      refine mp_a (a_aload_n dX6_at_10 rfl) (mpp 11 rfl ?_)
      refine mp_a (a_iload_n dX6_at_11 rfl) (mpp 12 rfl ?_)
      refine mt_ial (n := 80) hT dX6_at_12 ha (by decide) rfl rfl (by omega) (by omega) rfl (fun g3 g4 => mpp 13 rfl ?_)
      refine mp_a (a_goto (t := 17) dX6_at_13 (by decide)) ?_
      exact mp_iret (⟨⟨_, rfl, (ti_full _).1, (ti_full _).2⟩, rfl⟩) dX6_at_17 (Or.inl rfl)

set_option maxHeartbeats 4000000 in
theorem c_put_codes {P : mP} {a : Nat} {i x : Int32} (hT : Typ P) (ha : rl a = 9) : EvP 1 22 [.ref a, .int i, .int x] P (fun r P' => r = none ∧ Typ P' ∧ KX P P') := by
  refine EvP.of qm_22 (Nat.le_of_ble_eq_true rfl) rfl ?_
  show MEvP _ none q_22 0 [(0, .ref a), (1, .int i), (2, .int x)] [] _ 0 0 _
  refine mp_a (a_iload_n dX6_put_0 rfl) (mpp 1 rfl ?_)
  refine mp_Tb (t := 14) (j_if_lt dX6_put_1) (by decide) (fun c1 => ?_) (fun c1 => mpp 4 rfl ?_)
  · have c1 : i.toInt < 0 := ti_lt c1
    exact mp_ret (⟨rfl, hT, (KX.refl P)⟩) dX6_put_14 rfl
  · have c1 : i.toInt ≥ 0 := ti_lt_n c1
    refine mp_a (a_iload_n dX6_put_4 rfl) (mpp 5 rfl ?_)
    refine mp_a (a_aload_n dX6_put_5 rfl) (mpp 6 rfl ?_)
    refine mt_len (n := 80) hT dX6_put_6 ha (by decide) (by decide) rfl (mpp 7 rfl ?_)
    refine mp_Tb (t := 14) (j_icmp_ge dX6_put_7) (by decide) (fun c2 => ?_) (fun c2 => mpp 10 rfl ?_)
    · have c2 : i.toInt ≥ 80 := ti_ge c2
      exact mp_ret (⟨rfl, hT, (KX.refl P)⟩) dX6_put_14 rfl
    · have c2 : i.toInt < 80 := ti_ge_n c2
      refine mp_a (a_aload_n dX6_put_10 rfl) (mpp 11 rfl ?_)
      refine mp_a (a_iload_n dX6_put_11 rfl) (mpp 12 rfl ?_)
      refine mp_a (a_iload_n dX6_put_12 rfl) (mpp 13 rfl ?_)
      refine mt_ias (n := 80) hT dX6_put_13 ha (by decide) rfl rfl (by omega) (by omega) rfl (ti_full x) (fun P3 hT4 f5 f6 => mpp 14 rfl ?_)
      have k7 := KX.step (KX.refl P) ha (by decide) f6
      exact mp_ret (⟨rfl, hT4, k7⟩) dX6_put_14 rfl

set_option maxHeartbeats 4000000 in
theorem c_at_rsizes {P : mP} {a : Nat} {i : Int32} (hT : Typ P) (ha : rl a = 11) : EvP 1 12 [.ref a, .int i] P (fun r P' => (∃ x : Int32, r = some (.int x) ∧ (-2147483648 : Int) ≤ x.toInt ∧ x.toInt ≤ 2147483647) ∧ P' = P) := by
  refine EvP.of qm_12 (Nat.le_of_ble_eq_true rfl) rfl ?_
  show MEvP _ none q_12 0 [(0, .ref a), (1, .int i)] [] _ 0 0 _
  refine mp_a (a_iload_n dX6_at_0 rfl) (mpp 1 rfl ?_)
  refine mp_Tb (t := 16) (j_if_lt dX6_at_1) (by decide) (fun c1 => ?_) (fun c1 => mpp 4 rfl ?_)
  · have c1 : i.toInt < 0 := ti_lt c1
    refine mp_a (a_iconst (v := 0) dX6_at_16 rfl) (mpp 17 rfl ?_)
    exact mp_iret (⟨⟨_, rfl, (ti_full _).1, (ti_full _).2⟩, rfl⟩) dX6_at_17 (Or.inl rfl)
  · have c1 : i.toInt ≥ 0 := ti_lt_n c1
    refine mp_a (a_iload_n dX6_at_4 rfl) (mpp 5 rfl ?_)
    refine mp_a (a_aload_n dX6_at_5 rfl) (mpp 6 rfl ?_)
    refine mt_len (n := 8) hT dX6_at_6 ha (by decide) (by decide) rfl (mpp 7 rfl ?_)
    refine mp_Tb (t := 16) (j_icmp_ge dX6_at_7) (by decide) (fun c2 => ?_) (fun c2 => mpp 10 rfl ?_)
    · have c2 : i.toInt ≥ 8 := ti_ge c2
      refine mp_a (a_iconst (v := 0) dX6_at_16 rfl) (mpp 17 rfl ?_)
      exact mp_iret (⟨⟨_, rfl, (ti_full _).1, (ti_full _).2⟩, rfl⟩) dX6_at_17 (Or.inl rfl)
    · have c2 : i.toInt < 8 := ti_ge_n c2
      refine mp_a (a_aload_n dX6_at_10 rfl) (mpp 11 rfl ?_)
      refine mp_a (a_iload_n dX6_at_11 rfl) (mpp 12 rfl ?_)
      refine mt_ial (n := 8) hT dX6_at_12 ha (by decide) rfl rfl (by omega) (by omega) rfl (fun g3 g4 => mpp 13 rfl ?_)
      refine mp_a (a_goto (t := 17) dX6_at_13 (by decide)) ?_
      exact mp_iret (⟨⟨_, rfl, (ti_full _).1, (ti_full _).2⟩, rfl⟩) dX6_at_17 (Or.inl rfl)

set_option maxHeartbeats 4000000 in
theorem c_put_rsizes {P : mP} {a : Nat} {i x : Int32} (hT : Typ P) (ha : rl a = 11) : EvP 1 22 [.ref a, .int i, .int x] P (fun r P' => r = none ∧ Typ P' ∧ KX P P') := by
  refine EvP.of qm_22 (Nat.le_of_ble_eq_true rfl) rfl ?_
  show MEvP _ none q_22 0 [(0, .ref a), (1, .int i), (2, .int x)] [] _ 0 0 _
  refine mp_a (a_iload_n dX6_put_0 rfl) (mpp 1 rfl ?_)
  refine mp_Tb (t := 14) (j_if_lt dX6_put_1) (by decide) (fun c1 => ?_) (fun c1 => mpp 4 rfl ?_)
  · have c1 : i.toInt < 0 := ti_lt c1
    exact mp_ret (⟨rfl, hT, (KX.refl P)⟩) dX6_put_14 rfl
  · have c1 : i.toInt ≥ 0 := ti_lt_n c1
    refine mp_a (a_iload_n dX6_put_4 rfl) (mpp 5 rfl ?_)
    refine mp_a (a_aload_n dX6_put_5 rfl) (mpp 6 rfl ?_)
    refine mt_len (n := 8) hT dX6_put_6 ha (by decide) (by decide) rfl (mpp 7 rfl ?_)
    refine mp_Tb (t := 14) (j_icmp_ge dX6_put_7) (by decide) (fun c2 => ?_) (fun c2 => mpp 10 rfl ?_)
    · have c2 : i.toInt ≥ 8 := ti_ge c2
      exact mp_ret (⟨rfl, hT, (KX.refl P)⟩) dX6_put_14 rfl
    · have c2 : i.toInt < 8 := ti_ge_n c2
      refine mp_a (a_aload_n dX6_put_10 rfl) (mpp 11 rfl ?_)
      refine mp_a (a_iload_n dX6_put_11 rfl) (mpp 12 rfl ?_)
      refine mp_a (a_iload_n dX6_put_12 rfl) (mpp 13 rfl ?_)
      refine mt_ias (n := 8) hT dX6_put_13 ha (by decide) rfl rfl (by omega) (by omega) rfl (ti_full x) (fun P3 hT4 f5 f6 => mpp 14 rfl ?_)
      have k7 := KX.step (KX.refl P) ha (by decide) f6
      exact mp_ret (⟨rfl, hT4, k7⟩) dX6_put_14 rfl

set_option maxHeartbeats 4000000 in
theorem c_at_rcreases {P : mP} {a : Nat} {i : Int32} (hT : Typ P) (ha : rl a = 12) : EvP 1 12 [.ref a, .int i] P (fun r P' => (∃ x : Int32, r = some (.int x) ∧ (-2147483648 : Int) ≤ x.toInt ∧ x.toInt ≤ 2147483647) ∧ P' = P) := by
  refine EvP.of qm_12 (Nat.le_of_ble_eq_true rfl) rfl ?_
  show MEvP _ none q_12 0 [(0, .ref a), (1, .int i)] [] _ 0 0 _
  refine mp_a (a_iload_n dX6_at_0 rfl) (mpp 1 rfl ?_)
  refine mp_Tb (t := 16) (j_if_lt dX6_at_1) (by decide) (fun c1 => ?_) (fun c1 => mpp 4 rfl ?_)
  · have c1 : i.toInt < 0 := ti_lt c1
    refine mp_a (a_iconst (v := 0) dX6_at_16 rfl) (mpp 17 rfl ?_)
    exact mp_iret (⟨⟨_, rfl, (ti_full _).1, (ti_full _).2⟩, rfl⟩) dX6_at_17 (Or.inl rfl)
  · have c1 : i.toInt ≥ 0 := ti_lt_n c1
    refine mp_a (a_iload_n dX6_at_4 rfl) (mpp 5 rfl ?_)
    refine mp_a (a_aload_n dX6_at_5 rfl) (mpp 6 rfl ?_)
    refine mt_len (n := 8) hT dX6_at_6 ha (by decide) (by decide) rfl (mpp 7 rfl ?_)
    refine mp_Tb (t := 16) (j_icmp_ge dX6_at_7) (by decide) (fun c2 => ?_) (fun c2 => mpp 10 rfl ?_)
    · have c2 : i.toInt ≥ 8 := ti_ge c2
      refine mp_a (a_iconst (v := 0) dX6_at_16 rfl) (mpp 17 rfl ?_)
      exact mp_iret (⟨⟨_, rfl, (ti_full _).1, (ti_full _).2⟩, rfl⟩) dX6_at_17 (Or.inl rfl)
    · have c2 : i.toInt < 8 := ti_ge_n c2
      refine mp_a (a_aload_n dX6_at_10 rfl) (mpp 11 rfl ?_)
      refine mp_a (a_iload_n dX6_at_11 rfl) (mpp 12 rfl ?_)
      refine mt_ial (n := 8) hT dX6_at_12 ha (by decide) rfl rfl (by omega) (by omega) rfl (fun g3 g4 => mpp 13 rfl ?_)
      refine mp_a (a_goto (t := 17) dX6_at_13 (by decide)) ?_
      exact mp_iret (⟨⟨_, rfl, (ti_full _).1, (ti_full _).2⟩, rfl⟩) dX6_at_17 (Or.inl rfl)

set_option maxHeartbeats 4000000 in
theorem c_put_rcreases {P : mP} {a : Nat} {i x : Int32} (hT : Typ P) (ha : rl a = 12) : EvP 1 22 [.ref a, .int i, .int x] P (fun r P' => r = none ∧ Typ P' ∧ KX P P') := by
  refine EvP.of qm_22 (Nat.le_of_ble_eq_true rfl) rfl ?_
  show MEvP _ none q_22 0 [(0, .ref a), (1, .int i), (2, .int x)] [] _ 0 0 _
  refine mp_a (a_iload_n dX6_put_0 rfl) (mpp 1 rfl ?_)
  refine mp_Tb (t := 14) (j_if_lt dX6_put_1) (by decide) (fun c1 => ?_) (fun c1 => mpp 4 rfl ?_)
  · have c1 : i.toInt < 0 := ti_lt c1
    exact mp_ret (⟨rfl, hT, (KX.refl P)⟩) dX6_put_14 rfl
  · have c1 : i.toInt ≥ 0 := ti_lt_n c1
    refine mp_a (a_iload_n dX6_put_4 rfl) (mpp 5 rfl ?_)
    refine mp_a (a_aload_n dX6_put_5 rfl) (mpp 6 rfl ?_)
    refine mt_len (n := 8) hT dX6_put_6 ha (by decide) (by decide) rfl (mpp 7 rfl ?_)
    refine mp_Tb (t := 14) (j_icmp_ge dX6_put_7) (by decide) (fun c2 => ?_) (fun c2 => mpp 10 rfl ?_)
    · have c2 : i.toInt ≥ 8 := ti_ge c2
      exact mp_ret (⟨rfl, hT, (KX.refl P)⟩) dX6_put_14 rfl
    · have c2 : i.toInt < 8 := ti_ge_n c2
      refine mp_a (a_aload_n dX6_put_10 rfl) (mpp 11 rfl ?_)
      refine mp_a (a_iload_n dX6_put_11 rfl) (mpp 12 rfl ?_)
      refine mp_a (a_iload_n dX6_put_12 rfl) (mpp 13 rfl ?_)
      refine mt_ias (n := 8) hT dX6_put_13 ha (by decide) rfl rfl (by omega) (by omega) rfl (ti_full x) (fun P3 hT4 f5 f6 => mpp 14 rfl ?_)
      have k7 := KX.step (KX.refl P) ha (by decide) f6
      exact mp_ret (⟨rfl, hT4, k7⟩) dX6_put_14 rfl

set_option maxHeartbeats 4000000 in
theorem c_at_order {P : mP} {a : Nat} {i : Int32} (hT : Typ P) (ha : rl a = 14) : EvP 1 12 [.ref a, .int i] P (fun r P' => (∃ x : Int32, r = some (.int x) ∧ (-2147483648 : Int) ≤ x.toInt ∧ x.toInt ≤ 2147483647) ∧ P' = P) := by
  refine EvP.of qm_12 (Nat.le_of_ble_eq_true rfl) rfl ?_
  show MEvP _ none q_12 0 [(0, .ref a), (1, .int i)] [] _ 0 0 _
  refine mp_a (a_iload_n dX6_at_0 rfl) (mpp 1 rfl ?_)
  refine mp_Tb (t := 16) (j_if_lt dX6_at_1) (by decide) (fun c1 => ?_) (fun c1 => mpp 4 rfl ?_)
  · have c1 : i.toInt < 0 := ti_lt c1
    refine mp_a (a_iconst (v := 0) dX6_at_16 rfl) (mpp 17 rfl ?_)
    exact mp_iret (⟨⟨_, rfl, (ti_full _).1, (ti_full _).2⟩, rfl⟩) dX6_at_17 (Or.inl rfl)
  · have c1 : i.toInt ≥ 0 := ti_lt_n c1
    refine mp_a (a_iload_n dX6_at_4 rfl) (mpp 5 rfl ?_)
    refine mp_a (a_aload_n dX6_at_5 rfl) (mpp 6 rfl ?_)
    refine mt_len (n := 8) hT dX6_at_6 ha (by decide) (by decide) rfl (mpp 7 rfl ?_)
    refine mp_Tb (t := 16) (j_icmp_ge dX6_at_7) (by decide) (fun c2 => ?_) (fun c2 => mpp 10 rfl ?_)
    · have c2 : i.toInt ≥ 8 := ti_ge c2
      refine mp_a (a_iconst (v := 0) dX6_at_16 rfl) (mpp 17 rfl ?_)
      exact mp_iret (⟨⟨_, rfl, (ti_full _).1, (ti_full _).2⟩, rfl⟩) dX6_at_17 (Or.inl rfl)
    · have c2 : i.toInt < 8 := ti_ge_n c2
      refine mp_a (a_aload_n dX6_at_10 rfl) (mpp 11 rfl ?_)
      refine mp_a (a_iload_n dX6_at_11 rfl) (mpp 12 rfl ?_)
      refine mt_ial (n := 8) hT dX6_at_12 ha (by decide) rfl rfl (by omega) (by omega) rfl (fun g3 g4 => mpp 13 rfl ?_)
      refine mp_a (a_goto (t := 17) dX6_at_13 (by decide)) ?_
      exact mp_iret (⟨⟨_, rfl, (ti_full _).1, (ti_full _).2⟩, rfl⟩) dX6_at_17 (Or.inl rfl)

set_option maxHeartbeats 4000000 in
theorem c_put_order {P : mP} {a : Nat} {i x : Int32} (hT : Typ P) (ha : rl a = 14) : EvP 1 22 [.ref a, .int i, .int x] P (fun r P' => r = none ∧ Typ P' ∧ KX P P') := by
  refine EvP.of qm_22 (Nat.le_of_ble_eq_true rfl) rfl ?_
  show MEvP _ none q_22 0 [(0, .ref a), (1, .int i), (2, .int x)] [] _ 0 0 _
  refine mp_a (a_iload_n dX6_put_0 rfl) (mpp 1 rfl ?_)
  refine mp_Tb (t := 14) (j_if_lt dX6_put_1) (by decide) (fun c1 => ?_) (fun c1 => mpp 4 rfl ?_)
  · have c1 : i.toInt < 0 := ti_lt c1
    exact mp_ret (⟨rfl, hT, (KX.refl P)⟩) dX6_put_14 rfl
  · have c1 : i.toInt ≥ 0 := ti_lt_n c1
    refine mp_a (a_iload_n dX6_put_4 rfl) (mpp 5 rfl ?_)
    refine mp_a (a_aload_n dX6_put_5 rfl) (mpp 6 rfl ?_)
    refine mt_len (n := 8) hT dX6_put_6 ha (by decide) (by decide) rfl (mpp 7 rfl ?_)
    refine mp_Tb (t := 14) (j_icmp_ge dX6_put_7) (by decide) (fun c2 => ?_) (fun c2 => mpp 10 rfl ?_)
    · have c2 : i.toInt ≥ 8 := ti_ge c2
      exact mp_ret (⟨rfl, hT, (KX.refl P)⟩) dX6_put_14 rfl
    · have c2 : i.toInt < 8 := ti_ge_n c2
      refine mp_a (a_aload_n dX6_put_10 rfl) (mpp 11 rfl ?_)
      refine mp_a (a_iload_n dX6_put_11 rfl) (mpp 12 rfl ?_)
      refine mp_a (a_iload_n dX6_put_12 rfl) (mpp 13 rfl ?_)
      refine mt_ias (n := 8) hT dX6_put_13 ha (by decide) rfl rfl (by omega) (by omega) rfl (ti_full x) (fun P3 hT4 f5 f6 => mpp 14 rfl ?_)
      have k7 := KX.step (KX.refl P) ha (by decide) f6
      exact mp_ret (⟨rfl, hT4, k7⟩) dX6_put_14 rfl

set_option maxHeartbeats 4000000 in
theorem c_at_places {P : mP} {a : Nat} {i : Int32} (hT : Typ P) (ha : rl a = 15) : EvP 1 12 [.ref a, .int i] P (fun r P' => (∃ x : Int32, r = some (.int x) ∧ (-2147483648 : Int) ≤ x.toInt ∧ x.toInt ≤ 2147483647) ∧ P' = P) := by
  refine EvP.of qm_12 (Nat.le_of_ble_eq_true rfl) rfl ?_
  show MEvP _ none q_12 0 [(0, .ref a), (1, .int i)] [] _ 0 0 _
  refine mp_a (a_iload_n dX6_at_0 rfl) (mpp 1 rfl ?_)
  refine mp_Tb (t := 16) (j_if_lt dX6_at_1) (by decide) (fun c1 => ?_) (fun c1 => mpp 4 rfl ?_)
  · have c1 : i.toInt < 0 := ti_lt c1
    refine mp_a (a_iconst (v := 0) dX6_at_16 rfl) (mpp 17 rfl ?_)
    exact mp_iret (⟨⟨_, rfl, (ti_full _).1, (ti_full _).2⟩, rfl⟩) dX6_at_17 (Or.inl rfl)
  · have c1 : i.toInt ≥ 0 := ti_lt_n c1
    refine mp_a (a_iload_n dX6_at_4 rfl) (mpp 5 rfl ?_)
    refine mp_a (a_aload_n dX6_at_5 rfl) (mpp 6 rfl ?_)
    refine mt_len (n := 8) hT dX6_at_6 ha (by decide) (by decide) rfl (mpp 7 rfl ?_)
    refine mp_Tb (t := 16) (j_icmp_ge dX6_at_7) (by decide) (fun c2 => ?_) (fun c2 => mpp 10 rfl ?_)
    · have c2 : i.toInt ≥ 8 := ti_ge c2
      refine mp_a (a_iconst (v := 0) dX6_at_16 rfl) (mpp 17 rfl ?_)
      exact mp_iret (⟨⟨_, rfl, (ti_full _).1, (ti_full _).2⟩, rfl⟩) dX6_at_17 (Or.inl rfl)
    · have c2 : i.toInt < 8 := ti_ge_n c2
      refine mp_a (a_aload_n dX6_at_10 rfl) (mpp 11 rfl ?_)
      refine mp_a (a_iload_n dX6_at_11 rfl) (mpp 12 rfl ?_)
      refine mt_ial (n := 8) hT dX6_at_12 ha (by decide) rfl rfl (by omega) (by omega) rfl (fun g3 g4 => mpp 13 rfl ?_)
      refine mp_a (a_goto (t := 17) dX6_at_13 (by decide)) ?_
      exact mp_iret (⟨⟨_, rfl, (ti_full _).1, (ti_full _).2⟩, rfl⟩) dX6_at_17 (Or.inl rfl)

set_option maxHeartbeats 4000000 in
theorem c_put_places {P : mP} {a : Nat} {i x : Int32} (hT : Typ P) (ha : rl a = 15) : EvP 1 22 [.ref a, .int i, .int x] P (fun r P' => r = none ∧ Typ P' ∧ KX P P') := by
  refine EvP.of qm_22 (Nat.le_of_ble_eq_true rfl) rfl ?_
  show MEvP _ none q_22 0 [(0, .ref a), (1, .int i), (2, .int x)] [] _ 0 0 _
  refine mp_a (a_iload_n dX6_put_0 rfl) (mpp 1 rfl ?_)
  refine mp_Tb (t := 14) (j_if_lt dX6_put_1) (by decide) (fun c1 => ?_) (fun c1 => mpp 4 rfl ?_)
  · have c1 : i.toInt < 0 := ti_lt c1
    exact mp_ret (⟨rfl, hT, (KX.refl P)⟩) dX6_put_14 rfl
  · have c1 : i.toInt ≥ 0 := ti_lt_n c1
    refine mp_a (a_iload_n dX6_put_4 rfl) (mpp 5 rfl ?_)
    refine mp_a (a_aload_n dX6_put_5 rfl) (mpp 6 rfl ?_)
    refine mt_len (n := 8) hT dX6_put_6 ha (by decide) (by decide) rfl (mpp 7 rfl ?_)
    refine mp_Tb (t := 14) (j_icmp_ge dX6_put_7) (by decide) (fun c2 => ?_) (fun c2 => mpp 10 rfl ?_)
    · have c2 : i.toInt ≥ 8 := ti_ge c2
      exact mp_ret (⟨rfl, hT, (KX.refl P)⟩) dX6_put_14 rfl
    · have c2 : i.toInt < 8 := ti_ge_n c2
      refine mp_a (a_aload_n dX6_put_10 rfl) (mpp 11 rfl ?_)
      refine mp_a (a_iload_n dX6_put_11 rfl) (mpp 12 rfl ?_)
      refine mp_a (a_iload_n dX6_put_12 rfl) (mpp 13 rfl ?_)
      refine mt_ias (n := 8) hT dX6_put_13 ha (by decide) rfl rfl (by omega) (by omega) rfl (ti_full x) (fun P3 hT4 f5 f6 => mpp 14 rfl ?_)
      have k7 := KX.step (KX.refl P) ha (by decide) f6
      exact mp_ret (⟨rfl, hT4, k7⟩) dX6_put_14 rfl

set_option maxHeartbeats 4000000 in
theorem c_at_lcreases {P : mP} {a : Nat} {i : Int32} (hT : Typ P) (ha : rl a = 16) : EvP 1 12 [.ref a, .int i] P (fun r P' => (∃ x : Int32, r = some (.int x) ∧ (-2147483648 : Int) ≤ x.toInt ∧ x.toInt ≤ 2147483647) ∧ P' = P) := by
  refine EvP.of qm_12 (Nat.le_of_ble_eq_true rfl) rfl ?_
  show MEvP _ none q_12 0 [(0, .ref a), (1, .int i)] [] _ 0 0 _
  refine mp_a (a_iload_n dX6_at_0 rfl) (mpp 1 rfl ?_)
  refine mp_Tb (t := 16) (j_if_lt dX6_at_1) (by decide) (fun c1 => ?_) (fun c1 => mpp 4 rfl ?_)
  · have c1 : i.toInt < 0 := ti_lt c1
    refine mp_a (a_iconst (v := 0) dX6_at_16 rfl) (mpp 17 rfl ?_)
    exact mp_iret (⟨⟨_, rfl, (ti_full _).1, (ti_full _).2⟩, rfl⟩) dX6_at_17 (Or.inl rfl)
  · have c1 : i.toInt ≥ 0 := ti_lt_n c1
    refine mp_a (a_iload_n dX6_at_4 rfl) (mpp 5 rfl ?_)
    refine mp_a (a_aload_n dX6_at_5 rfl) (mpp 6 rfl ?_)
    refine mt_len (n := 8) hT dX6_at_6 ha (by decide) (by decide) rfl (mpp 7 rfl ?_)
    refine mp_Tb (t := 16) (j_icmp_ge dX6_at_7) (by decide) (fun c2 => ?_) (fun c2 => mpp 10 rfl ?_)
    · have c2 : i.toInt ≥ 8 := ti_ge c2
      refine mp_a (a_iconst (v := 0) dX6_at_16 rfl) (mpp 17 rfl ?_)
      exact mp_iret (⟨⟨_, rfl, (ti_full _).1, (ti_full _).2⟩, rfl⟩) dX6_at_17 (Or.inl rfl)
    · have c2 : i.toInt < 8 := ti_ge_n c2
      refine mp_a (a_aload_n dX6_at_10 rfl) (mpp 11 rfl ?_)
      refine mp_a (a_iload_n dX6_at_11 rfl) (mpp 12 rfl ?_)
      refine mt_ial (n := 8) hT dX6_at_12 ha (by decide) rfl rfl (by omega) (by omega) rfl (fun g3 g4 => mpp 13 rfl ?_)
      refine mp_a (a_goto (t := 17) dX6_at_13 (by decide)) ?_
      exact mp_iret (⟨⟨_, rfl, (ti_full _).1, (ti_full _).2⟩, rfl⟩) dX6_at_17 (Or.inl rfl)

set_option maxHeartbeats 4000000 in
theorem c_put_lcreases {P : mP} {a : Nat} {i x : Int32} (hT : Typ P) (ha : rl a = 16) : EvP 1 22 [.ref a, .int i, .int x] P (fun r P' => r = none ∧ Typ P' ∧ KX P P') := by
  refine EvP.of qm_22 (Nat.le_of_ble_eq_true rfl) rfl ?_
  show MEvP _ none q_22 0 [(0, .ref a), (1, .int i), (2, .int x)] [] _ 0 0 _
  refine mp_a (a_iload_n dX6_put_0 rfl) (mpp 1 rfl ?_)
  refine mp_Tb (t := 14) (j_if_lt dX6_put_1) (by decide) (fun c1 => ?_) (fun c1 => mpp 4 rfl ?_)
  · have c1 : i.toInt < 0 := ti_lt c1
    exact mp_ret (⟨rfl, hT, (KX.refl P)⟩) dX6_put_14 rfl
  · have c1 : i.toInt ≥ 0 := ti_lt_n c1
    refine mp_a (a_iload_n dX6_put_4 rfl) (mpp 5 rfl ?_)
    refine mp_a (a_aload_n dX6_put_5 rfl) (mpp 6 rfl ?_)
    refine mt_len (n := 8) hT dX6_put_6 ha (by decide) (by decide) rfl (mpp 7 rfl ?_)
    refine mp_Tb (t := 14) (j_icmp_ge dX6_put_7) (by decide) (fun c2 => ?_) (fun c2 => mpp 10 rfl ?_)
    · have c2 : i.toInt ≥ 8 := ti_ge c2
      exact mp_ret (⟨rfl, hT, (KX.refl P)⟩) dX6_put_14 rfl
    · have c2 : i.toInt < 8 := ti_ge_n c2
      refine mp_a (a_aload_n dX6_put_10 rfl) (mpp 11 rfl ?_)
      refine mp_a (a_iload_n dX6_put_11 rfl) (mpp 12 rfl ?_)
      refine mp_a (a_iload_n dX6_put_12 rfl) (mpp 13 rfl ?_)
      refine mt_ias (n := 8) hT dX6_put_13 ha (by decide) rfl rfl (by omega) (by omega) rfl (ti_full x) (fun P3 hT4 f5 f6 => mpp 14 rfl ?_)
      have k7 := KX.step (KX.refl P) ha (by decide) f6
      exact mp_ret (⟨rfl, hT4, k7⟩) dX6_put_14 rfl

set_option maxHeartbeats 4000000 in
theorem c_creaseCount {P : mP} {a : Nat} (hT : Typ P) (ha : rl a = 3) : EvP 1 25 [.ref a] P (fun r P' => (∃ x : Int32, r = some (.int x) ∧ -1 ≤ x.toInt ∧ x.toInt ≤ 8) ∧ P' = P) := by
  refine EvP.of qm_25 (Nat.le_of_ble_eq_true rfl) rfl ?_
  show MEvP _ none q_25 0 [(0, .ref a)] [] _ 0 0 _
  refine mp_a (a_aload_n dX2_creaseCount_0 rfl) (mpp 1 rfl ?_)
  refine mt_getI (i := 18) (k := 0) hT dX2_creaseCount_1 rfl ha (by decide) rfl (by decide) rfl (fun g1 g2 => mpp 4 rfl ?_)
  refine mp_Tb (t := 16) (j_if_ne dX2_creaseCount_4) (by decide) (fun c3 => ?_) (fun c3 => mpp 7 rfl ?_)
  · have c3 : (fv P a 0).toInt ≠ 0 := ti_ne c3
    refine mp_a (a_aload_n dX2_creaseCount_16 rfl) (mpp 17 rfl ?_)
    refine mt_getI (i := 26) (k := 1) hT dX2_creaseCount_17 rfl ha (by decide) rfl (by decide) rfl (fun g4 g5 => mpp 20 rfl ?_)
    exact mp_iret (⟨⟨_, rfl, by omega, by omega⟩, rfl⟩) dX2_creaseCount_20 (Or.inl rfl)
  · have c3 : (fv P a 0).toInt = 0 := ti_ne_n c3
    refine mp_a (a_aload_n dX2_creaseCount_7 rfl) (mpp 8 rfl ?_)
    refine mt_getI (i := 26) (k := 1) hT dX2_creaseCount_8 rfl ha (by decide) rfl (by decide) rfl (fun g6 g7 => mpp 11 rfl ?_)
    refine mp_a (a_iconst (v := 1) dX2_creaseCount_11 rfl) (mpp 12 rfl ?_)
    refine mp_t (s_isub (v := ((fv P a 1) - 1)) dX2_creaseCount_12 rfl) (mpp 13 rfl ?_)
    try have e8 : ((fv P a 1) - 1).toInt = (fv P a 1).toInt - 1 := ti_sub rfl rfl (by omega) (by omega)
    refine mp_a (a_goto (t := 20) dX2_creaseCount_13 (by decide)) ?_
    exact mp_iret (⟨⟨_, rfl, by omega, by omega⟩, rfl⟩) dX2_creaseCount_20 (Or.inl rfl)

set_option maxHeartbeats 4000000 in
theorem c_sum_loop {Po : mP} {a : Nat} (ha : rl a = 3) : ∀ (n : Nat) (i s : Int32) (P : mP), Typ P → KX Po P → (8 - i.toInt).toNat = n → MEvP 2 none q_23 4 [(2, .int i), (1, .int s), (0, .ref a)] [] P 0 0 (fun r P' => (∃ x : Int32, r = some (.int x) ∧ (-2147483648 : Int) ≤ x.toInt ∧ x.toInt ≤ 2147483647) ∧ Typ P' ∧ KX Po P') := by
  intro n
  induction n using Nat.strongRecOn with | _ n ih => ?_
  intro i s P hT hK hm
  have w_i := ti_full i
  have w_s := ti_full s
  refine mp_a (a_iload_n dX2_sum_4 rfl) (mpp 5 rfl ?_)
  refine mp_a (a_aload_n dX2_sum_5 rfl) (mpp 6 rfl ?_)
  refine mt_getI (i := 26) (k := 1) hT dX2_sum_6 rfl ha (by decide) rfl (by decide) rfl (fun g1 g2 => mpp 9 rfl ?_)
  refine mp_Tb (t := 29) (j_icmp_ge dX2_sum_9) (by decide) (fun c3 => ?_) (fun c3 => mpp 12 rfl ?_)
  · have c3 : i.toInt ≥ (fv P a 1).toInt := ti_ge c3
    refine mp_a (a_iload_n dX2_sum_29 rfl) (mpp 30 rfl ?_)
    exact mp_iret (⟨⟨_, rfl, (ti_full _).1, (ti_full _).2⟩, hT, hK⟩) dX2_sum_30 (Or.inl rfl)
  · have c3 : i.toInt < (fv P a 1).toInt := ti_ge_n c3
    refine mp_a (a_iload_n dX2_sum_12 rfl) (mpp 13 rfl ?_)
    refine mp_a (a_aload_n dX2_sum_13 rfl) (mpp 14 rfl ?_)
    refine mt_getR (i := 9) (k := 3) hT dX2_sum_14 rfl ha (by decide) rfl (by decide) rfl (fun q4 => mpp 17 rfl ?_)
    refine mp_a (a_iload_n dX2_sum_17 rfl) (mpp 18 rfl ?_)
    refine mp_calls (i := 48) (q' := q_12) (As := [.ref (rv P a 3), .int i]) (rest := [.int s]) dX2_sum_18 rfl qm_12 (by decide) rfl (Nat.le_of_ble_eq_true rfl) rfl ⟨rfl, rfl⟩ ⟨Nat.le_of_ble_eq_true rfl, Nat.le_of_ble_eq_true rfl⟩ (EvP.mono (by decide) (c_at_sizes hT q4)) (fun r5 P6 g7 => mpp 21 rfl ?_)
    obtain ⟨⟨x8, rfl, g9, g10⟩, e11⟩ := g7
    have e11 := e11.symm
    subst e11
    show MEvP _ none q_23 21 [(2, .int i), (1, .int s), (0, .ref a)] [.int x8, .int s] _ _ _ _
    refine mp_t (s_iadd (v := (s + x8)) dX2_sum_21 rfl) (mpp 22 rfl ?_)
    try have e13 : (s + x8).toInt = s.toInt + x8.toInt := ti_add rfl rfl (by omega) (by omega)
    refine mp_a (a_istore_n (L' := [(1, .int (s + x8)), (2, .int i), (0, .ref a)]) dX2_sum_22 (by decide) rfl) (mpp 23 rfl ?_)
    refine mp_a (a_iinc (v := (i + 1)) (L' := [(2, .int (i + 1)), (1, .int (s + x8)), (0, .ref a)]) dX2_sum_23 (by decide) rfl rfl rfl) (mpp 26 rfl ?_)
    try have e14 : (i + 1).toInt = i.toInt + (1) := ti_add rfl rfl (by omega) (by omega)
    refine mp_a (a_goto (t := 4) dX2_sum_26 (by decide)) ?_
    exact ih _ (by omega) _ _ _ hT hK rfl

set_option maxHeartbeats 4000000 in
theorem c_sum {P : mP} {a : Nat} (hT : Typ P) (ha : rl a = 3) : EvP 3 23 [.ref a] P (fun r P' => (∃ x : Int32, r = some (.int x) ∧ (-2147483648 : Int) ≤ x.toInt ∧ x.toInt ≤ 2147483647) ∧ Typ P' ∧ KX P P') := by
  refine EvP.of qm_23 (Nat.le_of_ble_eq_true rfl) rfl ?_
  show MEvP _ none q_23 0 [(0, .ref a)] [] _ 0 0 _
  refine mp_a (a_iconst (v := 0) dX2_sum_0 rfl) (mpp 1 rfl ?_)
  refine mp_a (a_istore_n (L' := [(1, .int 0), (0, .ref a)]) dX2_sum_1 (by decide) rfl) (mpp 2 rfl ?_)
  refine mp_a (a_iconst (v := 0) dX2_sum_2 rfl) (mpp 3 rfl ?_)
  refine mp_a (a_istore_n (L' := [(2, .int 0), (1, .int 0), (0, .ref a)]) dX2_sum_3 (by decide) rfl) (mpp 4 rfl ?_)
  exact c_sum_loop ha _ _ _ _ hT (KX.refl P) rfl

set_option maxHeartbeats 4000000 in
theorem c_sizesAsNumber_loop {Po : mP} {a : Nat} (ha : rl a = 3) : ∀ (n : Nat) (i s : Int32) (P : mP), Typ P → KX Po P → (8 - i.toInt).toNat = n → MEvP 2 none q_35 4 [(2, .int i), (1, .int s), (0, .ref a)] [] P 0 0 (fun r P' => (∃ x : Int32, r = some (.int x) ∧ (-2147483648 : Int) ≤ x.toInt ∧ x.toInt ≤ 2147483647) ∧ Typ P' ∧ KX Po P') := by
  intro n
  induction n using Nat.strongRecOn with | _ n ih => ?_
  intro i s P hT hK hm
  have w_i := ti_full i
  have w_s := ti_full s
  refine mp_a (a_iload_n dX2_sizesAsNumber_4 rfl) (mpp 5 rfl ?_)
  refine mp_a (a_aload_n dX2_sizesAsNumber_5 rfl) (mpp 6 rfl ?_)
  refine mt_getI (i := 26) (k := 1) hT dX2_sizesAsNumber_6 rfl ha (by decide) rfl (by decide) rfl (fun g1 g2 => mpp 9 rfl ?_)
  refine mp_Tb (t := 32) (j_icmp_ge dX2_sizesAsNumber_9) (by decide) (fun c3 => ?_) (fun c3 => mpp 12 rfl ?_)
  · have c3 : i.toInt ≥ (fv P a 1).toInt := ti_ge c3
    refine mp_a (a_iload_n dX2_sizesAsNumber_32 rfl) (mpp 33 rfl ?_)
    exact mp_iret (⟨⟨_, rfl, (ti_full _).1, (ti_full _).2⟩, hT, hK⟩) dX2_sizesAsNumber_33 (Or.inl rfl)
  · have c3 : i.toInt < (fv P a 1).toInt := ti_ge_n c3
    refine mp_a (a_iload_n dX2_sizesAsNumber_12 rfl) (mpp 13 rfl ?_)
    refine mp_a (a_bipush (v := 10) dX2_sizesAsNumber_13 rfl) (mpp 15 rfl ?_)
    refine mp_t (s_imul (v := (s * 10)) dX2_sizesAsNumber_15 rfl) (mpp 16 rfl ?_)
    try have e4 : (s * 10).toInt = s.toInt * 10 := ti_mul rfl rfl (by omega) (by omega)
    refine mp_a (a_aload_n dX2_sizesAsNumber_16 rfl) (mpp 17 rfl ?_)
    refine mt_getR (i := 9) (k := 3) hT dX2_sizesAsNumber_17 rfl ha (by decide) rfl (by decide) rfl (fun q5 => mpp 20 rfl ?_)
    refine mp_a (a_iload_n dX2_sizesAsNumber_20 rfl) (mpp 21 rfl ?_)
    refine mp_calls (i := 48) (q' := q_12) (As := [.ref (rv P a 3), .int i]) (rest := [.int (s * 10)]) dX2_sizesAsNumber_21 rfl qm_12 (by decide) rfl (Nat.le_of_ble_eq_true rfl) rfl ⟨rfl, rfl⟩ ⟨Nat.le_of_ble_eq_true rfl, Nat.le_of_ble_eq_true rfl⟩ (EvP.mono (by decide) (c_at_sizes hT q5)) (fun r6 P7 g8 => mpp 24 rfl ?_)
    obtain ⟨⟨x9, rfl, g10, g11⟩, e12⟩ := g8
    have e12 := e12.symm
    subst e12
    show MEvP _ none q_35 24 [(2, .int i), (1, .int s), (0, .ref a)] [.int x9, .int (s * 10)] _ _ _ _
    refine mp_t (s_iadd (v := ((s * 10) + x9)) dX2_sizesAsNumber_24 rfl) (mpp 25 rfl ?_)
    try have e14 : ((s * 10) + x9).toInt = (s * 10).toInt + x9.toInt := ti_add rfl rfl (by omega) (by omega)
    refine mp_a (a_istore_n (L' := [(1, .int ((s * 10) + x9)), (2, .int i), (0, .ref a)]) dX2_sizesAsNumber_25 (by decide) rfl) (mpp 26 rfl ?_)
    refine mp_a (a_iinc (v := (i + 1)) (L' := [(2, .int (i + 1)), (1, .int ((s * 10) + x9)), (0, .ref a)]) dX2_sizesAsNumber_26 (by decide) rfl rfl rfl) (mpp 29 rfl ?_)
    try have e15 : (i + 1).toInt = i.toInt + (1) := ti_add rfl rfl (by omega) (by omega)
    refine mp_a (a_goto (t := 4) dX2_sizesAsNumber_29 (by decide)) ?_
    exact ih _ (by omega) _ _ _ hT hK rfl

set_option maxHeartbeats 4000000 in
theorem c_sizesAsNumber {P : mP} {a : Nat} (hT : Typ P) (ha : rl a = 3) : EvP 3 35 [.ref a] P (fun r P' => (∃ x : Int32, r = some (.int x) ∧ (-2147483648 : Int) ≤ x.toInt ∧ x.toInt ≤ 2147483647) ∧ Typ P' ∧ KX P P') := by
  refine EvP.of qm_35 (Nat.le_of_ble_eq_true rfl) rfl ?_
  show MEvP _ none q_35 0 [(0, .ref a)] [] _ 0 0 _
  refine mp_a (a_iconst (v := 0) dX2_sizesAsNumber_0 rfl) (mpp 1 rfl ?_)
  refine mp_a (a_istore_n (L' := [(1, .int 0), (0, .ref a)]) dX2_sizesAsNumber_1 (by decide) rfl) (mpp 2 rfl ?_)
  refine mp_a (a_iconst (v := 0) dX2_sizesAsNumber_2 rfl) (mpp 3 rfl ?_)
  refine mp_a (a_istore_n (L' := [(2, .int 0), (1, .int 0), (0, .ref a)]) dX2_sizesAsNumber_3 (by decide) rfl) (mpp 4 rfl ?_)
  exact c_sizesAsNumber_loop ha _ _ _ _ hT (KX.refl P) rfl

set_option maxHeartbeats 4000000 in
theorem c_greatestSize_loop {Po : mP} {a : Nat} (ha : rl a = 3) : ∀ (n : Nat) (i s : Int32) (P : mP), Typ P → KX Po P → (8 - i.toInt).toNat = n → MEvP 2 none q_11 4 [(2, .int i), (1, .int s), (0, .ref a)] [] P 0 0 (fun r P' => (∃ x : Int32, r = some (.int x) ∧ (-2147483648 : Int) ≤ x.toInt ∧ x.toInt ≤ 2147483647) ∧ Typ P' ∧ KX Po P') := by
  intro n
  induction n using Nat.strongRecOn with | _ n ih => ?_
  intro i s P hT hK hm
  have w_i := ti_full i
  have w_s := ti_full s
  refine mp_a (a_iload_n dX2_greatestSize_4 rfl) (mpp 5 rfl ?_)
  refine mp_a (a_aload_n dX2_greatestSize_5 rfl) (mpp 6 rfl ?_)
  refine mt_getI (i := 26) (k := 1) hT dX2_greatestSize_6 rfl ha (by decide) rfl (by decide) rfl (fun g1 g2 => mpp 9 rfl ?_)
  refine mp_Tb (t := 31) (j_icmp_ge dX2_greatestSize_9) (by decide) (fun c3 => ?_) (fun c3 => mpp 12 rfl ?_)
  · have c3 : i.toInt ≥ (fv P a 1).toInt := ti_ge c3
    refine mp_a (a_iload_n dX2_greatestSize_31 rfl) (mpp 32 rfl ?_)
    exact mp_iret (⟨⟨_, rfl, (ti_full _).1, (ti_full _).2⟩, hT, hK⟩) dX2_greatestSize_32 (Or.inl rfl)
  · have c3 : i.toInt < (fv P a 1).toInt := ti_ge_n c3
    refine mp_a (a_iload_n dX2_greatestSize_12 rfl) (mpp 13 rfl ?_)
    refine mp_a (a_aload_n dX2_greatestSize_13 rfl) (mpp 14 rfl ?_)
    refine mt_getR (i := 9) (k := 3) hT dX2_greatestSize_14 rfl ha (by decide) rfl (by decide) rfl (fun q4 => mpp 17 rfl ?_)
    refine mp_a (a_iload_n dX2_greatestSize_17 rfl) (mpp 18 rfl ?_)
    refine mp_calls (i := 48) (q' := q_12) (As := [.ref (rv P a 3), .int i]) (rest := [.int s]) dX2_greatestSize_18 rfl qm_12 (by decide) rfl (Nat.le_of_ble_eq_true rfl) rfl ⟨rfl, rfl⟩ ⟨Nat.le_of_ble_eq_true rfl, Nat.le_of_ble_eq_true rfl⟩ (EvP.mono (by decide) (c_at_sizes hT q4)) (fun r5 P6 g7 => mpp 21 rfl ?_)
    obtain ⟨⟨x8, rfl, g9, g10⟩, e11⟩ := g7
    have e11 := e11.symm
    subst e11
    show MEvP _ none q_11 21 [(2, .int i), (1, .int s), (0, .ref a)] [.int x8, .int s] _ _ _ _
    obtain ⟨z13, h14⟩ : ∃ z13 : Int32, (if (7 : Nat) = 7 then (if s < x8 then x8 else s) else (if x8 < s then x8 else s)) = z13 := ⟨_, rfl⟩
    have e15 := ti_mm7 h14
    refine mp_math (i := 65) (k := 0) (v := z13) dX2_greatestSize_21 rfl (by decide) (Nat.le_of_ble_eq_true rfl) h14 ⟨Nat.le_of_ble_eq_true rfl, Nat.le_of_ble_eq_true rfl⟩ (mpp 24 rfl ?_)
    refine mp_a (a_istore_n (L' := [(1, .int z13), (2, .int i), (0, .ref a)]) dX2_greatestSize_24 (by decide) rfl) (mpp 25 rfl ?_)
    refine mp_a (a_iinc (v := (i + 1)) (L' := [(2, .int (i + 1)), (1, .int z13), (0, .ref a)]) dX2_greatestSize_25 (by decide) rfl rfl rfl) (mpp 28 rfl ?_)
    try have e16 : (i + 1).toInt = i.toInt + (1) := ti_add rfl rfl (by omega) (by omega)
    refine mp_a (a_goto (t := 4) dX2_greatestSize_28 (by decide)) ?_
    exact ih _ (by omega) _ _ _ hT hK rfl

set_option maxHeartbeats 4000000 in
theorem c_greatestSize {P : mP} {a : Nat} (hT : Typ P) (ha : rl a = 3) : EvP 3 11 [.ref a] P (fun r P' => (∃ x : Int32, r = some (.int x) ∧ (-2147483648 : Int) ≤ x.toInt ∧ x.toInt ≤ 2147483647) ∧ Typ P' ∧ KX P P') := by
  refine EvP.of qm_11 (Nat.le_of_ble_eq_true rfl) rfl ?_
  show MEvP _ none q_11 0 [(0, .ref a)] [] _ 0 0 _
  refine mp_a (a_iconst (v := 0) dX2_greatestSize_0 rfl) (mpp 1 rfl ?_)
  refine mp_a (a_istore_n (L' := [(1, .int 0), (0, .ref a)]) dX2_greatestSize_1 (by decide) rfl) (mpp 2 rfl ?_)
  refine mp_a (a_iconst (v := 0) dX2_greatestSize_2 rfl) (mpp 3 rfl ?_)
  refine mp_a (a_istore_n (L' := [(2, .int 0), (1, .int 0), (0, .ref a)]) dX2_greatestSize_3 (by decide) rfl) (mpp 4 rfl ?_)
  exact c_greatestSize_loop ha _ _ _ _ hT (KX.refl P) rfl

set_option maxHeartbeats 4000000 in
theorem c_countOf_loop {Po : mP} {a : Nat} {t : Int32} (ha : rl a = 3) : ∀ (n : Nat) (i s : Int32) (P : mP), Typ P → KX Po P → (8 - i.toInt).toNat = n → MEvP 2 none q_32 4 [(3, .int i), (2, .int s), (0, .ref a), (1, .int t)] [] P 0 0 (fun r P' => (∃ x : Int32, r = some (.int x) ∧ (-2147483648 : Int) ≤ x.toInt ∧ x.toInt ≤ 2147483647) ∧ Typ P' ∧ KX Po P') := by
  intro n
  induction n using Nat.strongRecOn with | _ n ih => ?_
  intro i s P hT hK hm
  have w_i := ti_full i
  have w_s := ti_full s
  refine mp_a (a_iload_n dX2_countOf_4 rfl) (mpp 5 rfl ?_)
  refine mp_a (a_aload_n dX2_countOf_5 rfl) (mpp 6 rfl ?_)
  refine mt_callv (i := 37) (q' := q_25) (As := []) (rest := [.int i]) hT dX2_countOf_6 rfl qm_25 (by decide) rfl ha (by decide) rfl (Nat.le_of_ble_eq_true rfl) rfl ⟨rfl, rfl⟩ ⟨Nat.le_of_ble_eq_true rfl, Nat.le_of_ble_eq_true rfl⟩ (EvP.mono (by decide) (c_creaseCount hT ha)) (fun r1 P2 g3 => mpp 9 rfl ?_)
  obtain ⟨⟨x4, rfl, g5, g6⟩, e7⟩ := g3
  have e7 := e7.symm
  subst e7
  show MEvP _ none q_32 9 [(3, .int i), (2, .int s), (0, .ref a), (1, .int t)] [.int x4, .int i] _ _ _ _
  refine mp_Tb (t := 33) (j_icmp_ge dX2_countOf_9) (by decide) (fun c9 => ?_) (fun c9 => mpp 12 rfl ?_)
  · have c9 : i.toInt ≥ x4.toInt := ti_ge c9
    refine mp_a (a_iload_n dX2_countOf_33 rfl) (mpp 34 rfl ?_)
    exact mp_iret (⟨⟨_, rfl, (ti_full _).1, (ti_full _).2⟩, hT, hK⟩) dX2_countOf_34 (Or.inl rfl)
  · have c9 : i.toInt < x4.toInt := ti_ge_n c9
    refine mp_a (a_aload_n dX2_countOf_12 rfl) (mpp 13 rfl ?_)
    refine mt_getR (i := 15) (k := 4) hT dX2_countOf_13 rfl ha (by decide) rfl (by decide) rfl (fun q10 => mpp 16 rfl ?_)
    refine mp_a (a_iload_n dX2_countOf_16 rfl) (mpp 17 rfl ?_)
    refine mp_calls (i := 48) (q' := q_12) (As := [.ref (rv P a 4), .int i]) (rest := []) dX2_countOf_17 rfl qm_12 (by decide) rfl (Nat.le_of_ble_eq_true rfl) rfl ⟨rfl, rfl⟩ ⟨Nat.le_of_ble_eq_true rfl, Nat.le_of_ble_eq_true rfl⟩ (EvP.mono (by decide) (c_at_creases hT q10)) (fun r11 P12 g13 => mpp 20 rfl ?_)
    obtain ⟨⟨x14, rfl, g15, g16⟩, e17⟩ := g13
    have e17 := e17.symm
    subst e17
    show MEvP _ none q_32 20 [(3, .int i), (2, .int s), (0, .ref a), (1, .int t)] [.int x14] _ _ _ _
    refine mp_a (a_iload_n dX2_countOf_20 rfl) (mpp 21 rfl ?_)
    refine mp_Tb (t := 27) (j_icmp_ne dX2_countOf_21) (by decide) (fun c19 => ?_) (fun c19 => mpp 24 rfl ?_)
    · have c19 : x14.toInt ≠ t.toInt := ti_ne c19
      refine mp_a (a_iinc (v := (i + 1)) (L' := [(3, .int (i + 1)), (2, .int s), (0, .ref a), (1, .int t)]) dX2_countOf_27 (by decide) rfl rfl rfl) (mpp 30 rfl ?_)
      try have e20 : (i + 1).toInt = i.toInt + (1) := ti_add rfl rfl (by omega) (by omega)
      refine mp_a (a_goto (t := 4) dX2_countOf_30 (by decide)) ?_
      exact ih _ (by omega) _ _ _ hT hK rfl
    · have c19 : x14.toInt = t.toInt := ti_ne_n c19
      refine mp_a (a_iinc (v := (s + 1)) (L' := [(2, .int (s + 1)), (3, .int i), (0, .ref a), (1, .int t)]) dX2_countOf_24 (by decide) rfl rfl rfl) (mpp 27 rfl ?_)
      try have e21 : (s + 1).toInt = s.toInt + (1) := ti_add rfl rfl (by omega) (by omega)
      refine mp_a (a_iinc (v := (i + 1)) (L' := [(3, .int (i + 1)), (2, .int (s + 1)), (0, .ref a), (1, .int t)]) dX2_countOf_27 (by decide) rfl rfl rfl) (mpp 30 rfl ?_)
      try have e22 : (i + 1).toInt = i.toInt + (1) := ti_add rfl rfl (by omega) (by omega)
      refine mp_a (a_goto (t := 4) dX2_countOf_30 (by decide)) ?_
      exact ih _ (by omega) _ _ _ hT hK rfl

set_option maxHeartbeats 4000000 in
theorem c_countOf {P : mP} {a : Nat} {t : Int32} (hT : Typ P) (ha : rl a = 3) : EvP 3 32 [.ref a, .int t] P (fun r P' => (∃ x : Int32, r = some (.int x) ∧ (-2147483648 : Int) ≤ x.toInt ∧ x.toInt ≤ 2147483647) ∧ Typ P' ∧ KX P P') := by
  refine EvP.of qm_32 (Nat.le_of_ble_eq_true rfl) rfl ?_
  show MEvP _ none q_32 0 [(0, .ref a), (1, .int t)] [] _ 0 0 _
  refine mp_a (a_iconst (v := 0) dX2_countOf_0 rfl) (mpp 1 rfl ?_)
  refine mp_a (a_istore_n (L' := [(2, .int 0), (0, .ref a), (1, .int t)]) dX2_countOf_1 (by decide) rfl) (mpp 2 rfl ?_)
  refine mp_a (a_iconst (v := 0) dX2_countOf_2 rfl) (mpp 3 rfl ?_)
  refine mp_a (a_istore_n (L' := [(3, .int 0), (2, .int 0), (0, .ref a), (1, .int t)]) dX2_countOf_3 (by decide) rfl) (mpp 4 rfl ?_)
  exact c_countOf_loop ha _ _ _ _ hT (KX.refl P) rfl

set_option maxHeartbeats 4000000 in
theorem c_hasCrease {P : mP} {a : Nat} {t : Int32} (hT : Typ P) (ha : rl a = 3) : EvP 2 29 [.ref a, .int t] P (fun r P' => (∃ x : Int32, r = some (.int x) ∧ (0 : Int) ≤ x.toInt ∧ x.toInt ≤ 1) ∧ P' = P) := by
  refine EvP.of qm_29 (Nat.le_of_ble_eq_true rfl) rfl ?_
  show MEvP _ none q_29 0 [(0, .ref a), (1, .int t)] [] _ 0 0 _
  refine mp_a (a_iload_n dX2_hasCrease_0 rfl) (mpp 1 rfl ?_)
  refine mp_Tb (t := 16) (j_if_lt dX2_hasCrease_1) (by decide) (fun c1 => ?_) (fun c1 => mpp 4 rfl ?_)
  · have c1 : t.toInt < 0 := ti_lt c1
    refine mp_a (a_iconst (v := 0) dX2_hasCrease_16 rfl) (mpp 17 rfl ?_)
    exact mp_iret (⟨⟨_, rfl, by decide, by decide⟩, rfl⟩) dX2_hasCrease_17 (Or.inr ⟨rfl, by decide⟩)
  · have c1 : t.toInt ≥ 0 := ti_lt_n c1
    refine mp_a (a_iload_n dX2_hasCrease_4 rfl) (mpp 5 rfl ?_)
    refine mp_a (a_aload_n dX2_hasCrease_5 rfl) (mpp 6 rfl ?_)
    refine mt_callv (i := 37) (q' := q_25) (As := []) (rest := [.int t]) hT dX2_hasCrease_6 rfl qm_25 (by decide) rfl ha (by decide) rfl (Nat.le_of_ble_eq_true rfl) rfl ⟨rfl, rfl⟩ ⟨Nat.le_of_ble_eq_true rfl, Nat.le_of_ble_eq_true rfl⟩ (EvP.mono (by decide) (c_creaseCount hT ha)) (fun r2 P3 g4 => mpp 9 rfl ?_)
    obtain ⟨⟨x5, rfl, g6, g7⟩, e8⟩ := g4
    have e8 := e8.symm
    subst e8
    show MEvP _ none q_29 9 [(0, .ref a), (1, .int t)] [.int x5, .int t] _ _ _ _
    refine mp_Tb (t := 16) (j_icmp_ge dX2_hasCrease_9) (by decide) (fun c10 => ?_) (fun c10 => mpp 12 rfl ?_)
    · have c10 : t.toInt ≥ x5.toInt := ti_ge c10
      refine mp_a (a_iconst (v := 0) dX2_hasCrease_16 rfl) (mpp 17 rfl ?_)
      exact mp_iret (⟨⟨_, rfl, by decide, by decide⟩, rfl⟩) dX2_hasCrease_17 (Or.inr ⟨rfl, by decide⟩)
    · have c10 : t.toInt < x5.toInt := ti_ge_n c10
      refine mp_a (a_iconst (v := 1) dX2_hasCrease_12 rfl) (mpp 13 rfl ?_)
      refine mp_a (a_goto (t := 17) dX2_hasCrease_13 (by decide)) ?_
      exact mp_iret (⟨⟨_, rfl, by decide, by decide⟩, rfl⟩) dX2_hasCrease_17 (Or.inr ⟨rfl, by decide⟩)

set_option maxHeartbeats 4000000 in
theorem c_isUndecided {P : mP} {a : Nat} (hT : Typ P) (ha : rl a = 3) : EvP 4 42 [.ref a] P (fun r P' => (∃ x : Int32, r = some (.int x) ∧ (0 : Int) ≤ x.toInt ∧ x.toInt ≤ 1) ∧ Typ P' ∧ KX P P') := by
  refine EvP.of qm_42 (Nat.le_of_ble_eq_true rfl) rfl ?_
  show MEvP _ none q_42 0 [(0, .ref a)] [] _ 0 0 _
  refine mp_a (a_aload_n dX2_isUndecided_0 rfl) (mpp 1 rfl ?_)
  refine mp_a (a_iconst (v := 0) dX2_isUndecided_1 rfl) (mpp 2 rfl ?_)
  refine mt_callv (i := 52) (q' := q_32) (As := [.int 0]) (rest := []) hT dX2_isUndecided_2 rfl qm_32 (by decide) rfl ha (by decide) rfl (Nat.le_of_ble_eq_true rfl) rfl ⟨rfl, rfl⟩ ⟨Nat.le_of_ble_eq_true rfl, Nat.le_of_ble_eq_true rfl⟩ (EvP.mono (by decide) (c_countOf hT ha)) (fun r1 P2 g3 => mpp 5 rfl ?_)
  obtain ⟨⟨x4, rfl, g5, g6⟩, e7, k8⟩ := g3
  have k9 := KX.trans (KX.refl P) k8
  show MEvP _ none q_42 5 [(0, .ref a)] [.int x4] _ _ _ _
  refine mp_Tb (t := 12) (j_if_le dX2_isUndecided_5) (by decide) (fun c10 => ?_) (fun c10 => mpp 8 rfl ?_)
  · have c10 : x4.toInt ≤ 0 := ti_le c10
    refine mp_a (a_iconst (v := 0) dX2_isUndecided_12 rfl) (mpp 13 rfl ?_)
    exact mp_iret (⟨⟨_, rfl, by decide, by decide⟩, e7, k9⟩) dX2_isUndecided_13 (Or.inr ⟨rfl, by decide⟩)
  · have c10 : x4.toInt > 0 := ti_le_n c10
    refine mp_a (a_iconst (v := 1) dX2_isUndecided_8 rfl) (mpp 9 rfl ?_)
    refine mp_a (a_goto (t := 13) dX2_isUndecided_9 (by decide)) ?_
    exact mp_iret (⟨⟨_, rfl, by decide, by decide⟩, e7, k9⟩) dX2_isUndecided_13 (Or.inr ⟨rfl, by decide⟩)

set_option maxHeartbeats 4000000 in
theorem c_turnOver_loop {Po : mP} {a : Nat} (ha : rl a = 3) : ∀ (n : Nat) (i s : Int32) (P : mP), Typ P → KX Po P → (8 - i.toInt).toNat = n → MEvP 2 none q_31 2 [(1, .int i), (2, .int s), (0, .ref a)] [] P 0 0 (fun r P' => r = none ∧ Typ P' ∧ KX Po P') := by
  intro n
  induction n using Nat.strongRecOn with | _ n ih => ?_
  intro i s P hT hK hm
  have w_i := ti_full i
  have w_s := ti_full s
  refine mp_a (a_iload_n dX2_turnOver_2 rfl) (mpp 3 rfl ?_)
  refine mp_a (a_aload_n dX2_turnOver_3 rfl) (mpp 4 rfl ?_)
  refine mt_callv (i := 37) (q' := q_25) (As := []) (rest := [.int i]) hT dX2_turnOver_4 rfl qm_25 (by decide) rfl ha (by decide) rfl (Nat.le_of_ble_eq_true rfl) rfl ⟨rfl, rfl⟩ ⟨Nat.le_of_ble_eq_true rfl, Nat.le_of_ble_eq_true rfl⟩ (EvP.mono (by decide) (c_creaseCount hT ha)) (fun r1 P2 g3 => mpp 7 rfl ?_)
  obtain ⟨⟨x4, rfl, g5, g6⟩, e7⟩ := g3
  have e7 := e7.symm
  subst e7
  show MEvP _ none q_31 7 [(1, .int i), (2, .int s), (0, .ref a)] [.int x4, .int i] _ _ _ _
  refine mp_Tb (t := 47) (j_icmp_ge dX2_turnOver_7) (by decide) (fun c9 => ?_) (fun c9 => mpp 10 rfl ?_)
  · have c9 : i.toInt ≥ x4.toInt := ti_ge c9
    exact mp_ret (⟨rfl, hT, hK⟩) dX2_turnOver_47 rfl
  · have c9 : i.toInt < x4.toInt := ti_ge_n c9
    refine mp_a (a_aload_n dX2_turnOver_10 rfl) (mpp 11 rfl ?_)
    refine mt_getR (i := 15) (k := 4) hT dX2_turnOver_11 rfl ha (by decide) rfl (by decide) rfl (fun q10 => mpp 14 rfl ?_)
    refine mp_a (a_iload_n dX2_turnOver_14 rfl) (mpp 15 rfl ?_)
    refine mp_calls (i := 48) (q' := q_12) (As := [.ref (rv P a 4), .int i]) (rest := []) dX2_turnOver_15 rfl qm_12 (by decide) rfl (Nat.le_of_ble_eq_true rfl) rfl ⟨rfl, rfl⟩ ⟨Nat.le_of_ble_eq_true rfl, Nat.le_of_ble_eq_true rfl⟩ (EvP.mono (by decide) (c_at_creases hT q10)) (fun r11 P12 g13 => mpp 18 rfl ?_)
    obtain ⟨⟨x14, rfl, g15, g16⟩, e17⟩ := g13
    have e17 := e17.symm
    subst e17
    show MEvP _ none q_31 18 [(1, .int i), (2, .int s), (0, .ref a)] [.int x14] _ _ _ _
    refine mp_a (a_istore_n (L' := [(2, .int x14), (1, .int i), (0, .ref a)]) dX2_turnOver_18 (by decide) rfl) (mpp 19 rfl ?_)
    refine mp_a (a_iload_n dX2_turnOver_19 rfl) (mpp 20 rfl ?_)
    refine mp_Tb (t := 41) (j_if_eq dX2_turnOver_20) (by decide) (fun c19 => ?_) (fun c19 => mpp 23 rfl ?_)
    · have c19 : x14.toInt = 0 := ti_eq c19
      refine mp_a (a_iinc (v := (i + 1)) (L' := [(1, .int (i + 1)), (2, .int x14), (0, .ref a)]) dX2_turnOver_41 (by decide) rfl rfl rfl) (mpp 44 rfl ?_)
      try have e20 : (i + 1).toInt = i.toInt + (1) := ti_add rfl rfl (by omega) (by omega)
      refine mp_a (a_goto (t := 2) dX2_turnOver_44 (by decide)) ?_
      exact ih _ (by omega) _ _ _ hT hK rfl
    · have c19 : x14.toInt ≠ 0 := ti_eq_n c19
      refine mp_a (a_aload_n dX2_turnOver_23 rfl) (mpp 24 rfl ?_)
      refine mt_getR (i := 15) (k := 4) hT dX2_turnOver_24 rfl ha (by decide) rfl (by decide) rfl (fun q21 => mpp 27 rfl ?_)
      refine mp_a (a_iload_n dX2_turnOver_27 rfl) (mpp 28 rfl ?_)
      refine mp_a (a_iload_n dX2_turnOver_28 rfl) (mpp 29 rfl ?_)
      refine mp_a (a_iconst (v := 1) dX2_turnOver_29 rfl) (mpp 30 rfl ?_)
      refine mp_Tb (t := 37) (j_icmp_ne dX2_turnOver_30) (by decide) (fun c22 => ?_) (fun c22 => mpp 33 rfl ?_)
      · have c22 : x14.toInt ≠ 1 := ti_ne c22
        refine mp_a (a_iconst (v := 1) dX2_turnOver_37 rfl) (mpp 38 rfl ?_)
        refine mp_calls (i := 29) (q' := q_22) (As := [.ref (rv P a 4), .int i, .int 1]) (rest := []) dX2_turnOver_38 rfl qm_22 (by decide) rfl (Nat.le_of_ble_eq_true rfl) rfl ⟨rfl, rfl⟩ ⟨Nat.le_of_ble_eq_true rfl, Nat.le_of_ble_eq_true rfl⟩ (EvP.mono (by decide) (c_put_creases hT q21)) (fun r23 P24 g25 => mpp 41 rfl ?_)
        obtain ⟨rfl, e27, k28⟩ := g25
        have k29 := KX.trans hK k28
        show MEvP _ none q_31 41 [(2, .int x14), (1, .int i), (0, .ref a)] [] _ _ _ _
        refine mp_a (a_iinc (v := (i + 1)) (L' := [(1, .int (i + 1)), (2, .int x14), (0, .ref a)]) dX2_turnOver_41 (by decide) rfl rfl rfl) (mpp 44 rfl ?_)
        try have e30 : (i + 1).toInt = i.toInt + (1) := ti_add rfl rfl (by omega) (by omega)
        refine mp_a (a_goto (t := 2) dX2_turnOver_44 (by decide)) ?_
        exact ih _ (by omega) _ _ _ e27 k29 rfl
      · have c22 : x14.toInt = 1 := ti_ne_n c22
        refine mp_a (a_iconst (v := 2) dX2_turnOver_33 rfl) (mpp 34 rfl ?_)
        refine mp_a (a_goto (t := 38) dX2_turnOver_34 (by decide)) ?_
        refine mp_calls (i := 29) (q' := q_22) (As := [.ref (rv P a 4), .int i, .int 2]) (rest := []) dX2_turnOver_38 rfl qm_22 (by decide) rfl (Nat.le_of_ble_eq_true rfl) rfl ⟨rfl, rfl⟩ ⟨Nat.le_of_ble_eq_true rfl, Nat.le_of_ble_eq_true rfl⟩ (EvP.mono (by decide) (c_put_creases hT q21)) (fun r31 P32 g33 => mpp 41 rfl ?_)
        obtain ⟨rfl, e35, k36⟩ := g33
        have k37 := KX.trans hK k36
        show MEvP _ none q_31 41 [(2, .int x14), (1, .int i), (0, .ref a)] [] _ _ _ _
        refine mp_a (a_iinc (v := (i + 1)) (L' := [(1, .int (i + 1)), (2, .int x14), (0, .ref a)]) dX2_turnOver_41 (by decide) rfl rfl rfl) (mpp 44 rfl ?_)
        try have e38 : (i + 1).toInt = i.toInt + (1) := ti_add rfl rfl (by omega) (by omega)
        refine mp_a (a_goto (t := 2) dX2_turnOver_44 (by decide)) ?_
        exact ih _ (by omega) _ _ _ e35 k37 rfl

set_option maxHeartbeats 4000000 in
theorem c_turnOver {P : mP} {a : Nat} (hT : Typ P) (ha : rl a = 3) : EvP 3 31 [.ref a] P (fun r P' => r = none ∧ Typ P' ∧ KX P P') := by
  refine EvP.of qm_31 (Nat.le_of_ble_eq_true rfl) rfl ?_
  show MEvP _ none q_31 0 [(0, .ref a)] [] _ 0 0 _
  refine mp_a (a_iconst (v := 0) dX2_turnOver_0 rfl) (mpp 1 rfl ?_)
  refine mp_a (a_istore_n (L' := [(1, .int 0), (0, .ref a)]) dX2_turnOver_1 (by decide) rfl) (mpp 2 rfl ?_)
  refine mp_a (a_iload_n dX2_turnOver_2 rfl) (mpp 3 rfl ?_)
  refine mp_a (a_aload_n dX2_turnOver_3 rfl) (mpp 4 rfl ?_)
  refine mt_callv (i := 37) (q' := q_25) (As := []) (rest := [.int 0]) hT dX2_turnOver_4 rfl qm_25 (by decide) rfl ha (by decide) rfl (Nat.le_of_ble_eq_true rfl) rfl ⟨rfl, rfl⟩ ⟨Nat.le_of_ble_eq_true rfl, Nat.le_of_ble_eq_true rfl⟩ (EvP.mono (by decide) (c_creaseCount hT ha)) (fun r1 P2 g3 => mpp 7 rfl ?_)
  obtain ⟨⟨x4, rfl, g5, g6⟩, e7⟩ := g3
  have e7 := e7.symm
  subst e7
  show MEvP _ none q_31 7 [(1, .int 0), (0, .ref a)] [.int x4, .int 0] _ _ _ _
  refine mp_Tb (t := 47) (j_icmp_ge dX2_turnOver_7) (by decide) (fun c9 => ?_) (fun c9 => mpp 10 rfl ?_)
  · have c9 : 0 ≥ x4.toInt := ti_ge c9
    exact mp_ret (⟨rfl, hT, (KX.refl P)⟩) dX2_turnOver_47 rfl
  · have c9 : 0 < x4.toInt := ti_ge_n c9
    refine mp_a (a_aload_n dX2_turnOver_10 rfl) (mpp 11 rfl ?_)
    refine mt_getR (i := 15) (k := 4) hT dX2_turnOver_11 rfl ha (by decide) rfl (by decide) rfl (fun q10 => mpp 14 rfl ?_)
    refine mp_a (a_iload_n dX2_turnOver_14 rfl) (mpp 15 rfl ?_)
    refine mp_calls (i := 48) (q' := q_12) (As := [.ref (rv P a 4), .int 0]) (rest := []) dX2_turnOver_15 rfl qm_12 (by decide) rfl (Nat.le_of_ble_eq_true rfl) rfl ⟨rfl, rfl⟩ ⟨Nat.le_of_ble_eq_true rfl, Nat.le_of_ble_eq_true rfl⟩ (EvP.mono (by decide) (c_at_creases hT q10)) (fun r11 P12 g13 => mpp 18 rfl ?_)
    obtain ⟨⟨x14, rfl, g15, g16⟩, e17⟩ := g13
    have e17 := e17.symm
    subst e17
    show MEvP _ none q_31 18 [(1, .int 0), (0, .ref a)] [.int x14] _ _ _ _
    refine mp_a (a_istore_n (L' := [(2, .int x14), (1, .int 0), (0, .ref a)]) dX2_turnOver_18 (by decide) rfl) (mpp 19 rfl ?_)
    refine mp_a (a_iload_n dX2_turnOver_19 rfl) (mpp 20 rfl ?_)
    refine mp_Tb (t := 41) (j_if_eq dX2_turnOver_20) (by decide) (fun c19 => ?_) (fun c19 => mpp 23 rfl ?_)
    · have c19 : x14.toInt = 0 := ti_eq c19
      refine mp_a (a_iinc (v := 1) (L' := [(1, .int 1), (2, .int x14), (0, .ref a)]) dX2_turnOver_41 (by decide) rfl rfl rfl) (mpp 44 rfl ?_)
      refine mp_a (a_goto (t := 2) dX2_turnOver_44 (by decide)) ?_
      exact c_turnOver_loop ha _ _ _ _ hT (KX.refl P) rfl
    · have c19 : x14.toInt ≠ 0 := ti_eq_n c19
      refine mp_a (a_aload_n dX2_turnOver_23 rfl) (mpp 24 rfl ?_)
      refine mt_getR (i := 15) (k := 4) hT dX2_turnOver_24 rfl ha (by decide) rfl (by decide) rfl (fun q20 => mpp 27 rfl ?_)
      refine mp_a (a_iload_n dX2_turnOver_27 rfl) (mpp 28 rfl ?_)
      refine mp_a (a_iload_n dX2_turnOver_28 rfl) (mpp 29 rfl ?_)
      refine mp_a (a_iconst (v := 1) dX2_turnOver_29 rfl) (mpp 30 rfl ?_)
      refine mp_Tb (t := 37) (j_icmp_ne dX2_turnOver_30) (by decide) (fun c21 => ?_) (fun c21 => mpp 33 rfl ?_)
      · have c21 : x14.toInt ≠ 1 := ti_ne c21
        refine mp_a (a_iconst (v := 1) dX2_turnOver_37 rfl) (mpp 38 rfl ?_)
        refine mp_calls (i := 29) (q' := q_22) (As := [.ref (rv P a 4), .int 0, .int 1]) (rest := []) dX2_turnOver_38 rfl qm_22 (by decide) rfl (Nat.le_of_ble_eq_true rfl) rfl ⟨rfl, rfl⟩ ⟨Nat.le_of_ble_eq_true rfl, Nat.le_of_ble_eq_true rfl⟩ (EvP.mono (by decide) (c_put_creases hT q20)) (fun r22 P23 g24 => mpp 41 rfl ?_)
        obtain ⟨rfl, e26, k27⟩ := g24
        have k28 := KX.trans (KX.refl P) k27
        show MEvP _ none q_31 41 [(2, .int x14), (1, .int 0), (0, .ref a)] [] _ _ _ _
        refine mp_a (a_iinc (v := 1) (L' := [(1, .int 1), (2, .int x14), (0, .ref a)]) dX2_turnOver_41 (by decide) rfl rfl rfl) (mpp 44 rfl ?_)
        refine mp_a (a_goto (t := 2) dX2_turnOver_44 (by decide)) ?_
        exact c_turnOver_loop ha _ _ _ _ e26 k28 rfl
      · have c21 : x14.toInt = 1 := ti_ne_n c21
        refine mp_a (a_iconst (v := 2) dX2_turnOver_33 rfl) (mpp 34 rfl ?_)
        refine mp_a (a_goto (t := 38) dX2_turnOver_34 (by decide)) ?_
        refine mp_calls (i := 29) (q' := q_22) (As := [.ref (rv P a 4), .int 0, .int 2]) (rest := []) dX2_turnOver_38 rfl qm_22 (by decide) rfl (Nat.le_of_ble_eq_true rfl) rfl ⟨rfl, rfl⟩ ⟨Nat.le_of_ble_eq_true rfl, Nat.le_of_ble_eq_true rfl⟩ (EvP.mono (by decide) (c_put_creases hT q20)) (fun r29 P30 g31 => mpp 41 rfl ?_)
        obtain ⟨rfl, e33, k34⟩ := g31
        have k35 := KX.trans (KX.refl P) k34
        show MEvP _ none q_31 41 [(2, .int x14), (1, .int 0), (0, .ref a)] [] _ _ _ _
        refine mp_a (a_iinc (v := 1) (L' := [(1, .int 1), (2, .int x14), (0, .ref a)]) dX2_turnOver_41 (by decide) rfl rfl rfl) (mpp 44 rfl ?_)
        refine mp_a (a_goto (t := 2) dX2_turnOver_44 (by decide)) ?_
        exact c_turnOver_loop ha _ _ _ _ e33 k35 rfl

set_option maxHeartbeats 4000000 in
theorem c_lowestUndecided_loop {Po : mP} {a : Nat} (ha : rl a = 3) : ∀ (n : Nat) (i s : Int32) (P : mP), Typ P → KX Po P → (8 - i.toInt).toNat = n → MEvP 2 none q_43 4 [(2, .int i), (1, .int s), (0, .ref a)] [] P 0 0 (fun r P' => (∃ x : Int32, r = some (.int x) ∧ (-2147483648 : Int) ≤ x.toInt ∧ x.toInt ≤ 2147483647) ∧ Typ P' ∧ KX Po P') := by
  intro n
  induction n using Nat.strongRecOn with | _ n ih => ?_
  intro i s P hT hK hm
  have w_i := ti_full i
  have w_s := ti_full s
  refine mp_a (a_iload_n dX2_lowestUndecided_4 rfl) (mpp 5 rfl ?_)
  refine mp_a (a_aload_n dX2_lowestUndecided_5 rfl) (mpp 6 rfl ?_)
  refine mt_callv (i := 37) (q' := q_25) (As := []) (rest := [.int i]) hT dX2_lowestUndecided_6 rfl qm_25 (by decide) rfl ha (by decide) rfl (Nat.le_of_ble_eq_true rfl) rfl ⟨rfl, rfl⟩ ⟨Nat.le_of_ble_eq_true rfl, Nat.le_of_ble_eq_true rfl⟩ (EvP.mono (by decide) (c_creaseCount hT ha)) (fun r1 P2 g3 => mpp 9 rfl ?_)
  obtain ⟨⟨x4, rfl, g5, g6⟩, e7⟩ := g3
  have e7 := e7.symm
  subst e7
  show MEvP _ none q_43 9 [(2, .int i), (1, .int s), (0, .ref a)] [.int x4, .int i] _ _ _ _
  refine mp_Tb (t := 33) (j_icmp_ge dX2_lowestUndecided_9) (by decide) (fun c9 => ?_) (fun c9 => mpp 12 rfl ?_)
  · have c9 : i.toInt ≥ x4.toInt := ti_ge c9
    refine mp_a (a_iload_n dX2_lowestUndecided_33 rfl) (mpp 34 rfl ?_)
    exact mp_iret (⟨⟨_, rfl, (ti_full _).1, (ti_full _).2⟩, hT, hK⟩) dX2_lowestUndecided_34 (Or.inl rfl)
  · have c9 : i.toInt < x4.toInt := ti_ge_n c9
    refine mp_a (a_aload_n dX2_lowestUndecided_12 rfl) (mpp 13 rfl ?_)
    refine mt_getR (i := 15) (k := 4) hT dX2_lowestUndecided_13 rfl ha (by decide) rfl (by decide) rfl (fun q10 => mpp 16 rfl ?_)
    refine mp_a (a_iload_n dX2_lowestUndecided_16 rfl) (mpp 17 rfl ?_)
    refine mp_calls (i := 48) (q' := q_12) (As := [.ref (rv P a 4), .int i]) (rest := []) dX2_lowestUndecided_17 rfl qm_12 (by decide) rfl (Nat.le_of_ble_eq_true rfl) rfl ⟨rfl, rfl⟩ ⟨Nat.le_of_ble_eq_true rfl, Nat.le_of_ble_eq_true rfl⟩ (EvP.mono (by decide) (c_at_creases hT q10)) (fun r11 P12 g13 => mpp 20 rfl ?_)
    obtain ⟨⟨x14, rfl, g15, g16⟩, e17⟩ := g13
    have e17 := e17.symm
    subst e17
    show MEvP _ none q_43 20 [(2, .int i), (1, .int s), (0, .ref a)] [.int x14] _ _ _ _
    refine mp_Tb (t := 33) (j_if_eq dX2_lowestUndecided_20) (by decide) (fun c19 => ?_) (fun c19 => mpp 23 rfl ?_)
    · have c19 : x14.toInt = 0 := ti_eq c19
      refine mp_a (a_iload_n dX2_lowestUndecided_33 rfl) (mpp 34 rfl ?_)
      exact mp_iret (⟨⟨_, rfl, (ti_full _).1, (ti_full _).2⟩, hT, hK⟩) dX2_lowestUndecided_34 (Or.inl rfl)
    · have c19 : x14.toInt ≠ 0 := ti_eq_n c19
      refine mp_a (a_iload_n dX2_lowestUndecided_23 rfl) (mpp 24 rfl ?_)
      refine mp_a (a_iconst (v := 1) dX2_lowestUndecided_24 rfl) (mpp 25 rfl ?_)
      refine mp_t (s_iadd (v := (i + 1)) dX2_lowestUndecided_25 rfl) (mpp 26 rfl ?_)
      try have e20 : (i + 1).toInt = i.toInt + 1 := ti_add rfl rfl (by omega) (by omega)
      refine mp_a (a_istore_n (L' := [(1, .int (i + 1)), (2, .int i), (0, .ref a)]) dX2_lowestUndecided_26 (by decide) rfl) (mpp 27 rfl ?_)
      refine mp_a (a_iinc (v := (i + 1)) (L' := [(2, .int (i + 1)), (1, .int (i + 1)), (0, .ref a)]) dX2_lowestUndecided_27 (by decide) rfl rfl rfl) (mpp 30 rfl ?_)
      try have e21 : (i + 1).toInt = i.toInt + (1) := ti_add rfl rfl (by omega) (by omega)
      refine mp_a (a_goto (t := 4) dX2_lowestUndecided_30 (by decide)) ?_
      exact ih _ (by omega) _ _ _ hT hK rfl

set_option maxHeartbeats 4000000 in
theorem c_lowestUndecided {P : mP} {a : Nat} (hT : Typ P) (ha : rl a = 3) : EvP 3 43 [.ref a] P (fun r P' => (∃ x : Int32, r = some (.int x) ∧ (-2147483648 : Int) ≤ x.toInt ∧ x.toInt ≤ 2147483647) ∧ Typ P' ∧ KX P P') := by
  refine EvP.of qm_43 (Nat.le_of_ble_eq_true rfl) rfl ?_
  show MEvP _ none q_43 0 [(0, .ref a)] [] _ 0 0 _
  refine mp_a (a_iconst (v := 0) dX2_lowestUndecided_0 rfl) (mpp 1 rfl ?_)
  refine mp_a (a_istore_n (L' := [(1, .int 0), (0, .ref a)]) dX2_lowestUndecided_1 (by decide) rfl) (mpp 2 rfl ?_)
  refine mp_a (a_iconst (v := 0) dX2_lowestUndecided_2 rfl) (mpp 3 rfl ?_)
  refine mp_a (a_istore_n (L' := [(2, .int 0), (1, .int 0), (0, .ref a)]) dX2_lowestUndecided_3 (by decide) rfl) (mpp 4 rfl ?_)
  exact c_lowestUndecided_loop ha _ _ _ _ hT (KX.refl P) rfl

set_option maxHeartbeats 4000000 in
theorem c_copyRow_sizes_sizes_loop {Po : mP} {a b : Nat} (ha : rl a = 4) (hb : rl b = 4) : ∀ (n : Nat) (i : Int32) (P : mP), Typ P → KX Po P → 0 ≤ i.toInt → (8 - i.toInt).toNat = n → MEvP 0 none q_19 2 [(2, .int i), (0, .ref a), (1, .ref b)] [] P 0 0 (fun r P' => r = none ∧ Typ P' ∧ KX Po P') := by
  intro n
  induction n using Nat.strongRecOn with | _ n ih => ?_
  intro i P hT hK hI hm
  have w_i := ti_full i
  refine mp_a (a_iload_n dX6_copyRow_2 rfl) (mpp 3 rfl ?_)
  refine mp_a (a_aload_n dX6_copyRow_3 rfl) (mpp 4 rfl ?_)
  refine mt_len (n := 8) hT dX6_copyRow_4 ha (by decide) (by decide) rfl (mpp 5 rfl ?_)
  refine mp_Tb (t := 26) (j_icmp_ge dX6_copyRow_5) (by decide) (fun c1 => ?_) (fun c1 => mpp 8 rfl ?_)
  · have c1 : i.toInt ≥ 8 := ti_ge c1
    exact mp_ret (⟨rfl, hT, hK⟩) dX6_copyRow_26 rfl
  · have c1 : i.toInt < 8 := ti_ge_n c1
    refine mp_a (a_iload_n dX6_copyRow_8 rfl) (mpp 9 rfl ?_)
    refine mp_a (a_aload_n dX6_copyRow_9 rfl) (mpp 10 rfl ?_)
    refine mt_len (n := 8) hT dX6_copyRow_10 hb (by decide) (by decide) rfl (mpp 11 rfl ?_)
    refine mp_Tb (t := 26) (j_icmp_ge dX6_copyRow_11) (by decide) (fun c2 => ?_) (fun c2 => mpp 14 rfl ?_)
    · have c2 : i.toInt ≥ 8 := ti_ge c2
      exact mp_ret (⟨rfl, hT, hK⟩) dX6_copyRow_26 rfl
    · have c2 : i.toInt < 8 := ti_ge_n c2
      refine mp_a (a_aload_n dX6_copyRow_14 rfl) (mpp 15 rfl ?_)
      refine mp_a (a_iload_n dX6_copyRow_15 rfl) (mpp 16 rfl ?_)
      refine mp_a (a_aload_n dX6_copyRow_16 rfl) (mpp 17 rfl ?_)
      refine mp_a (a_iload_n dX6_copyRow_17 rfl) (mpp 18 rfl ?_)
      refine mt_ial (n := 8) hT dX6_copyRow_18 ha (by decide) rfl rfl (by omega) (by omega) rfl (fun g3 g4 => mpp 19 rfl ?_)
      refine mt_ias (n := 8) hT dX6_copyRow_19 hb (by decide) rfl rfl (by omega) (by omega) rfl (ti_full (fv P a i.toInt.toNat)) (fun P5 hT6 f7 f8 => mpp 20 rfl ?_)
      have k9 := KX.step hK hb (by decide) f8
      refine mp_a (a_iinc (v := (i + 1)) (L' := [(2, .int (i + 1)), (0, .ref a), (1, .ref b)]) dX6_copyRow_20 (by decide) rfl rfl rfl) (mpp 23 rfl ?_)
      try have e10 : (i + 1).toInt = i.toInt + (1) := ti_add rfl rfl (by omega) (by omega)
      refine mp_a (a_goto (t := 2) dX6_copyRow_23 (by decide)) ?_
      exact ih _ (by omega) _ _ hT6 k9 (by first | decide | omega) rfl

set_option maxHeartbeats 4000000 in
theorem c_copyRow_sizes_sizes {P : mP} {a b : Nat} (hT : Typ P) (ha : rl a = 4) (hb : rl b = 4) : EvP 1 19 [.ref a, .ref b] P (fun r P' => r = none ∧ Typ P' ∧ KX P P') := by
  refine EvP.of qm_19 (Nat.le_of_ble_eq_true rfl) rfl ?_
  show MEvP _ none q_19 0 [(0, .ref a), (1, .ref b)] [] _ 0 0 _
  refine mp_a (a_iconst (v := 0) dX6_copyRow_0 rfl) (mpp 1 rfl ?_)
  refine mp_a (a_istore_n (L' := [(2, .int 0), (0, .ref a), (1, .ref b)]) dX6_copyRow_1 (by decide) rfl) (mpp 2 rfl ?_)
  exact c_copyRow_sizes_sizes_loop ha hb _ _ _ hT (KX.refl P) (by first | decide | omega) rfl

set_option maxHeartbeats 4000000 in
theorem c_copyRow_creases_creases_loop {Po : mP} {a b : Nat} (ha : rl a = 5) (hb : rl b = 5) : ∀ (n : Nat) (i : Int32) (P : mP), Typ P → KX Po P → 0 ≤ i.toInt → (8 - i.toInt).toNat = n → MEvP 0 none q_19 2 [(2, .int i), (0, .ref a), (1, .ref b)] [] P 0 0 (fun r P' => r = none ∧ Typ P' ∧ KX Po P') := by
  intro n
  induction n using Nat.strongRecOn with | _ n ih => ?_
  intro i P hT hK hI hm
  have w_i := ti_full i
  refine mp_a (a_iload_n dX6_copyRow_2 rfl) (mpp 3 rfl ?_)
  refine mp_a (a_aload_n dX6_copyRow_3 rfl) (mpp 4 rfl ?_)
  refine mt_len (n := 8) hT dX6_copyRow_4 ha (by decide) (by decide) rfl (mpp 5 rfl ?_)
  refine mp_Tb (t := 26) (j_icmp_ge dX6_copyRow_5) (by decide) (fun c1 => ?_) (fun c1 => mpp 8 rfl ?_)
  · have c1 : i.toInt ≥ 8 := ti_ge c1
    exact mp_ret (⟨rfl, hT, hK⟩) dX6_copyRow_26 rfl
  · have c1 : i.toInt < 8 := ti_ge_n c1
    refine mp_a (a_iload_n dX6_copyRow_8 rfl) (mpp 9 rfl ?_)
    refine mp_a (a_aload_n dX6_copyRow_9 rfl) (mpp 10 rfl ?_)
    refine mt_len (n := 8) hT dX6_copyRow_10 hb (by decide) (by decide) rfl (mpp 11 rfl ?_)
    refine mp_Tb (t := 26) (j_icmp_ge dX6_copyRow_11) (by decide) (fun c2 => ?_) (fun c2 => mpp 14 rfl ?_)
    · have c2 : i.toInt ≥ 8 := ti_ge c2
      exact mp_ret (⟨rfl, hT, hK⟩) dX6_copyRow_26 rfl
    · have c2 : i.toInt < 8 := ti_ge_n c2
      refine mp_a (a_aload_n dX6_copyRow_14 rfl) (mpp 15 rfl ?_)
      refine mp_a (a_iload_n dX6_copyRow_15 rfl) (mpp 16 rfl ?_)
      refine mp_a (a_aload_n dX6_copyRow_16 rfl) (mpp 17 rfl ?_)
      refine mp_a (a_iload_n dX6_copyRow_17 rfl) (mpp 18 rfl ?_)
      refine mt_ial (n := 8) hT dX6_copyRow_18 ha (by decide) rfl rfl (by omega) (by omega) rfl (fun g3 g4 => mpp 19 rfl ?_)
      refine mt_ias (n := 8) hT dX6_copyRow_19 hb (by decide) rfl rfl (by omega) (by omega) rfl (ti_full (fv P a i.toInt.toNat)) (fun P5 hT6 f7 f8 => mpp 20 rfl ?_)
      have k9 := KX.step hK hb (by decide) f8
      refine mp_a (a_iinc (v := (i + 1)) (L' := [(2, .int (i + 1)), (0, .ref a), (1, .ref b)]) dX6_copyRow_20 (by decide) rfl rfl rfl) (mpp 23 rfl ?_)
      try have e10 : (i + 1).toInt = i.toInt + (1) := ti_add rfl rfl (by omega) (by omega)
      refine mp_a (a_goto (t := 2) dX6_copyRow_23 (by decide)) ?_
      exact ih _ (by omega) _ _ hT6 k9 (by first | decide | omega) rfl

set_option maxHeartbeats 4000000 in
theorem c_copyRow_creases_creases {P : mP} {a b : Nat} (hT : Typ P) (ha : rl a = 5) (hb : rl b = 5) : EvP 1 19 [.ref a, .ref b] P (fun r P' => r = none ∧ Typ P' ∧ KX P P') := by
  refine EvP.of qm_19 (Nat.le_of_ble_eq_true rfl) rfl ?_
  show MEvP _ none q_19 0 [(0, .ref a), (1, .ref b)] [] _ 0 0 _
  refine mp_a (a_iconst (v := 0) dX6_copyRow_0 rfl) (mpp 1 rfl ?_)
  refine mp_a (a_istore_n (L' := [(2, .int 0), (0, .ref a), (1, .ref b)]) dX6_copyRow_1 (by decide) rfl) (mpp 2 rfl ?_)
  exact c_copyRow_creases_creases_loop ha hb _ _ _ hT (KX.refl P) (by first | decide | omega) rfl

set_option maxHeartbeats 4000000 in
theorem c_copyRow_sizes_rsizes_loop {Po : mP} {a b : Nat} (ha : rl a = 4) (hb : rl b = 11) : ∀ (n : Nat) (i : Int32) (P : mP), Typ P → KX Po P → 0 ≤ i.toInt → (8 - i.toInt).toNat = n → MEvP 0 none q_19 2 [(2, .int i), (0, .ref a), (1, .ref b)] [] P 0 0 (fun r P' => r = none ∧ Typ P' ∧ KX Po P') := by
  intro n
  induction n using Nat.strongRecOn with | _ n ih => ?_
  intro i P hT hK hI hm
  have w_i := ti_full i
  refine mp_a (a_iload_n dX6_copyRow_2 rfl) (mpp 3 rfl ?_)
  refine mp_a (a_aload_n dX6_copyRow_3 rfl) (mpp 4 rfl ?_)
  refine mt_len (n := 8) hT dX6_copyRow_4 ha (by decide) (by decide) rfl (mpp 5 rfl ?_)
  refine mp_Tb (t := 26) (j_icmp_ge dX6_copyRow_5) (by decide) (fun c1 => ?_) (fun c1 => mpp 8 rfl ?_)
  · have c1 : i.toInt ≥ 8 := ti_ge c1
    exact mp_ret (⟨rfl, hT, hK⟩) dX6_copyRow_26 rfl
  · have c1 : i.toInt < 8 := ti_ge_n c1
    refine mp_a (a_iload_n dX6_copyRow_8 rfl) (mpp 9 rfl ?_)
    refine mp_a (a_aload_n dX6_copyRow_9 rfl) (mpp 10 rfl ?_)
    refine mt_len (n := 8) hT dX6_copyRow_10 hb (by decide) (by decide) rfl (mpp 11 rfl ?_)
    refine mp_Tb (t := 26) (j_icmp_ge dX6_copyRow_11) (by decide) (fun c2 => ?_) (fun c2 => mpp 14 rfl ?_)
    · have c2 : i.toInt ≥ 8 := ti_ge c2
      exact mp_ret (⟨rfl, hT, hK⟩) dX6_copyRow_26 rfl
    · have c2 : i.toInt < 8 := ti_ge_n c2
      refine mp_a (a_aload_n dX6_copyRow_14 rfl) (mpp 15 rfl ?_)
      refine mp_a (a_iload_n dX6_copyRow_15 rfl) (mpp 16 rfl ?_)
      refine mp_a (a_aload_n dX6_copyRow_16 rfl) (mpp 17 rfl ?_)
      refine mp_a (a_iload_n dX6_copyRow_17 rfl) (mpp 18 rfl ?_)
      refine mt_ial (n := 8) hT dX6_copyRow_18 ha (by decide) rfl rfl (by omega) (by omega) rfl (fun g3 g4 => mpp 19 rfl ?_)
      refine mt_ias (n := 8) hT dX6_copyRow_19 hb (by decide) rfl rfl (by omega) (by omega) rfl (ti_full (fv P a i.toInt.toNat)) (fun P5 hT6 f7 f8 => mpp 20 rfl ?_)
      have k9 := KX.step hK hb (by decide) f8
      refine mp_a (a_iinc (v := (i + 1)) (L' := [(2, .int (i + 1)), (0, .ref a), (1, .ref b)]) dX6_copyRow_20 (by decide) rfl rfl rfl) (mpp 23 rfl ?_)
      try have e10 : (i + 1).toInt = i.toInt + (1) := ti_add rfl rfl (by omega) (by omega)
      refine mp_a (a_goto (t := 2) dX6_copyRow_23 (by decide)) ?_
      exact ih _ (by omega) _ _ hT6 k9 (by first | decide | omega) rfl

set_option maxHeartbeats 4000000 in
theorem c_copyRow_sizes_rsizes {P : mP} {a b : Nat} (hT : Typ P) (ha : rl a = 4) (hb : rl b = 11) : EvP 1 19 [.ref a, .ref b] P (fun r P' => r = none ∧ Typ P' ∧ KX P P') := by
  refine EvP.of qm_19 (Nat.le_of_ble_eq_true rfl) rfl ?_
  show MEvP _ none q_19 0 [(0, .ref a), (1, .ref b)] [] _ 0 0 _
  refine mp_a (a_iconst (v := 0) dX6_copyRow_0 rfl) (mpp 1 rfl ?_)
  refine mp_a (a_istore_n (L' := [(2, .int 0), (0, .ref a), (1, .ref b)]) dX6_copyRow_1 (by decide) rfl) (mpp 2 rfl ?_)
  exact c_copyRow_sizes_rsizes_loop ha hb _ _ _ hT (KX.refl P) (by first | decide | omega) rfl

set_option maxHeartbeats 4000000 in
theorem c_copyRow_creases_lcreases_loop {Po : mP} {a b : Nat} (ha : rl a = 5) (hb : rl b = 16) : ∀ (n : Nat) (i : Int32) (P : mP), Typ P → KX Po P → 0 ≤ i.toInt → (8 - i.toInt).toNat = n → MEvP 0 none q_19 2 [(2, .int i), (0, .ref a), (1, .ref b)] [] P 0 0 (fun r P' => r = none ∧ Typ P' ∧ KX Po P') := by
  intro n
  induction n using Nat.strongRecOn with | _ n ih => ?_
  intro i P hT hK hI hm
  have w_i := ti_full i
  refine mp_a (a_iload_n dX6_copyRow_2 rfl) (mpp 3 rfl ?_)
  refine mp_a (a_aload_n dX6_copyRow_3 rfl) (mpp 4 rfl ?_)
  refine mt_len (n := 8) hT dX6_copyRow_4 ha (by decide) (by decide) rfl (mpp 5 rfl ?_)
  refine mp_Tb (t := 26) (j_icmp_ge dX6_copyRow_5) (by decide) (fun c1 => ?_) (fun c1 => mpp 8 rfl ?_)
  · have c1 : i.toInt ≥ 8 := ti_ge c1
    exact mp_ret (⟨rfl, hT, hK⟩) dX6_copyRow_26 rfl
  · have c1 : i.toInt < 8 := ti_ge_n c1
    refine mp_a (a_iload_n dX6_copyRow_8 rfl) (mpp 9 rfl ?_)
    refine mp_a (a_aload_n dX6_copyRow_9 rfl) (mpp 10 rfl ?_)
    refine mt_len (n := 8) hT dX6_copyRow_10 hb (by decide) (by decide) rfl (mpp 11 rfl ?_)
    refine mp_Tb (t := 26) (j_icmp_ge dX6_copyRow_11) (by decide) (fun c2 => ?_) (fun c2 => mpp 14 rfl ?_)
    · have c2 : i.toInt ≥ 8 := ti_ge c2
      exact mp_ret (⟨rfl, hT, hK⟩) dX6_copyRow_26 rfl
    · have c2 : i.toInt < 8 := ti_ge_n c2
      refine mp_a (a_aload_n dX6_copyRow_14 rfl) (mpp 15 rfl ?_)
      refine mp_a (a_iload_n dX6_copyRow_15 rfl) (mpp 16 rfl ?_)
      refine mp_a (a_aload_n dX6_copyRow_16 rfl) (mpp 17 rfl ?_)
      refine mp_a (a_iload_n dX6_copyRow_17 rfl) (mpp 18 rfl ?_)
      refine mt_ial (n := 8) hT dX6_copyRow_18 ha (by decide) rfl rfl (by omega) (by omega) rfl (fun g3 g4 => mpp 19 rfl ?_)
      refine mt_ias (n := 8) hT dX6_copyRow_19 hb (by decide) rfl rfl (by omega) (by omega) rfl (ti_full (fv P a i.toInt.toNat)) (fun P5 hT6 f7 f8 => mpp 20 rfl ?_)
      have k9 := KX.step hK hb (by decide) f8
      refine mp_a (a_iinc (v := (i + 1)) (L' := [(2, .int (i + 1)), (0, .ref a), (1, .ref b)]) dX6_copyRow_20 (by decide) rfl rfl rfl) (mpp 23 rfl ?_)
      try have e10 : (i + 1).toInt = i.toInt + (1) := ti_add rfl rfl (by omega) (by omega)
      refine mp_a (a_goto (t := 2) dX6_copyRow_23 (by decide)) ?_
      exact ih _ (by omega) _ _ hT6 k9 (by first | decide | omega) rfl

set_option maxHeartbeats 4000000 in
theorem c_copyRow_creases_lcreases {P : mP} {a b : Nat} (hT : Typ P) (ha : rl a = 5) (hb : rl b = 16) : EvP 1 19 [.ref a, .ref b] P (fun r P' => r = none ∧ Typ P' ∧ KX P P') := by
  refine EvP.of qm_19 (Nat.le_of_ble_eq_true rfl) rfl ?_
  show MEvP _ none q_19 0 [(0, .ref a), (1, .ref b)] [] _ 0 0 _
  refine mp_a (a_iconst (v := 0) dX6_copyRow_0 rfl) (mpp 1 rfl ?_)
  refine mp_a (a_istore_n (L' := [(2, .int 0), (0, .ref a), (1, .ref b)]) dX6_copyRow_1 (by decide) rfl) (mpp 2 rfl ?_)
  exact c_copyRow_creases_lcreases_loop ha hb _ _ _ hT (KX.refl P) (by first | decide | omega) rfl

