theorem dX4_init_0 : decode cX4_init 0 = .ok (.aload_n 0, 1) := by decide +kernel
theorem dX4_init_1 : decode cX4_init 1 = .ok (.invokespecial 1, 3) := by decide +kernel
theorem dX4_init_4 : decode cX4_init 4 = .ok (.aload_n 0, 1) := by decide +kernel
theorem dX4_init_5 : decode cX4_init 5 = .ok (.iconst 5, 1) := by decide +kernel
theorem dX4_init_6 : decode cX4_init 6 = .ok (.putfield 7, 3) := by decide +kernel
theorem dX4_init_9 : decode cX4_init 9 = .ok (.aload_n 0, 1) := by decide +kernel
theorem dX4_init_10 : decode cX4_init 10 = .ok (.bipush 16, 2) := by decide +kernel
theorem dX4_init_12 : decode cX4_init 12 = .ok (.newarray .int, 2) := by decide +kernel
theorem dX4_init_14 : decode cX4_init 14 = .ok (.putfield 13, 3) := by decide +kernel
theorem dX4_init_17 : decode cX4_init 17 = .ok (.aload_n 0, 1) := by decide +kernel
theorem dX4_init_18 : decode cX4_init 18 = .ok (.bipush 10, 2) := by decide +kernel
theorem dX4_init_20 : decode cX4_init 20 = .ok (.newarray .int, 2) := by decide +kernel
theorem dX4_init_22 : decode cX4_init 22 = .ok (.putfield 17, 3) := by decide +kernel
theorem dX4_init_25 : decode cX4_init 25 = .ok (.return_, 1) := by decide +kernel
theorem dX4_thrown_0 : decode cX4_thrown 0 = .ok (.aload_n 0, 1) := by decide +kernel
theorem dX4_thrown_1 : decode cX4_thrown 1 = .ok (.getfield 20, 3) := by decide +kernel
theorem dX4_thrown_4 : decode cX4_thrown 4 = .ok (.ireturn, 1) := by decide +kernel
theorem dX4_no_0 : decode cX4_no 0 = .ok (.aload_n 0, 1) := by decide +kernel
theorem dX4_no_1 : decode cX4_no 1 = .ok (.iload_n 1, 1) := by decide +kernel
theorem dX4_no_2 : decode cX4_no 2 = .ok (.putfield 20, 3) := by decide +kernel
theorem dX4_no_5 : decode cX4_no 5 = .ok (.iconst 0, 1) := by decide +kernel
theorem dX4_no_6 : decode cX4_no 6 = .ok (.ireturn, 1) := by decide +kernel
theorem dX4_isIn_0 : decode cX4_isIn 0 = .ok (.iload_n 0, 1) := by decide +kernel
theorem dX4_isIn_1 : decode cX4_isIn 1 = .ok (.iload_n 1, 1) := by decide +kernel
theorem dX4_isIn_2 : decode cX4_isIn 2 = .ok (.if_icmp .lt 12, 3) := by decide +kernel
theorem dX4_isIn_5 : decode cX4_isIn 5 = .ok (.iload_n 0, 1) := by decide +kernel
theorem dX4_isIn_6 : decode cX4_isIn 6 = .ok (.iload_n 2, 1) := by decide +kernel
theorem dX4_isIn_7 : decode cX4_isIn 7 = .ok (.if_icmp .gt 7, 3) := by decide +kernel
theorem dX4_isIn_10 : decode cX4_isIn 10 = .ok (.iconst 1, 1) := by decide +kernel
theorem dX4_isIn_11 : decode cX4_isIn 11 = .ok (.goto 4, 3) := by decide +kernel
theorem dX4_isIn_14 : decode cX4_isIn 14 = .ok (.iconst 0, 1) := by decide +kernel
theorem dX4_isIn_15 : decode cX4_isIn 15 = .ok (.ireturn, 1) := by decide +kernel
theorem dX4_isChange_0 : decode cX4_isChange 0 = .ok (.iload_n 1, 1) := by decide +kernel
theorem dX4_isChange_1 : decode cX4_isChange 1 = .ok (.iconst 0, 1) := by decide +kernel
theorem dX4_isChange_2 : decode cX4_isChange 2 = .ok (.aload_n 0, 1) := by decide +kernel
theorem dX4_isChange_3 : decode cX4_isChange 3 = .ok (.getfield 23, 3) := by decide +kernel
theorem dX4_isChange_6 : decode cX4_isChange 6 = .ok (.iconst 1, 1) := by decide +kernel
theorem dX4_isChange_7 : decode cX4_isChange 7 = .ok (.isub, 1) := by decide +kernel
theorem dX4_isChange_8 : decode cX4_isChange 8 = .ok (.invokestatic 26, 3) := by decide +kernel
theorem dX4_isChange_11 : decode cX4_isChange 11 = .ok (.ireturn, 1) := by decide +kernel
theorem dX4_isPlace_0 : decode cX4_isPlace 0 = .ok (.iload_n 1, 1) := by decide +kernel
theorem dX4_isPlace_1 : decode cX4_isPlace 1 = .ok (.iconst 0, 1) := by decide +kernel
theorem dX4_isPlace_2 : decode cX4_isPlace 2 = .ok (.aload_n 0, 1) := by decide +kernel
theorem dX4_isPlace_3 : decode cX4_isPlace 3 = .ok (.getfield 7, 3) := by decide +kernel
theorem dX4_isPlace_6 : decode cX4_isPlace 6 = .ok (.iconst 1, 1) := by decide +kernel
theorem dX4_isPlace_7 : decode cX4_isPlace 7 = .ok (.isub, 1) := by decide +kernel
theorem dX4_isPlace_8 : decode cX4_isPlace 8 = .ok (.invokestatic 26, 3) := by decide +kernel
theorem dX4_isPlace_11 : decode cX4_isPlace 11 = .ok (.ireturn, 1) := by decide +kernel
theorem dX4_product_0 : decode cX4_product 0 = .ok (.iload_n 0, 1) := by decide +kernel
theorem dX4_product_1 : decode cX4_product 1 = .ok (.iconst 2, 1) := by decide +kernel
theorem dX4_product_2 : decode cX4_product 2 = .ok (.if_icmp .ge 7, 3) := by decide +kernel
theorem dX4_product_5 : decode cX4_product 5 = .ok (.iconst 1, 1) := by decide +kernel
theorem dX4_product_6 : decode cX4_product 6 = .ok (.goto 11, 3) := by decide +kernel
theorem dX4_product_9 : decode cX4_product 9 = .ok (.iload_n 0, 1) := by decide +kernel
theorem dX4_product_10 : decode cX4_product 10 = .ok (.iload_n 0, 1) := by decide +kernel
theorem dX4_product_11 : decode cX4_product 11 = .ok (.iconst 1, 1) := by decide +kernel
theorem dX4_product_12 : decode cX4_product 12 = .ok (.isub, 1) := by decide +kernel
theorem dX4_product_13 : decode cX4_product 13 = .ok (.invokestatic 30, 3) := by decide +kernel
theorem dX4_product_16 : decode cX4_product 16 = .ok (.imul, 1) := by decide +kernel
theorem dX4_product_17 : decode cX4_product 17 = .ok (.ireturn, 1) := by decide +kernel
theorem dX4_row_0 : decode cX4_row 0 = .ok (.aload_n 0, 1) := by decide +kernel
theorem dX4_row_1 : decode cX4_row 1 = .ok (.getfield 7, 3) := by decide +kernel
theorem dX4_row_4 : decode cX4_row 4 = .ok (.newarray .int, 2) := by decide +kernel
theorem dX4_row_6 : decode cX4_row 6 = .ok (.astore_n 2, 1) := by decide +kernel
theorem dX4_row_7 : decode cX4_row 7 = .ok (.iconst 1, 1) := by decide +kernel
theorem dX4_row_8 : decode cX4_row 8 = .ok (.aload_n 0, 1) := by decide +kernel
theorem dX4_row_9 : decode cX4_row 9 = .ok (.getfield 7, 3) := by decide +kernel
theorem dX4_row_12 : decode cX4_row 12 = .ok (.ishl, 1) := by decide +kernel
theorem dX4_row_13 : decode cX4_row 13 = .ok (.iconst 1, 1) := by decide +kernel
theorem dX4_row_14 : decode cX4_row 14 = .ok (.isub, 1) := by decide +kernel
theorem dX4_row_15 : decode cX4_row 15 = .ok (.istore_n 3, 1) := by decide +kernel
theorem dX4_row_16 : decode cX4_row 16 = .ok (.iload_n 1, 1) := by decide +kernel
theorem dX4_row_17 : decode cX4_row 17 = .ok (.istore 4, 2) := by decide +kernel
theorem dX4_row_19 : decode cX4_row 19 = .ok (.iconst 0, 1) := by decide +kernel
theorem dX4_row_20 : decode cX4_row 20 = .ok (.istore 5, 2) := by decide +kernel
theorem dX4_row_22 : decode cX4_row 22 = .ok (.iload 5, 2) := by decide +kernel
theorem dX4_row_24 : decode cX4_row 24 = .ok (.aload_n 0, 1) := by decide +kernel
theorem dX4_row_25 : decode cX4_row 25 = .ok (.getfield 7, 3) := by decide +kernel
theorem dX4_row_28 : decode cX4_row 28 = .ok (.if_icmp .ge 56, 3) := by decide +kernel
theorem dX4_row_31 : decode cX4_row 31 = .ok (.aload_n 0, 1) := by decide +kernel
theorem dX4_row_32 : decode cX4_row 32 = .ok (.getfield 7, 3) := by decide +kernel
theorem dX4_row_35 : decode cX4_row 35 = .ok (.iconst 1, 1) := by decide +kernel
theorem dX4_row_36 : decode cX4_row 36 = .ok (.isub, 1) := by decide +kernel
theorem dX4_row_37 : decode cX4_row 37 = .ok (.iload 5, 2) := by decide +kernel
theorem dX4_row_39 : decode cX4_row 39 = .ok (.isub, 1) := by decide +kernel
theorem dX4_row_40 : decode cX4_row 40 = .ok (.invokestatic 30, 3) := by decide +kernel
theorem dX4_row_43 : decode cX4_row 43 = .ok (.istore 6, 2) := by decide +kernel
theorem dX4_row_45 : decode cX4_row 45 = .ok (.iload_n 3, 1) := by decide +kernel
theorem dX4_row_46 : decode cX4_row 46 = .ok (.iload 4, 2) := by decide +kernel
theorem dX4_row_48 : decode cX4_row 48 = .ok (.iload 6, 2) := by decide +kernel
theorem dX4_row_50 : decode cX4_row 50 = .ok (.idiv, 1) := by decide +kernel
theorem dX4_row_51 : decode cX4_row 51 = .ok (.invokestatic 34, 3) := by decide +kernel
theorem dX4_row_54 : decode cX4_row 54 = .ok (.istore 7, 2) := by decide +kernel
theorem dX4_row_56 : decode cX4_row 56 = .ok (.aload_n 2, 1) := by decide +kernel
theorem dX4_row_57 : decode cX4_row 57 = .ok (.iload 5, 2) := by decide +kernel
theorem dX4_row_59 : decode cX4_row 59 = .ok (.iload 7, 2) := by decide +kernel
theorem dX4_row_61 : decode cX4_row 61 = .ok (.iastore, 1) := by decide +kernel
theorem dX4_row_62 : decode cX4_row 62 = .ok (.iload_n 3, 1) := by decide +kernel
theorem dX4_row_63 : decode cX4_row 63 = .ok (.iconst 1, 1) := by decide +kernel
theorem dX4_row_64 : decode cX4_row 64 = .ok (.iload 7, 2) := by decide +kernel
theorem dX4_row_66 : decode cX4_row 66 = .ok (.ishl, 1) := by decide +kernel
theorem dX4_row_67 : decode cX4_row 67 = .ok (.iconst (-1), 1) := by decide +kernel
theorem dX4_row_68 : decode cX4_row 68 = .ok (.ixor, 1) := by decide +kernel
theorem dX4_row_69 : decode cX4_row 69 = .ok (.iand, 1) := by decide +kernel
theorem dX4_row_70 : decode cX4_row 70 = .ok (.istore_n 3, 1) := by decide +kernel
theorem dX4_row_71 : decode cX4_row 71 = .ok (.iload 4, 2) := by decide +kernel
theorem dX4_row_73 : decode cX4_row 73 = .ok (.iload 6, 2) := by decide +kernel
theorem dX4_row_75 : decode cX4_row 75 = .ok (.irem, 1) := by decide +kernel
theorem dX4_row_76 : decode cX4_row 76 = .ok (.istore 4, 2) := by decide +kernel
theorem dX4_row_78 : decode cX4_row 78 = .ok (.iinc 5 1, 3) := by decide +kernel
theorem dX4_row_81 : decode cX4_row 81 = .ok (.goto (-59), 3) := by decide +kernel
theorem dX4_row_84 : decode cX4_row 84 = .ok (.aload_n 2, 1) := by decide +kernel
theorem dX4_row_85 : decode cX4_row 85 = .ok (.areturn, 1) := by decide +kernel
theorem dX4_bellAt_0 : decode cX4_bellAt 0 = .ok (.iconst 0, 1) := by decide +kernel
theorem dX4_bellAt_1 : decode cX4_bellAt 1 = .ok (.istore_n 2, 1) := by decide +kernel
theorem dX4_bellAt_2 : decode cX4_bellAt 2 = .ok (.iload_n 1, 1) := by decide +kernel
theorem dX4_bellAt_3 : decode cX4_bellAt 3 = .ok (.istore_n 3, 1) := by decide +kernel
theorem dX4_bellAt_4 : decode cX4_bellAt 4 = .ok (.iload_n 3, 1) := by decide +kernel
theorem dX4_bellAt_5 : decode cX4_bellAt 5 = .ok (.ifCond .gt 11, 3) := by decide +kernel
theorem dX4_bellAt_8 : decode cX4_bellAt 8 = .ok (.iload_n 0, 1) := by decide +kernel
theorem dX4_bellAt_9 : decode cX4_bellAt 9 = .ok (.iload_n 2, 1) := by decide +kernel
theorem dX4_bellAt_10 : decode cX4_bellAt 10 = .ok (.ishr, 1) := by decide +kernel
theorem dX4_bellAt_11 : decode cX4_bellAt 11 = .ok (.iconst 1, 1) := by decide +kernel
theorem dX4_bellAt_12 : decode cX4_bellAt 12 = .ok (.iand, 1) := by decide +kernel
theorem dX4_bellAt_13 : decode cX4_bellAt 13 = .ok (.ifCond .ne 17, 3) := by decide +kernel
theorem dX4_bellAt_16 : decode cX4_bellAt 16 = .ok (.iload_n 3, 1) := by decide +kernel
theorem dX4_bellAt_17 : decode cX4_bellAt 17 = .ok (.iload_n 0, 1) := by decide +kernel
theorem dX4_bellAt_18 : decode cX4_bellAt 18 = .ok (.iload_n 2, 1) := by decide +kernel
theorem dX4_bellAt_19 : decode cX4_bellAt 19 = .ok (.ishr, 1) := by decide +kernel
theorem dX4_bellAt_20 : decode cX4_bellAt 20 = .ok (.iconst 1, 1) := by decide +kernel
theorem dX4_bellAt_21 : decode cX4_bellAt 21 = .ok (.iand, 1) := by decide +kernel
theorem dX4_bellAt_22 : decode cX4_bellAt 22 = .ok (.isub, 1) := by decide +kernel
theorem dX4_bellAt_23 : decode cX4_bellAt 23 = .ok (.istore_n 3, 1) := by decide +kernel
theorem dX4_bellAt_24 : decode cX4_bellAt 24 = .ok (.iinc 2 1, 3) := by decide +kernel
theorem dX4_bellAt_27 : decode cX4_bellAt 27 = .ok (.goto (-23), 3) := by decide +kernel
theorem dX4_bellAt_30 : decode cX4_bellAt 30 = .ok (.iload_n 2, 1) := by decide +kernel
theorem dX4_bellAt_31 : decode cX4_bellAt 31 = .ok (.ireturn, 1) := by decide +kernel
theorem dX4_less_0 : decode cX4_less 0 = .ok (.iconst 0, 1) := by decide +kernel
theorem dX4_less_1 : decode cX4_less 1 = .ok (.istore_n 3, 1) := by decide +kernel
theorem dX4_less_2 : decode cX4_less 2 = .ok (.iload_n 2, 1) := by decide +kernel
theorem dX4_less_3 : decode cX4_less 3 = .ok (.iconst 1, 1) := by decide +kernel
theorem dX4_less_4 : decode cX4_less 4 = .ok (.iadd, 1) := by decide +kernel
theorem dX4_less_5 : decode cX4_less 5 = .ok (.istore 4, 2) := by decide +kernel
theorem dX4_less_7 : decode cX4_less 7 = .ok (.iload 4, 2) := by decide +kernel
theorem dX4_less_9 : decode cX4_less 9 = .ok (.aload_n 0, 1) := by decide +kernel
theorem dX4_less_10 : decode cX4_less 10 = .ok (.getfield 7, 3) := by decide +kernel
theorem dX4_less_13 : decode cX4_less 13 = .ok (.if_icmp .ge 27, 3) := by decide +kernel
theorem dX4_less_16 : decode cX4_less 16 = .ok (.iload_n 3, 1) := by decide +kernel
theorem dX4_less_17 : decode cX4_less 17 = .ok (.aload_n 1, 1) := by decide +kernel
theorem dX4_less_18 : decode cX4_less 18 = .ok (.iload 4, 2) := by decide +kernel
theorem dX4_less_20 : decode cX4_less 20 = .ok (.iaload, 1) := by decide +kernel
theorem dX4_less_21 : decode cX4_less 21 = .ok (.aload_n 1, 1) := by decide +kernel
theorem dX4_less_22 : decode cX4_less 22 = .ok (.iload_n 2, 1) := by decide +kernel
theorem dX4_less_23 : decode cX4_less 23 = .ok (.iaload, 1) := by decide +kernel
theorem dX4_less_24 : decode cX4_less 24 = .ok (.if_icmp .ge 7, 3) := by decide +kernel
theorem dX4_less_27 : decode cX4_less 27 = .ok (.iconst 1, 1) := by decide +kernel
theorem dX4_less_28 : decode cX4_less 28 = .ok (.goto 4, 3) := by decide +kernel
theorem dX4_less_31 : decode cX4_less 31 = .ok (.iconst 0, 1) := by decide +kernel
theorem dX4_less_32 : decode cX4_less 32 = .ok (.iadd, 1) := by decide +kernel
theorem dX4_less_33 : decode cX4_less 33 = .ok (.istore_n 3, 1) := by decide +kernel
theorem dX4_less_34 : decode cX4_less 34 = .ok (.iinc 4 1, 3) := by decide +kernel
theorem dX4_less_37 : decode cX4_less 37 = .ok (.goto (-30), 3) := by decide +kernel
theorem dX4_less_40 : decode cX4_less 40 = .ok (.iload_n 3, 1) := by decide +kernel
theorem dX4_less_41 : decode cX4_less 41 = .ok (.ireturn, 1) := by decide +kernel
theorem dX4_rank_0 : decode cX4_rank 0 = .ok (.iconst 0, 1) := by decide +kernel
theorem dX4_rank_1 : decode cX4_rank 1 = .ok (.istore_n 2, 1) := by decide +kernel
theorem dX4_rank_2 : decode cX4_rank 2 = .ok (.iconst 0, 1) := by decide +kernel
theorem dX4_rank_3 : decode cX4_rank 3 = .ok (.istore_n 3, 1) := by decide +kernel
theorem dX4_rank_4 : decode cX4_rank 4 = .ok (.iload_n 3, 1) := by decide +kernel
theorem dX4_rank_5 : decode cX4_rank 5 = .ok (.aload_n 0, 1) := by decide +kernel
theorem dX4_rank_6 : decode cX4_rank 6 = .ok (.getfield 7, 3) := by decide +kernel
theorem dX4_rank_9 : decode cX4_rank 9 = .ok (.if_icmp .ge 30, 3) := by decide +kernel
theorem dX4_rank_12 : decode cX4_rank 12 = .ok (.iload_n 2, 1) := by decide +kernel
theorem dX4_rank_13 : decode cX4_rank 13 = .ok (.aload_n 0, 1) := by decide +kernel
theorem dX4_rank_14 : decode cX4_rank 14 = .ok (.aload_n 1, 1) := by decide +kernel
theorem dX4_rank_15 : decode cX4_rank 15 = .ok (.iload_n 3, 1) := by decide +kernel
theorem dX4_rank_16 : decode cX4_rank 16 = .ok (.invokevirtual 38, 3) := by decide +kernel
theorem dX4_rank_19 : decode cX4_rank 19 = .ok (.aload_n 0, 1) := by decide +kernel
theorem dX4_rank_20 : decode cX4_rank 20 = .ok (.getfield 7, 3) := by decide +kernel
theorem dX4_rank_23 : decode cX4_rank 23 = .ok (.iconst 1, 1) := by decide +kernel
theorem dX4_rank_24 : decode cX4_rank 24 = .ok (.isub, 1) := by decide +kernel
theorem dX4_rank_25 : decode cX4_rank 25 = .ok (.iload_n 3, 1) := by decide +kernel
theorem dX4_rank_26 : decode cX4_rank 26 = .ok (.isub, 1) := by decide +kernel
theorem dX4_rank_27 : decode cX4_rank 27 = .ok (.invokestatic 30, 3) := by decide +kernel
theorem dX4_rank_30 : decode cX4_rank 30 = .ok (.imul, 1) := by decide +kernel
theorem dX4_rank_31 : decode cX4_rank 31 = .ok (.iadd, 1) := by decide +kernel
theorem dX4_rank_32 : decode cX4_rank 32 = .ok (.istore_n 2, 1) := by decide +kernel
theorem dX4_rank_33 : decode cX4_rank 33 = .ok (.iinc 3 1, 3) := by decide +kernel
theorem dX4_rank_36 : decode cX4_rank 36 = .ok (.goto (-32), 3) := by decide +kernel
theorem dX4_rank_39 : decode cX4_rank 39 = .ok (.iload_n 2, 1) := by decide +kernel
theorem dX4_rank_40 : decode cX4_rank 40 = .ok (.ireturn, 1) := by decide +kernel
theorem dX4_inversions_0 : decode cX4_inversions 0 = .ok (.iconst 0, 1) := by decide +kernel
theorem dX4_inversions_1 : decode cX4_inversions 1 = .ok (.istore_n 2, 1) := by decide +kernel
theorem dX4_inversions_2 : decode cX4_inversions 2 = .ok (.iconst 0, 1) := by decide +kernel
theorem dX4_inversions_3 : decode cX4_inversions 3 = .ok (.istore_n 3, 1) := by decide +kernel
theorem dX4_inversions_4 : decode cX4_inversions 4 = .ok (.iload_n 3, 1) := by decide +kernel
theorem dX4_inversions_5 : decode cX4_inversions 5 = .ok (.aload_n 0, 1) := by decide +kernel
theorem dX4_inversions_6 : decode cX4_inversions 6 = .ok (.getfield 7, 3) := by decide +kernel
theorem dX4_inversions_9 : decode cX4_inversions 9 = .ok (.if_icmp .ge 18, 3) := by decide +kernel
theorem dX4_inversions_12 : decode cX4_inversions 12 = .ok (.iload_n 2, 1) := by decide +kernel
theorem dX4_inversions_13 : decode cX4_inversions 13 = .ok (.aload_n 0, 1) := by decide +kernel
theorem dX4_inversions_14 : decode cX4_inversions 14 = .ok (.aload_n 1, 1) := by decide +kernel
theorem dX4_inversions_15 : decode cX4_inversions 15 = .ok (.iload_n 3, 1) := by decide +kernel
theorem dX4_inversions_16 : decode cX4_inversions 16 = .ok (.invokevirtual 38, 3) := by decide +kernel
theorem dX4_inversions_19 : decode cX4_inversions 19 = .ok (.iadd, 1) := by decide +kernel
theorem dX4_inversions_20 : decode cX4_inversions 20 = .ok (.istore_n 2, 1) := by decide +kernel
theorem dX4_inversions_21 : decode cX4_inversions 21 = .ok (.iinc 3 1, 3) := by decide +kernel
theorem dX4_inversions_24 : decode cX4_inversions 24 = .ok (.goto (-20), 3) := by decide +kernel
theorem dX4_inversions_27 : decode cX4_inversions 27 = .ok (.iload_n 2, 1) := by decide +kernel
theorem dX4_inversions_28 : decode cX4_inversions 28 = .ok (.ireturn, 1) := by decide +kernel
theorem dX4_behindRow_0 : decode cX4_behindRow 0 = .ok (.aload_n 0, 1) := by decide +kernel
theorem dX4_behindRow_1 : decode cX4_behindRow 1 = .ok (.getfield 7, 3) := by decide +kernel
theorem dX4_behindRow_4 : decode cX4_behindRow 4 = .ok (.newarray .int, 2) := by decide +kernel
theorem dX4_behindRow_6 : decode cX4_behindRow 6 = .ok (.astore_n 3, 1) := by decide +kernel
theorem dX4_behindRow_7 : decode cX4_behindRow 7 = .ok (.iconst 0, 1) := by decide +kernel
theorem dX4_behindRow_8 : decode cX4_behindRow 8 = .ok (.istore 4, 2) := by decide +kernel
theorem dX4_behindRow_10 : decode cX4_behindRow 10 = .ok (.iload 4, 2) := by decide +kernel
theorem dX4_behindRow_12 : decode cX4_behindRow 12 = .ok (.aload_n 0, 1) := by decide +kernel
theorem dX4_behindRow_13 : decode cX4_behindRow 13 = .ok (.getfield 7, 3) := by decide +kernel
theorem dX4_behindRow_16 : decode cX4_behindRow 16 = .ok (.if_icmp .ge 19, 3) := by decide +kernel
theorem dX4_behindRow_19 : decode cX4_behindRow 19 = .ok (.aload_n 3, 1) := by decide +kernel
theorem dX4_behindRow_20 : decode cX4_behindRow 20 = .ok (.iload 4, 2) := by decide +kernel
theorem dX4_behindRow_22 : decode cX4_behindRow 22 = .ok (.aload_n 1, 1) := by decide +kernel
theorem dX4_behindRow_23 : decode cX4_behindRow 23 = .ok (.aload_n 2, 1) := by decide +kernel
theorem dX4_behindRow_24 : decode cX4_behindRow 24 = .ok (.iload 4, 2) := by decide +kernel
theorem dX4_behindRow_26 : decode cX4_behindRow 26 = .ok (.iaload, 1) := by decide +kernel
theorem dX4_behindRow_27 : decode cX4_behindRow 27 = .ok (.iaload, 1) := by decide +kernel
theorem dX4_behindRow_28 : decode cX4_behindRow 28 = .ok (.iastore, 1) := by decide +kernel
theorem dX4_behindRow_29 : decode cX4_behindRow 29 = .ok (.iinc 4 1, 3) := by decide +kernel
theorem dX4_behindRow_32 : decode cX4_behindRow 32 = .ok (.goto (-22), 3) := by decide +kernel
theorem dX4_behindRow_35 : decode cX4_behindRow 35 = .ok (.aload_n 3, 1) := by decide +kernel
theorem dX4_behindRow_36 : decode cX4_behindRow 36 = .ok (.areturn, 1) := by decide +kernel
theorem dX4_backRow_0 : decode cX4_backRow 0 = .ok (.aload_n 0, 1) := by decide +kernel
theorem dX4_backRow_1 : decode cX4_backRow 1 = .ok (.getfield 7, 3) := by decide +kernel
theorem dX4_backRow_4 : decode cX4_backRow 4 = .ok (.newarray .int, 2) := by decide +kernel
theorem dX4_backRow_6 : decode cX4_backRow 6 = .ok (.astore_n 2, 1) := by decide +kernel
theorem dX4_backRow_7 : decode cX4_backRow 7 = .ok (.iconst 0, 1) := by decide +kernel
theorem dX4_backRow_8 : decode cX4_backRow 8 = .ok (.istore_n 3, 1) := by decide +kernel
theorem dX4_backRow_9 : decode cX4_backRow 9 = .ok (.iload_n 3, 1) := by decide +kernel
theorem dX4_backRow_10 : decode cX4_backRow 10 = .ok (.aload_n 0, 1) := by decide +kernel
theorem dX4_backRow_11 : decode cX4_backRow 11 = .ok (.getfield 7, 3) := by decide +kernel
theorem dX4_backRow_14 : decode cX4_backRow 14 = .ok (.if_icmp .ge 15, 3) := by decide +kernel
theorem dX4_backRow_17 : decode cX4_backRow 17 = .ok (.aload_n 2, 1) := by decide +kernel
theorem dX4_backRow_18 : decode cX4_backRow 18 = .ok (.aload_n 1, 1) := by decide +kernel
theorem dX4_backRow_19 : decode cX4_backRow 19 = .ok (.iload_n 3, 1) := by decide +kernel
theorem dX4_backRow_20 : decode cX4_backRow 20 = .ok (.iaload, 1) := by decide +kernel
theorem dX4_backRow_21 : decode cX4_backRow 21 = .ok (.iload_n 3, 1) := by decide +kernel
theorem dX4_backRow_22 : decode cX4_backRow 22 = .ok (.iastore, 1) := by decide +kernel
theorem dX4_backRow_23 : decode cX4_backRow 23 = .ok (.iinc 3 1, 3) := by decide +kernel
theorem dX4_backRow_26 : decode cX4_backRow 26 = .ok (.goto (-17), 3) := by decide +kernel
theorem dX4_backRow_29 : decode cX4_backRow 29 = .ok (.aload_n 2, 1) := by decide +kernel
theorem dX4_backRow_30 : decode cX4_backRow 30 = .ok (.areturn, 1) := by decide +kernel
theorem dX4_ringOf_0 : decode cX4_ringOf 0 = .ok (.iconst 1, 1) := by decide +kernel
theorem dX4_ringOf_1 : decode cX4_ringOf 1 = .ok (.istore_n 3, 1) := by decide +kernel
theorem dX4_ringOf_2 : decode cX4_ringOf 2 = .ok (.aload_n 1, 1) := by decide +kernel
theorem dX4_ringOf_3 : decode cX4_ringOf 3 = .ok (.iload_n 2, 1) := by decide +kernel
theorem dX4_ringOf_4 : decode cX4_ringOf 4 = .ok (.iaload, 1) := by decide +kernel
theorem dX4_ringOf_5 : decode cX4_ringOf 5 = .ok (.istore 4, 2) := by decide +kernel
theorem dX4_ringOf_7 : decode cX4_ringOf 7 = .ok (.iload 4, 2) := by decide +kernel
theorem dX4_ringOf_9 : decode cX4_ringOf 9 = .ok (.iload_n 2, 1) := by decide +kernel
theorem dX4_ringOf_10 : decode cX4_ringOf 10 = .ok (.if_icmp .eq 15, 3) := by decide +kernel
theorem dX4_ringOf_13 : decode cX4_ringOf 13 = .ok (.iinc 3 1, 3) := by decide +kernel
theorem dX4_ringOf_16 : decode cX4_ringOf 16 = .ok (.aload_n 1, 1) := by decide +kernel
theorem dX4_ringOf_17 : decode cX4_ringOf 17 = .ok (.iload 4, 2) := by decide +kernel
theorem dX4_ringOf_19 : decode cX4_ringOf 19 = .ok (.iaload, 1) := by decide +kernel
theorem dX4_ringOf_20 : decode cX4_ringOf 20 = .ok (.istore 4, 2) := by decide +kernel
theorem dX4_ringOf_22 : decode cX4_ringOf 22 = .ok (.goto (-15), 3) := by decide +kernel
theorem dX4_ringOf_25 : decode cX4_ringOf 25 = .ok (.iload_n 3, 1) := by decide +kernel
theorem dX4_ringOf_26 : decode cX4_ringOf 26 = .ok (.ireturn, 1) := by decide +kernel
theorem dX4_isFirst_0 : decode cX4_isFirst 0 = .ok (.iconst 1, 1) := by decide +kernel
theorem dX4_isFirst_1 : decode cX4_isFirst 1 = .ok (.istore_n 3, 1) := by decide +kernel
theorem dX4_isFirst_2 : decode cX4_isFirst 2 = .ok (.aload_n 1, 1) := by decide +kernel
theorem dX4_isFirst_3 : decode cX4_isFirst 3 = .ok (.iload_n 2, 1) := by decide +kernel
theorem dX4_isFirst_4 : decode cX4_isFirst 4 = .ok (.iaload, 1) := by decide +kernel
theorem dX4_isFirst_5 : decode cX4_isFirst 5 = .ok (.istore 4, 2) := by decide +kernel
theorem dX4_isFirst_7 : decode cX4_isFirst 7 = .ok (.iload 4, 2) := by decide +kernel
theorem dX4_isFirst_9 : decode cX4_isFirst 9 = .ok (.iload_n 2, 1) := by decide +kernel
theorem dX4_isFirst_10 : decode cX4_isFirst 10 = .ok (.if_icmp .eq 26, 3) := by decide +kernel
theorem dX4_isFirst_13 : decode cX4_isFirst 13 = .ok (.iload_n 3, 1) := by decide +kernel
theorem dX4_isFirst_14 : decode cX4_isFirst 14 = .ok (.iload 4, 2) := by decide +kernel
theorem dX4_isFirst_16 : decode cX4_isFirst 16 = .ok (.iload_n 2, 1) := by decide +kernel
theorem dX4_isFirst_17 : decode cX4_isFirst 17 = .ok (.if_icmp .le 7, 3) := by decide +kernel
theorem dX4_isFirst_20 : decode cX4_isFirst 20 = .ok (.iconst 1, 1) := by decide +kernel
theorem dX4_isFirst_21 : decode cX4_isFirst 21 = .ok (.goto 4, 3) := by decide +kernel
theorem dX4_isFirst_24 : decode cX4_isFirst 24 = .ok (.iconst 0, 1) := by decide +kernel
theorem dX4_isFirst_25 : decode cX4_isFirst 25 = .ok (.iand, 1) := by decide +kernel
theorem dX4_isFirst_26 : decode cX4_isFirst 26 = .ok (.istore_n 3, 1) := by decide +kernel
theorem dX4_isFirst_27 : decode cX4_isFirst 27 = .ok (.aload_n 1, 1) := by decide +kernel
theorem dX4_isFirst_28 : decode cX4_isFirst 28 = .ok (.iload 4, 2) := by decide +kernel
theorem dX4_isFirst_30 : decode cX4_isFirst 30 = .ok (.iaload, 1) := by decide +kernel
theorem dX4_isFirst_31 : decode cX4_isFirst 31 = .ok (.istore 4, 2) := by decide +kernel
theorem dX4_isFirst_33 : decode cX4_isFirst 33 = .ok (.goto (-26), 3) := by decide +kernel
theorem dX4_isFirst_36 : decode cX4_isFirst 36 = .ok (.iload_n 3, 1) := by decide +kernel
theorem dX4_isFirst_37 : decode cX4_isFirst 37 = .ok (.ireturn, 1) := by decide +kernel
theorem dX4_divisor_0 : decode cX4_divisor 0 = .ok (.iload_n 1, 1) := by decide +kernel
theorem dX4_divisor_1 : decode cX4_divisor 1 = .ok (.ifCond .ne 7, 3) := by decide +kernel
theorem dX4_divisor_4 : decode cX4_divisor 4 = .ok (.iload_n 0, 1) := by decide +kernel
theorem dX4_divisor_5 : decode cX4_divisor 5 = .ok (.goto 10, 3) := by decide +kernel
theorem dX4_divisor_8 : decode cX4_divisor 8 = .ok (.iload_n 1, 1) := by decide +kernel
theorem dX4_divisor_9 : decode cX4_divisor 9 = .ok (.iload_n 0, 1) := by decide +kernel
theorem dX4_divisor_10 : decode cX4_divisor 10 = .ok (.iload_n 1, 1) := by decide +kernel
theorem dX4_divisor_11 : decode cX4_divisor 11 = .ok (.irem, 1) := by decide +kernel
theorem dX4_divisor_12 : decode cX4_divisor 12 = .ok (.invokestatic 42, 3) := by decide +kernel
theorem dX4_divisor_15 : decode cX4_divisor 15 = .ok (.ireturn, 1) := by decide +kernel
theorem dX4_order_0 : decode cX4_order 0 = .ok (.iconst 1, 1) := by decide +kernel
theorem dX4_order_1 : decode cX4_order 1 = .ok (.istore_n 2, 1) := by decide +kernel
theorem dX4_order_2 : decode cX4_order 2 = .ok (.iconst 0, 1) := by decide +kernel
theorem dX4_order_3 : decode cX4_order 3 = .ok (.istore_n 3, 1) := by decide +kernel
theorem dX4_order_4 : decode cX4_order 4 = .ok (.iload_n 3, 1) := by decide +kernel
theorem dX4_order_5 : decode cX4_order 5 = .ok (.aload_n 0, 1) := by decide +kernel
theorem dX4_order_6 : decode cX4_order 6 = .ok (.getfield 7, 3) := by decide +kernel
theorem dX4_order_9 : decode cX4_order 9 = .ok (.if_icmp .ge 29, 3) := by decide +kernel
theorem dX4_order_12 : decode cX4_order 12 = .ok (.iload_n 2, 1) := by decide +kernel
theorem dX4_order_13 : decode cX4_order 13 = .ok (.iload_n 2, 1) := by decide +kernel
theorem dX4_order_14 : decode cX4_order 14 = .ok (.aload_n 0, 1) := by decide +kernel
theorem dX4_order_15 : decode cX4_order 15 = .ok (.aload_n 1, 1) := by decide +kernel
theorem dX4_order_16 : decode cX4_order 16 = .ok (.iload_n 3, 1) := by decide +kernel
theorem dX4_order_17 : decode cX4_order 17 = .ok (.invokevirtual 45, 3) := by decide +kernel
theorem dX4_order_20 : decode cX4_order 20 = .ok (.invokestatic 42, 3) := by decide +kernel
theorem dX4_order_23 : decode cX4_order 23 = .ok (.idiv, 1) := by decide +kernel
theorem dX4_order_24 : decode cX4_order 24 = .ok (.aload_n 0, 1) := by decide +kernel
theorem dX4_order_25 : decode cX4_order 25 = .ok (.aload_n 1, 1) := by decide +kernel
theorem dX4_order_26 : decode cX4_order 26 = .ok (.iload_n 3, 1) := by decide +kernel
theorem dX4_order_27 : decode cX4_order 27 = .ok (.invokevirtual 45, 3) := by decide +kernel
theorem dX4_order_30 : decode cX4_order 30 = .ok (.imul, 1) := by decide +kernel
theorem dX4_order_31 : decode cX4_order 31 = .ok (.istore_n 2, 1) := by decide +kernel
theorem dX4_order_32 : decode cX4_order 32 = .ok (.iinc 3 1, 3) := by decide +kernel
theorem dX4_order_35 : decode cX4_order 35 = .ok (.goto (-31), 3) := by decide +kernel
theorem dX4_order_38 : decode cX4_order 38 = .ok (.iload_n 2, 1) := by decide +kernel
theorem dX4_order_39 : decode cX4_order 39 = .ok (.ireturn, 1) := by decide +kernel
theorem dX4_ringStep_0 : decode cX4_ringStep 0 = .ok (.aload_n 0, 1) := by decide +kernel
theorem dX4_ringStep_1 : decode cX4_ringStep 1 = .ok (.getfield 17, 3) := by decide +kernel
theorem dX4_ringStep_4 : decode cX4_ringStep 4 = .ok (.iload_n 2, 1) := by decide +kernel
theorem dX4_ringStep_5 : decode cX4_ringStep 5 = .ok (.aload_n 0, 1) := by decide +kernel
theorem dX4_ringStep_6 : decode cX4_ringStep 6 = .ok (.getfield 48, 3) := by decide +kernel
theorem dX4_ringStep_9 : decode cX4_ringStep 9 = .ok (.irem, 1) := by decide +kernel
theorem dX4_ringStep_10 : decode cX4_ringStep 10 = .ok (.iaload, 1) := by decide +kernel
theorem dX4_ringStep_11 : decode cX4_ringStep 11 = .ok (.istore_n 3, 1) := by decide +kernel
theorem dX4_ringStep_12 : decode cX4_ringStep 12 = .ok (.iconst 0, 1) := by decide +kernel
theorem dX4_ringStep_13 : decode cX4_ringStep 13 = .ok (.istore 4, 2) := by decide +kernel
theorem dX4_ringStep_15 : decode cX4_ringStep 15 = .ok (.iload 4, 2) := by decide +kernel
theorem dX4_ringStep_17 : decode cX4_ringStep 17 = .ok (.aload_n 0, 1) := by decide +kernel
theorem dX4_ringStep_18 : decode cX4_ringStep 18 = .ok (.getfield 7, 3) := by decide +kernel
theorem dX4_ringStep_21 : decode cX4_ringStep 21 = .ok (.if_icmp .ge 49, 3) := by decide +kernel
theorem dX4_ringStep_24 : decode cX4_ringStep 24 = .ok (.iload_n 3, 1) := by decide +kernel
theorem dX4_ringStep_25 : decode cX4_ringStep 25 = .ok (.iload 4, 2) := by decide +kernel
theorem dX4_ringStep_27 : decode cX4_ringStep 27 = .ok (.ishr, 1) := by decide +kernel
theorem dX4_ringStep_28 : decode cX4_ringStep 28 = .ok (.iconst 1, 1) := by decide +kernel
theorem dX4_ringStep_29 : decode cX4_ringStep 29 = .ok (.iand, 1) := by decide +kernel
theorem dX4_ringStep_30 : decode cX4_ringStep 30 = .ok (.iconst 1, 1) := by decide +kernel
theorem dX4_ringStep_31 : decode cX4_ringStep 31 = .ok (.if_icmp .ne 6, 3) := by decide +kernel
theorem dX4_ringStep_34 : decode cX4_ringStep 34 = .ok (.goto 30, 3) := by decide +kernel
theorem dX4_ringStep_37 : decode cX4_ringStep 37 = .ok (.aload_n 1, 1) := by decide +kernel
theorem dX4_ringStep_38 : decode cX4_ringStep 38 = .ok (.iload 4, 2) := by decide +kernel
theorem dX4_ringStep_40 : decode cX4_ringStep 40 = .ok (.iaload, 1) := by decide +kernel
theorem dX4_ringStep_41 : decode cX4_ringStep 41 = .ok (.istore 5, 2) := by decide +kernel
theorem dX4_ringStep_43 : decode cX4_ringStep 43 = .ok (.aload_n 1, 1) := by decide +kernel
theorem dX4_ringStep_44 : decode cX4_ringStep 44 = .ok (.iload 4, 2) := by decide +kernel
theorem dX4_ringStep_46 : decode cX4_ringStep 46 = .ok (.aload_n 1, 1) := by decide +kernel
theorem dX4_ringStep_47 : decode cX4_ringStep 47 = .ok (.iload 4, 2) := by decide +kernel
theorem dX4_ringStep_49 : decode cX4_ringStep 49 = .ok (.iconst 1, 1) := by decide +kernel
theorem dX4_ringStep_50 : decode cX4_ringStep 50 = .ok (.iadd, 1) := by decide +kernel
theorem dX4_ringStep_51 : decode cX4_ringStep 51 = .ok (.iaload, 1) := by decide +kernel
theorem dX4_ringStep_52 : decode cX4_ringStep 52 = .ok (.iastore, 1) := by decide +kernel
theorem dX4_ringStep_53 : decode cX4_ringStep 53 = .ok (.aload_n 1, 1) := by decide +kernel
theorem dX4_ringStep_54 : decode cX4_ringStep 54 = .ok (.iload 4, 2) := by decide +kernel
theorem dX4_ringStep_56 : decode cX4_ringStep 56 = .ok (.iconst 1, 1) := by decide +kernel
theorem dX4_ringStep_57 : decode cX4_ringStep 57 = .ok (.iadd, 1) := by decide +kernel
theorem dX4_ringStep_58 : decode cX4_ringStep 58 = .ok (.iload 5, 2) := by decide +kernel
theorem dX4_ringStep_60 : decode cX4_ringStep 60 = .ok (.iastore, 1) := by decide +kernel
theorem dX4_ringStep_61 : decode cX4_ringStep 61 = .ok (.iinc 4 1, 3) := by decide +kernel
theorem dX4_ringStep_64 : decode cX4_ringStep 64 = .ok (.iinc 4 1, 3) := by decide +kernel
theorem dX4_ringStep_67 : decode cX4_ringStep 67 = .ok (.goto (-52), 3) := by decide +kernel
theorem dX4_ringStep_70 : decode cX4_ringStep 70 = .ok (.return_, 1) := by decide +kernel
theorem dX4_isStep_0 : decode cX4_isStep 0 = .ok (.iload_n 1, 1) := by decide +kernel
theorem dX4_isStep_1 : decode cX4_isStep 1 = .ok (.iconst 0, 1) := by decide +kernel
theorem dX4_isStep_2 : decode cX4_isStep 2 = .ok (.iconst 1, 1) := by decide +kernel
theorem dX4_isStep_3 : decode cX4_isStep 3 = .ok (.aload_n 0, 1) := by decide +kernel
theorem dX4_isStep_4 : decode cX4_isStep 4 = .ok (.getfield 7, 3) := by decide +kernel
theorem dX4_isStep_7 : decode cX4_isStep 7 = .ok (.ishl, 1) := by decide +kernel
theorem dX4_isStep_8 : decode cX4_isStep 8 = .ok (.iconst 1, 1) := by decide +kernel
theorem dX4_isStep_9 : decode cX4_isStep 9 = .ok (.isub, 1) := by decide +kernel
theorem dX4_isStep_10 : decode cX4_isStep 10 = .ok (.invokestatic 26, 3) := by decide +kernel
theorem dX4_isStep_13 : decode cX4_isStep 13 = .ok (.ifCond .ne 5, 3) := by decide +kernel
theorem dX4_isStep_16 : decode cX4_isStep 16 = .ok (.iconst 0, 1) := by decide +kernel
theorem dX4_isStep_17 : decode cX4_isStep 17 = .ok (.ireturn, 1) := by decide +kernel
theorem dX4_isStep_18 : decode cX4_isStep 18 = .ok (.iconst 0, 1) := by decide +kernel
theorem dX4_isStep_19 : decode cX4_isStep 19 = .ok (.istore_n 2, 1) := by decide +kernel
theorem dX4_isStep_20 : decode cX4_isStep 20 = .ok (.iconst 0, 1) := by decide +kernel
theorem dX4_isStep_21 : decode cX4_isStep 21 = .ok (.istore_n 3, 1) := by decide +kernel
theorem dX4_isStep_22 : decode cX4_isStep 22 = .ok (.iload_n 3, 1) := by decide +kernel
theorem dX4_isStep_23 : decode cX4_isStep 23 = .ok (.aload_n 0, 1) := by decide +kernel
theorem dX4_isStep_24 : decode cX4_isStep 24 = .ok (.getfield 7, 3) := by decide +kernel
theorem dX4_isStep_27 : decode cX4_isStep 27 = .ok (.if_icmp .ge 52, 3) := by decide +kernel
theorem dX4_isStep_30 : decode cX4_isStep 30 = .ok (.iload_n 1, 1) := by decide +kernel
theorem dX4_isStep_31 : decode cX4_isStep 31 = .ok (.iload_n 3, 1) := by decide +kernel
theorem dX4_isStep_32 : decode cX4_isStep 32 = .ok (.ishr, 1) := by decide +kernel
theorem dX4_isStep_33 : decode cX4_isStep 33 = .ok (.iconst 1, 1) := by decide +kernel
theorem dX4_isStep_34 : decode cX4_isStep 34 = .ok (.iand, 1) := by decide +kernel
theorem dX4_isStep_35 : decode cX4_isStep 35 = .ok (.iconst 1, 1) := by decide +kernel
theorem dX4_isStep_36 : decode cX4_isStep 36 = .ok (.if_icmp .ne 7, 3) := by decide +kernel
theorem dX4_isStep_39 : decode cX4_isStep 39 = .ok (.iconst 1, 1) := by decide +kernel
theorem dX4_isStep_40 : decode cX4_isStep 40 = .ok (.goto 4, 3) := by decide +kernel
theorem dX4_isStep_43 : decode cX4_isStep 43 = .ok (.iconst 0, 1) := by decide +kernel
theorem dX4_isStep_44 : decode cX4_isStep 44 = .ok (.istore 4, 2) := by decide +kernel
theorem dX4_isStep_46 : decode cX4_isStep 46 = .ok (.iload 4, 2) := by decide +kernel
theorem dX4_isStep_48 : decode cX4_isStep 48 = .ok (.ifCond .eq 12, 3) := by decide +kernel
theorem dX4_isStep_51 : decode cX4_isStep 51 = .ok (.iload_n 2, 1) := by decide +kernel
theorem dX4_isStep_52 : decode cX4_isStep 52 = .ok (.iconst 2, 1) := by decide +kernel
theorem dX4_isStep_53 : decode cX4_isStep 53 = .ok (.irem, 1) := by decide +kernel
theorem dX4_isStep_54 : decode cX4_isStep 54 = .ok (.iconst 1, 1) := by decide +kernel
theorem dX4_isStep_55 : decode cX4_isStep 55 = .ok (.if_icmp .ne 5, 3) := by decide +kernel
theorem dX4_isStep_58 : decode cX4_isStep 58 = .ok (.iconst 0, 1) := by decide +kernel
theorem dX4_isStep_59 : decode cX4_isStep 59 = .ok (.ireturn, 1) := by decide +kernel
theorem dX4_isStep_60 : decode cX4_isStep 60 = .ok (.iload 4, 2) := by decide +kernel
theorem dX4_isStep_62 : decode cX4_isStep 62 = .ok (.ifCond .eq 7, 3) := by decide +kernel
theorem dX4_isStep_65 : decode cX4_isStep 65 = .ok (.iconst 0, 1) := by decide +kernel
theorem dX4_isStep_66 : decode cX4_isStep 66 = .ok (.goto 6, 3) := by decide +kernel
theorem dX4_isStep_69 : decode cX4_isStep 69 = .ok (.iload_n 2, 1) := by decide +kernel
theorem dX4_isStep_70 : decode cX4_isStep 70 = .ok (.iconst 1, 1) := by decide +kernel
theorem dX4_isStep_71 : decode cX4_isStep 71 = .ok (.iadd, 1) := by decide +kernel
theorem dX4_isStep_72 : decode cX4_isStep 72 = .ok (.istore_n 2, 1) := by decide +kernel
theorem dX4_isStep_73 : decode cX4_isStep 73 = .ok (.iinc 3 1, 3) := by decide +kernel
theorem dX4_isStep_76 : decode cX4_isStep 76 = .ok (.goto (-54), 3) := by decide +kernel
theorem dX4_isStep_79 : decode cX4_isStep 79 = .ok (.iload_n 2, 1) := by decide +kernel
theorem dX4_isStep_80 : decode cX4_isStep 80 = .ok (.iconst 2, 1) := by decide +kernel
theorem dX4_isStep_81 : decode cX4_isStep 81 = .ok (.irem, 1) := by decide +kernel
theorem dX4_isStep_82 : decode cX4_isStep 82 = .ok (.ifCond .ne 7, 3) := by decide +kernel
theorem dX4_isStep_85 : decode cX4_isStep 85 = .ok (.iconst 1, 1) := by decide +kernel
theorem dX4_isStep_86 : decode cX4_isStep 86 = .ok (.goto 4, 3) := by decide +kernel
theorem dX4_isStep_89 : decode cX4_isStep 89 = .ok (.iconst 0, 1) := by decide +kernel
theorem dX4_isStep_90 : decode cX4_isStep 90 = .ok (.ireturn, 1) := by decide +kernel
theorem dX4_setBells_0 : decode cX4_setBells 0 = .ok (.aload_n 0, 1) := by decide +kernel
theorem dX4_setBells_1 : decode cX4_setBells 1 = .ok (.iconst 0, 1) := by decide +kernel
theorem dX4_setBells_2 : decode cX4_setBells 2 = .ok (.putfield 20, 3) := by decide +kernel
theorem dX4_setBells_5 : decode cX4_setBells 5 = .ok (.iload_n 1, 1) := by decide +kernel
theorem dX4_setBells_6 : decode cX4_setBells 6 = .ok (.iconst 2, 1) := by decide +kernel
theorem dX4_setBells_7 : decode cX4_setBells 7 = .ok (.bipush 8, 2) := by decide +kernel
theorem dX4_setBells_9 : decode cX4_setBells 9 = .ok (.invokestatic 26, 3) := by decide +kernel
theorem dX4_setBells_12 : decode cX4_setBells 12 = .ok (.ifCond .ne 9, 3) := by decide +kernel
theorem dX4_setBells_15 : decode cX4_setBells 15 = .ok (.aload_n 0, 1) := by decide +kernel
theorem dX4_setBells_16 : decode cX4_setBells 16 = .ok (.iconst 1, 1) := by decide +kernel
theorem dX4_setBells_17 : decode cX4_setBells 17 = .ok (.invokevirtual 51, 3) := by decide +kernel
theorem dX4_setBells_20 : decode cX4_setBells 20 = .ok (.ireturn, 1) := by decide +kernel
theorem dX4_setBells_21 : decode cX4_setBells 21 = .ok (.aload_n 0, 1) := by decide +kernel
theorem dX4_setBells_22 : decode cX4_setBells 22 = .ok (.getfield 7, 3) := by decide +kernel
theorem dX4_setBells_25 : decode cX4_setBells 25 = .ok (.istore_n 2, 1) := by decide +kernel
theorem dX4_setBells_26 : decode cX4_setBells 26 = .ok (.aload_n 0, 1) := by decide +kernel
theorem dX4_setBells_27 : decode cX4_setBells 27 = .ok (.iload_n 1, 1) := by decide +kernel
theorem dX4_setBells_28 : decode cX4_setBells 28 = .ok (.putfield 7, 3) := by decide +kernel
theorem dX4_setBells_31 : decode cX4_setBells 31 = .ok (.aload_n 0, 1) := by decide +kernel
theorem dX4_setBells_32 : decode cX4_setBells 32 = .ok (.iconst 0, 1) := by decide +kernel
theorem dX4_setBells_33 : decode cX4_setBells 33 = .ok (.putfield 23, 3) := by decide +kernel
theorem dX4_setBells_36 : decode cX4_setBells 36 = .ok (.aload_n 0, 1) := by decide +kernel
theorem dX4_setBells_37 : decode cX4_setBells 37 = .ok (.iconst 0, 1) := by decide +kernel
theorem dX4_setBells_38 : decode cX4_setBells 38 = .ok (.putfield 48, 3) := by decide +kernel
theorem dX4_setBells_41 : decode cX4_setBells 41 = .ok (.iload_n 2, 1) := by decide +kernel
theorem dX4_setBells_42 : decode cX4_setBells 42 = .ok (.ireturn, 1) := by decide +kernel
theorem dX4_add_0 : decode cX4_add 0 = .ok (.aload_n 0, 1) := by decide +kernel
theorem dX4_add_1 : decode cX4_add 1 = .ok (.getfield 13, 3) := by decide +kernel
theorem dX4_add_4 : decode cX4_add 4 = .ok (.aload_n 0, 1) := by decide +kernel
theorem dX4_add_5 : decode cX4_add 5 = .ok (.getfield 23, 3) := by decide +kernel
theorem dX4_add_8 : decode cX4_add 8 = .ok (.iload_n 1, 1) := by decide +kernel
theorem dX4_add_9 : decode cX4_add 9 = .ok (.iastore, 1) := by decide +kernel
theorem dX4_add_10 : decode cX4_add 10 = .ok (.aload_n 0, 1) := by decide +kernel
theorem dX4_add_11 : decode cX4_add 11 = .ok (.dup, 1) := by decide +kernel
theorem dX4_add_12 : decode cX4_add 12 = .ok (.getfield 23, 3) := by decide +kernel
theorem dX4_add_15 : decode cX4_add 15 = .ok (.iconst 1, 1) := by decide +kernel
theorem dX4_add_16 : decode cX4_add 16 = .ok (.iadd, 1) := by decide +kernel
theorem dX4_add_17 : decode cX4_add 17 = .ok (.putfield 23, 3) := by decide +kernel
theorem dX4_add_20 : decode cX4_add 20 = .ok (.aload_n 0, 1) := by decide +kernel
theorem dX4_add_21 : decode cX4_add 21 = .ok (.getfield 23, 3) := by decide +kernel
theorem dX4_add_24 : decode cX4_add 24 = .ok (.iconst 1, 1) := by decide +kernel
theorem dX4_add_25 : decode cX4_add 25 = .ok (.isub, 1) := by decide +kernel
theorem dX4_add_26 : decode cX4_add 26 = .ok (.ireturn, 1) := by decide +kernel
theorem dX4_become_0 : decode cX4_become 0 = .ok (.aload_n 0, 1) := by decide +kernel
theorem dX4_become_1 : decode cX4_become 1 = .ok (.getfield 13, 3) := by decide +kernel
theorem dX4_become_4 : decode cX4_become 4 = .ok (.iload_n 1, 1) := by decide +kernel
theorem dX4_become_5 : decode cX4_become 5 = .ok (.aload_n 0, 1) := by decide +kernel
theorem dX4_become_6 : decode cX4_become 6 = .ok (.aload_n 2, 1) := by decide +kernel
theorem dX4_become_7 : decode cX4_become 7 = .ok (.invokevirtual 54, 3) := by decide +kernel
theorem dX4_become_10 : decode cX4_become 10 = .ok (.iastore, 1) := by decide +kernel
theorem dX4_become_11 : decode cX4_become 11 = .ok (.aload_n 0, 1) := by decide +kernel
theorem dX4_become_12 : decode cX4_become 12 = .ok (.getfield 13, 3) := by decide +kernel
theorem dX4_become_15 : decode cX4_become 15 = .ok (.iload_n 1, 1) := by decide +kernel
theorem dX4_become_16 : decode cX4_become 16 = .ok (.iaload, 1) := by decide +kernel
theorem dX4_become_17 : decode cX4_become 17 = .ok (.ireturn, 1) := by decide +kernel
theorem dX4_write_0 : decode cX4_write 0 = .ok (.aload_n 0, 1) := by decide +kernel
theorem dX4_write_1 : decode cX4_write 1 = .ok (.iconst 0, 1) := by decide +kernel
theorem dX4_write_2 : decode cX4_write 2 = .ok (.putfield 20, 3) := by decide +kernel
theorem dX4_write_5 : decode cX4_write 5 = .ok (.iload_n 1, 1) := by decide +kernel
theorem dX4_write_6 : decode cX4_write 6 = .ok (.iconst 0, 1) := by decide +kernel
theorem dX4_write_7 : decode cX4_write 7 = .ok (.aload_n 0, 1) := by decide +kernel
theorem dX4_write_8 : decode cX4_write 8 = .ok (.getfield 7, 3) := by decide +kernel
theorem dX4_write_11 : decode cX4_write 11 = .ok (.invokestatic 30, 3) := by decide +kernel
theorem dX4_write_14 : decode cX4_write 14 = .ok (.iconst 1, 1) := by decide +kernel
theorem dX4_write_15 : decode cX4_write 15 = .ok (.isub, 1) := by decide +kernel
theorem dX4_write_16 : decode cX4_write 16 = .ok (.invokestatic 26, 3) := by decide +kernel
theorem dX4_write_19 : decode cX4_write 19 = .ok (.ifCond .ne 9, 3) := by decide +kernel
theorem dX4_write_22 : decode cX4_write 22 = .ok (.aload_n 0, 1) := by decide +kernel
theorem dX4_write_23 : decode cX4_write 23 = .ok (.iconst 1, 1) := by decide +kernel
theorem dX4_write_24 : decode cX4_write 24 = .ok (.invokevirtual 51, 3) := by decide +kernel
theorem dX4_write_27 : decode cX4_write 27 = .ok (.ireturn, 1) := by decide +kernel
theorem dX4_write_28 : decode cX4_write 28 = .ok (.aload_n 0, 1) := by decide +kernel
theorem dX4_write_29 : decode cX4_write 29 = .ok (.getfield 23, 3) := by decide +kernel
theorem dX4_write_32 : decode cX4_write 32 = .ok (.bipush 16, 2) := by decide +kernel
theorem dX4_write_34 : decode cX4_write 34 = .ok (.if_icmp .ne 11, 3) := by decide +kernel
theorem dX4_write_37 : decode cX4_write 37 = .ok (.aload_n 0, 1) := by decide +kernel
theorem dX4_write_38 : decode cX4_write 38 = .ok (.iconst 2, 1) := by decide +kernel
theorem dX4_write_39 : decode cX4_write 39 = .ok (.invokevirtual 51, 3) := by decide +kernel
theorem dX4_write_42 : decode cX4_write 42 = .ok (.goto 8, 3) := by decide +kernel
theorem dX4_write_45 : decode cX4_write 45 = .ok (.aload_n 0, 1) := by decide +kernel
theorem dX4_write_46 : decode cX4_write 46 = .ok (.iload_n 1, 1) := by decide +kernel
theorem dX4_write_47 : decode cX4_write 47 = .ok (.invokevirtual 58, 3) := by decide +kernel
theorem dX4_write_50 : decode cX4_write 50 = .ok (.ireturn, 1) := by decide +kernel
theorem dX4_swap_0 : decode cX4_swap 0 = .ok (.aload_n 0, 1) := by decide +kernel
theorem dX4_swap_1 : decode cX4_swap 1 = .ok (.iconst 0, 1) := by decide +kernel
theorem dX4_swap_2 : decode cX4_swap 2 = .ok (.putfield 20, 3) := by decide +kernel
theorem dX4_swap_5 : decode cX4_swap 5 = .ok (.aload_n 0, 1) := by decide +kernel
theorem dX4_swap_6 : decode cX4_swap 6 = .ok (.iload_n 1, 1) := by decide +kernel
theorem dX4_swap_7 : decode cX4_swap 7 = .ok (.invokevirtual 61, 3) := by decide +kernel
theorem dX4_swap_10 : decode cX4_swap 10 = .ok (.ifCond .eq 17, 3) := by decide +kernel
theorem dX4_swap_13 : decode cX4_swap 13 = .ok (.iload_n 2, 1) := by decide +kernel
theorem dX4_swap_14 : decode cX4_swap 14 = .ok (.iconst 0, 1) := by decide +kernel
theorem dX4_swap_15 : decode cX4_swap 15 = .ok (.aload_n 0, 1) := by decide +kernel
theorem dX4_swap_16 : decode cX4_swap 16 = .ok (.getfield 7, 3) := by decide +kernel
theorem dX4_swap_19 : decode cX4_swap 19 = .ok (.iconst 2, 1) := by decide +kernel
theorem dX4_swap_20 : decode cX4_swap 20 = .ok (.isub, 1) := by decide +kernel
theorem dX4_swap_21 : decode cX4_swap 21 = .ok (.invokestatic 26, 3) := by decide +kernel
theorem dX4_swap_24 : decode cX4_swap 24 = .ok (.ifCond .ne 9, 3) := by decide +kernel
theorem dX4_swap_27 : decode cX4_swap 27 = .ok (.aload_n 0, 1) := by decide +kernel
theorem dX4_swap_28 : decode cX4_swap 28 = .ok (.iconst 1, 1) := by decide +kernel
theorem dX4_swap_29 : decode cX4_swap 29 = .ok (.invokevirtual 51, 3) := by decide +kernel
theorem dX4_swap_32 : decode cX4_swap 32 = .ok (.ireturn, 1) := by decide +kernel
theorem dX4_swap_33 : decode cX4_swap 33 = .ok (.aload_n 0, 1) := by decide +kernel
theorem dX4_swap_34 : decode cX4_swap 34 = .ok (.aload_n 0, 1) := by decide +kernel
theorem dX4_swap_35 : decode cX4_swap 35 = .ok (.getfield 13, 3) := by decide +kernel
theorem dX4_swap_38 : decode cX4_swap 38 = .ok (.iload_n 1, 1) := by decide +kernel
theorem dX4_swap_39 : decode cX4_swap 39 = .ok (.iaload, 1) := by decide +kernel
theorem dX4_swap_40 : decode cX4_swap 40 = .ok (.invokevirtual 65, 3) := by decide +kernel
theorem dX4_swap_43 : decode cX4_swap 43 = .ok (.astore_n 3, 1) := by decide +kernel
theorem dX4_swap_44 : decode cX4_swap 44 = .ok (.aload_n 3, 1) := by decide +kernel
theorem dX4_swap_45 : decode cX4_swap 45 = .ok (.iload_n 2, 1) := by decide +kernel
theorem dX4_swap_46 : decode cX4_swap 46 = .ok (.iaload, 1) := by decide +kernel
theorem dX4_swap_47 : decode cX4_swap 47 = .ok (.istore 4, 2) := by decide +kernel
theorem dX4_swap_49 : decode cX4_swap 49 = .ok (.aload_n 3, 1) := by decide +kernel
theorem dX4_swap_50 : decode cX4_swap 50 = .ok (.iload_n 2, 1) := by decide +kernel
theorem dX4_swap_51 : decode cX4_swap 51 = .ok (.aload_n 3, 1) := by decide +kernel
theorem dX4_swap_52 : decode cX4_swap 52 = .ok (.iload_n 2, 1) := by decide +kernel
theorem dX4_swap_53 : decode cX4_swap 53 = .ok (.iconst 1, 1) := by decide +kernel
theorem dX4_swap_54 : decode cX4_swap 54 = .ok (.iadd, 1) := by decide +kernel
theorem dX4_swap_55 : decode cX4_swap 55 = .ok (.iaload, 1) := by decide +kernel
theorem dX4_swap_56 : decode cX4_swap 56 = .ok (.iastore, 1) := by decide +kernel
theorem dX4_swap_57 : decode cX4_swap 57 = .ok (.aload_n 3, 1) := by decide +kernel
theorem dX4_swap_58 : decode cX4_swap 58 = .ok (.iload_n 2, 1) := by decide +kernel
theorem dX4_swap_59 : decode cX4_swap 59 = .ok (.iconst 1, 1) := by decide +kernel
theorem dX4_swap_60 : decode cX4_swap 60 = .ok (.iadd, 1) := by decide +kernel
theorem dX4_swap_61 : decode cX4_swap 61 = .ok (.iload 4, 2) := by decide +kernel
theorem dX4_swap_63 : decode cX4_swap 63 = .ok (.iastore, 1) := by decide +kernel
theorem dX4_swap_64 : decode cX4_swap 64 = .ok (.aload_n 0, 1) := by decide +kernel
theorem dX4_swap_65 : decode cX4_swap 65 = .ok (.iload_n 1, 1) := by decide +kernel
theorem dX4_swap_66 : decode cX4_swap 66 = .ok (.aload_n 3, 1) := by decide +kernel
theorem dX4_swap_67 : decode cX4_swap 67 = .ok (.invokevirtual 69, 3) := by decide +kernel
theorem dX4_swap_70 : decode cX4_swap 70 = .ok (.ireturn, 1) := by decide +kernel
theorem dX4_next_0 : decode cX4_next 0 = .ok (.aload_n 0, 1) := by decide +kernel
theorem dX4_next_1 : decode cX4_next 1 = .ok (.iconst 0, 1) := by decide +kernel
theorem dX4_next_2 : decode cX4_next 2 = .ok (.putfield 20, 3) := by decide +kernel
theorem dX4_next_5 : decode cX4_next 5 = .ok (.aload_n 0, 1) := by decide +kernel
theorem dX4_next_6 : decode cX4_next 6 = .ok (.iload_n 1, 1) := by decide +kernel
theorem dX4_next_7 : decode cX4_next 7 = .ok (.invokevirtual 61, 3) := by decide +kernel
theorem dX4_next_10 : decode cX4_next 10 = .ok (.ifCond .ne 9, 3) := by decide +kernel
theorem dX4_next_13 : decode cX4_next 13 = .ok (.aload_n 0, 1) := by decide +kernel
theorem dX4_next_14 : decode cX4_next 14 = .ok (.iconst 1, 1) := by decide +kernel
theorem dX4_next_15 : decode cX4_next 15 = .ok (.invokevirtual 51, 3) := by decide +kernel
theorem dX4_next_18 : decode cX4_next 18 = .ok (.ireturn, 1) := by decide +kernel
theorem dX4_next_19 : decode cX4_next 19 = .ok (.aload_n 0, 1) := by decide +kernel
theorem dX4_next_20 : decode cX4_next 20 = .ok (.getfield 13, 3) := by decide +kernel
theorem dX4_next_23 : decode cX4_next 23 = .ok (.iload_n 1, 1) := by decide +kernel
theorem dX4_next_24 : decode cX4_next 24 = .ok (.aload_n 0, 1) := by decide +kernel
theorem dX4_next_25 : decode cX4_next 25 = .ok (.getfield 13, 3) := by decide +kernel
theorem dX4_next_28 : decode cX4_next 28 = .ok (.iload_n 1, 1) := by decide +kernel
theorem dX4_next_29 : decode cX4_next 29 = .ok (.iaload, 1) := by decide +kernel
theorem dX4_next_30 : decode cX4_next 30 = .ok (.iconst 1, 1) := by decide +kernel
theorem dX4_next_31 : decode cX4_next 31 = .ok (.iadd, 1) := by decide +kernel
theorem dX4_next_32 : decode cX4_next 32 = .ok (.aload_n 0, 1) := by decide +kernel
theorem dX4_next_33 : decode cX4_next 33 = .ok (.getfield 7, 3) := by decide +kernel
theorem dX4_next_36 : decode cX4_next 36 = .ok (.invokestatic 30, 3) := by decide +kernel
theorem dX4_next_39 : decode cX4_next 39 = .ok (.irem, 1) := by decide +kernel
theorem dX4_next_40 : decode cX4_next 40 = .ok (.iastore, 1) := by decide +kernel
theorem dX4_next_41 : decode cX4_next 41 = .ok (.aload_n 0, 1) := by decide +kernel
theorem dX4_next_42 : decode cX4_next 42 = .ok (.getfield 13, 3) := by decide +kernel
theorem dX4_next_45 : decode cX4_next 45 = .ok (.iload_n 1, 1) := by decide +kernel
theorem dX4_next_46 : decode cX4_next 46 = .ok (.iaload, 1) := by decide +kernel
theorem dX4_next_47 : decode cX4_next 47 = .ok (.ireturn, 1) := by decide +kernel
theorem dX4_behind_0 : decode cX4_behind 0 = .ok (.aload_n 0, 1) := by decide +kernel
theorem dX4_behind_1 : decode cX4_behind 1 = .ok (.iconst 0, 1) := by decide +kernel
theorem dX4_behind_2 : decode cX4_behind 2 = .ok (.putfield 20, 3) := by decide +kernel
theorem dX4_behind_5 : decode cX4_behind 5 = .ok (.aload_n 0, 1) := by decide +kernel
theorem dX4_behind_6 : decode cX4_behind 6 = .ok (.iload_n 1, 1) := by decide +kernel
theorem dX4_behind_7 : decode cX4_behind 7 = .ok (.invokevirtual 61, 3) := by decide +kernel
theorem dX4_behind_10 : decode cX4_behind 10 = .ok (.ifCond .eq 11, 3) := by decide +kernel
theorem dX4_behind_13 : decode cX4_behind 13 = .ok (.aload_n 0, 1) := by decide +kernel
theorem dX4_behind_14 : decode cX4_behind 14 = .ok (.iload_n 2, 1) := by decide +kernel
theorem dX4_behind_15 : decode cX4_behind 15 = .ok (.invokevirtual 61, 3) := by decide +kernel
theorem dX4_behind_18 : decode cX4_behind 18 = .ok (.ifCond .ne 9, 3) := by decide +kernel
theorem dX4_behind_21 : decode cX4_behind 21 = .ok (.aload_n 0, 1) := by decide +kernel
theorem dX4_behind_22 : decode cX4_behind 22 = .ok (.iconst 1, 1) := by decide +kernel
theorem dX4_behind_23 : decode cX4_behind 23 = .ok (.invokevirtual 51, 3) := by decide +kernel
theorem dX4_behind_26 : decode cX4_behind 26 = .ok (.ireturn, 1) := by decide +kernel
theorem dX4_behind_27 : decode cX4_behind 27 = .ok (.aload_n 0, 1) := by decide +kernel
theorem dX4_behind_28 : decode cX4_behind 28 = .ok (.getfield 23, 3) := by decide +kernel
theorem dX4_behind_31 : decode cX4_behind 31 = .ok (.bipush 16, 2) := by decide +kernel
theorem dX4_behind_33 : decode cX4_behind 33 = .ok (.if_icmp .ne 11, 3) := by decide +kernel
theorem dX4_behind_36 : decode cX4_behind 36 = .ok (.aload_n 0, 1) := by decide +kernel
theorem dX4_behind_37 : decode cX4_behind 37 = .ok (.iconst 2, 1) := by decide +kernel
theorem dX4_behind_38 : decode cX4_behind 38 = .ok (.invokevirtual 51, 3) := by decide +kernel
theorem dX4_behind_41 : decode cX4_behind 41 = .ok (.goto 35, 3) := by decide +kernel
theorem dX4_behind_44 : decode cX4_behind 44 = .ok (.aload_n 0, 1) := by decide +kernel
theorem dX4_behind_45 : decode cX4_behind 45 = .ok (.aload_n 0, 1) := by decide +kernel
theorem dX4_behind_46 : decode cX4_behind 46 = .ok (.aload_n 0, 1) := by decide +kernel
theorem dX4_behind_47 : decode cX4_behind 47 = .ok (.aload_n 0, 1) := by decide +kernel
theorem dX4_behind_48 : decode cX4_behind 48 = .ok (.aload_n 0, 1) := by decide +kernel
theorem dX4_behind_49 : decode cX4_behind 49 = .ok (.getfield 13, 3) := by decide +kernel
theorem dX4_behind_52 : decode cX4_behind 52 = .ok (.iload_n 1, 1) := by decide +kernel
theorem dX4_behind_53 : decode cX4_behind 53 = .ok (.iaload, 1) := by decide +kernel
theorem dX4_behind_54 : decode cX4_behind 54 = .ok (.invokevirtual 65, 3) := by decide +kernel
theorem dX4_behind_57 : decode cX4_behind 57 = .ok (.aload_n 0, 1) := by decide +kernel
theorem dX4_behind_58 : decode cX4_behind 58 = .ok (.aload_n 0, 1) := by decide +kernel
theorem dX4_behind_59 : decode cX4_behind 59 = .ok (.getfield 13, 3) := by decide +kernel
theorem dX4_behind_62 : decode cX4_behind 62 = .ok (.iload_n 2, 1) := by decide +kernel
theorem dX4_behind_63 : decode cX4_behind 63 = .ok (.iaload, 1) := by decide +kernel
theorem dX4_behind_64 : decode cX4_behind 64 = .ok (.invokevirtual 65, 3) := by decide +kernel
theorem dX4_behind_67 : decode cX4_behind 67 = .ok (.invokevirtual 73, 3) := by decide +kernel
theorem dX4_behind_70 : decode cX4_behind 70 = .ok (.invokevirtual 54, 3) := by decide +kernel
theorem dX4_behind_73 : decode cX4_behind 73 = .ok (.invokevirtual 58, 3) := by decide +kernel
theorem dX4_behind_76 : decode cX4_behind 76 = .ok (.ireturn, 1) := by decide +kernel
theorem dX4_back_0 : decode cX4_back 0 = .ok (.aload_n 0, 1) := by decide +kernel
theorem dX4_back_1 : decode cX4_back 1 = .ok (.iconst 0, 1) := by decide +kernel
theorem dX4_back_2 : decode cX4_back 2 = .ok (.putfield 20, 3) := by decide +kernel
theorem dX4_back_5 : decode cX4_back 5 = .ok (.aload_n 0, 1) := by decide +kernel
theorem dX4_back_6 : decode cX4_back 6 = .ok (.iload_n 1, 1) := by decide +kernel
theorem dX4_back_7 : decode cX4_back 7 = .ok (.invokevirtual 61, 3) := by decide +kernel
theorem dX4_back_10 : decode cX4_back 10 = .ok (.ifCond .eq 25, 3) := by decide +kernel
theorem dX4_back_13 : decode cX4_back 13 = .ok (.aload_n 0, 1) := by decide +kernel
theorem dX4_back_14 : decode cX4_back 14 = .ok (.iload_n 1, 1) := by decide +kernel
theorem dX4_back_15 : decode cX4_back 15 = .ok (.aload_n 0, 1) := by decide +kernel
theorem dX4_back_16 : decode cX4_back 16 = .ok (.aload_n 0, 1) := by decide +kernel
theorem dX4_back_17 : decode cX4_back 17 = .ok (.aload_n 0, 1) := by decide +kernel
theorem dX4_back_18 : decode cX4_back 18 = .ok (.getfield 13, 3) := by decide +kernel
theorem dX4_back_21 : decode cX4_back 21 = .ok (.iload_n 1, 1) := by decide +kernel
theorem dX4_back_22 : decode cX4_back 22 = .ok (.iaload, 1) := by decide +kernel
theorem dX4_back_23 : decode cX4_back 23 = .ok (.invokevirtual 65, 3) := by decide +kernel
theorem dX4_back_26 : decode cX4_back 26 = .ok (.invokevirtual 77, 3) := by decide +kernel
theorem dX4_back_29 : decode cX4_back 29 = .ok (.invokevirtual 69, 3) := by decide +kernel
theorem dX4_back_32 : decode cX4_back 32 = .ok (.goto 8, 3) := by decide +kernel
theorem dX4_back_35 : decode cX4_back 35 = .ok (.aload_n 0, 1) := by decide +kernel
theorem dX4_back_36 : decode cX4_back 36 = .ok (.iconst 1, 1) := by decide +kernel
theorem dX4_back_37 : decode cX4_back 37 = .ok (.invokevirtual 51, 3) := by decide +kernel
theorem dX4_back_40 : decode cX4_back 40 = .ok (.ireturn, 1) := by decide +kernel
theorem dX4_repeat_0 : decode cX4_repeat 0 = .ok (.aload_n 0, 1) := by decide +kernel
theorem dX4_repeat_1 : decode cX4_repeat 1 = .ok (.iconst 0, 1) := by decide +kernel
theorem dX4_repeat_2 : decode cX4_repeat 2 = .ok (.putfield 20, 3) := by decide +kernel
theorem dX4_repeat_5 : decode cX4_repeat 5 = .ok (.aload_n 0, 1) := by decide +kernel
theorem dX4_repeat_6 : decode cX4_repeat 6 = .ok (.iload_n 1, 1) := by decide +kernel
theorem dX4_repeat_7 : decode cX4_repeat 7 = .ok (.invokevirtual 61, 3) := by decide +kernel
theorem dX4_repeat_10 : decode cX4_repeat 10 = .ok (.ifCond .ne 9, 3) := by decide +kernel
theorem dX4_repeat_13 : decode cX4_repeat 13 = .ok (.aload_n 0, 1) := by decide +kernel
theorem dX4_repeat_14 : decode cX4_repeat 14 = .ok (.iconst 1, 1) := by decide +kernel
theorem dX4_repeat_15 : decode cX4_repeat 15 = .ok (.invokevirtual 51, 3) := by decide +kernel
theorem dX4_repeat_18 : decode cX4_repeat 18 = .ok (.ireturn, 1) := by decide +kernel
theorem dX4_repeat_19 : decode cX4_repeat 19 = .ok (.iload_n 2, 1) := by decide +kernel
theorem dX4_repeat_20 : decode cX4_repeat 20 = .ok (.iconst 0, 1) := by decide +kernel
theorem dX4_repeat_21 : decode cX4_repeat 21 = .ok (.sipush 9999, 3) := by decide +kernel
theorem dX4_repeat_24 : decode cX4_repeat 24 = .ok (.invokestatic 26, 3) := by decide +kernel
theorem dX4_repeat_27 : decode cX4_repeat 27 = .ok (.ifCond .ne 9, 3) := by decide +kernel
theorem dX4_repeat_30 : decode cX4_repeat 30 = .ok (.aload_n 0, 1) := by decide +kernel
theorem dX4_repeat_31 : decode cX4_repeat 31 = .ok (.iconst 2, 1) := by decide +kernel
theorem dX4_repeat_32 : decode cX4_repeat 32 = .ok (.invokevirtual 51, 3) := by decide +kernel
theorem dX4_repeat_35 : decode cX4_repeat 35 = .ok (.ireturn, 1) := by decide +kernel
theorem dX4_repeat_36 : decode cX4_repeat 36 = .ok (.aload_n 0, 1) := by decide +kernel
theorem dX4_repeat_37 : decode cX4_repeat 37 = .ok (.aload_n 0, 1) := by decide +kernel
theorem dX4_repeat_38 : decode cX4_repeat 38 = .ok (.getfield 13, 3) := by decide +kernel
theorem dX4_repeat_41 : decode cX4_repeat 41 = .ok (.iload_n 1, 1) := by decide +kernel
theorem dX4_repeat_42 : decode cX4_repeat 42 = .ok (.iaload, 1) := by decide +kernel
theorem dX4_repeat_43 : decode cX4_repeat 43 = .ok (.invokevirtual 65, 3) := by decide +kernel
theorem dX4_repeat_46 : decode cX4_repeat 46 = .ok (.astore_n 3, 1) := by decide +kernel
theorem dX4_repeat_47 : decode cX4_repeat 47 = .ok (.aload_n 0, 1) := by decide +kernel
theorem dX4_repeat_48 : decode cX4_repeat 48 = .ok (.iconst 0, 1) := by decide +kernel
theorem dX4_repeat_49 : decode cX4_repeat 49 = .ok (.invokevirtual 65, 3) := by decide +kernel
theorem dX4_repeat_52 : decode cX4_repeat 52 = .ok (.astore 4, 2) := by decide +kernel
theorem dX4_repeat_54 : decode cX4_repeat 54 = .ok (.iload_n 2, 1) := by decide +kernel
theorem dX4_repeat_55 : decode cX4_repeat 55 = .ok (.aload_n 0, 1) := by decide +kernel
theorem dX4_repeat_56 : decode cX4_repeat 56 = .ok (.aload_n 3, 1) := by decide +kernel
theorem dX4_repeat_57 : decode cX4_repeat 57 = .ok (.invokevirtual 81, 3) := by decide +kernel
theorem dX4_repeat_60 : decode cX4_repeat 60 = .ok (.irem, 1) := by decide +kernel
theorem dX4_repeat_61 : decode cX4_repeat 61 = .ok (.istore 5, 2) := by decide +kernel
theorem dX4_repeat_63 : decode cX4_repeat 63 = .ok (.iload 5, 2) := by decide +kernel
theorem dX4_repeat_65 : decode cX4_repeat 65 = .ok (.ifCond .le 18, 3) := by decide +kernel
theorem dX4_repeat_68 : decode cX4_repeat 68 = .ok (.aload_n 0, 1) := by decide +kernel
theorem dX4_repeat_69 : decode cX4_repeat 69 = .ok (.aload 4, 2) := by decide +kernel
theorem dX4_repeat_71 : decode cX4_repeat 71 = .ok (.aload_n 3, 1) := by decide +kernel
theorem dX4_repeat_72 : decode cX4_repeat 72 = .ok (.invokevirtual 73, 3) := by decide +kernel
theorem dX4_repeat_75 : decode cX4_repeat 75 = .ok (.astore 4, 2) := by decide +kernel
theorem dX4_repeat_77 : decode cX4_repeat 77 = .ok (.iinc 5 (-1), 3) := by decide +kernel
theorem dX4_repeat_80 : decode cX4_repeat 80 = .ok (.goto (-17), 3) := by decide +kernel
theorem dX4_repeat_83 : decode cX4_repeat 83 = .ok (.aload_n 0, 1) := by decide +kernel
theorem dX4_repeat_84 : decode cX4_repeat 84 = .ok (.iload_n 1, 1) := by decide +kernel
theorem dX4_repeat_85 : decode cX4_repeat 85 = .ok (.aload 4, 2) := by decide +kernel
theorem dX4_repeat_87 : decode cX4_repeat 87 = .ok (.invokevirtual 69, 3) := by decide +kernel
theorem dX4_repeat_90 : decode cX4_repeat 90 = .ok (.ireturn, 1) := by decide +kernel
theorem dX4_step_0 : decode cX4_step 0 = .ok (.aload_n 0, 1) := by decide +kernel
theorem dX4_step_1 : decode cX4_step 1 = .ok (.iconst 0, 1) := by decide +kernel
theorem dX4_step_2 : decode cX4_step 2 = .ok (.putfield 20, 3) := by decide +kernel
theorem dX4_step_5 : decode cX4_step 5 = .ok (.aload_n 0, 1) := by decide +kernel
theorem dX4_step_6 : decode cX4_step 6 = .ok (.iload_n 1, 1) := by decide +kernel
theorem dX4_step_7 : decode cX4_step 7 = .ok (.invokevirtual 84, 3) := by decide +kernel
theorem dX4_step_10 : decode cX4_step 10 = .ok (.ifCond .ne 9, 3) := by decide +kernel
theorem dX4_step_13 : decode cX4_step 13 = .ok (.aload_n 0, 1) := by decide +kernel
theorem dX4_step_14 : decode cX4_step 14 = .ok (.iconst 1, 1) := by decide +kernel
theorem dX4_step_15 : decode cX4_step 15 = .ok (.invokevirtual 51, 3) := by decide +kernel
theorem dX4_step_18 : decode cX4_step 18 = .ok (.ireturn, 1) := by decide +kernel
theorem dX4_step_19 : decode cX4_step 19 = .ok (.aload_n 0, 1) := by decide +kernel
theorem dX4_step_20 : decode cX4_step 20 = .ok (.getfield 48, 3) := by decide +kernel
theorem dX4_step_23 : decode cX4_step 23 = .ok (.bipush 10, 2) := by decide +kernel
theorem dX4_step_25 : decode cX4_step 25 = .ok (.if_icmp .ne 9, 3) := by decide +kernel
theorem dX4_step_28 : decode cX4_step 28 = .ok (.aload_n 0, 1) := by decide +kernel
theorem dX4_step_29 : decode cX4_step 29 = .ok (.iconst 2, 1) := by decide +kernel
theorem dX4_step_30 : decode cX4_step 30 = .ok (.invokevirtual 51, 3) := by decide +kernel
theorem dX4_step_33 : decode cX4_step 33 = .ok (.ireturn, 1) := by decide +kernel
theorem dX4_step_34 : decode cX4_step 34 = .ok (.aload_n 0, 1) := by decide +kernel
theorem dX4_step_35 : decode cX4_step 35 = .ok (.getfield 17, 3) := by decide +kernel
theorem dX4_step_38 : decode cX4_step 38 = .ok (.aload_n 0, 1) := by decide +kernel
theorem dX4_step_39 : decode cX4_step 39 = .ok (.getfield 48, 3) := by decide +kernel
theorem dX4_step_42 : decode cX4_step 42 = .ok (.iload_n 1, 1) := by decide +kernel
theorem dX4_step_43 : decode cX4_step 43 = .ok (.iastore, 1) := by decide +kernel
theorem dX4_step_44 : decode cX4_step 44 = .ok (.aload_n 0, 1) := by decide +kernel
theorem dX4_step_45 : decode cX4_step 45 = .ok (.dup, 1) := by decide +kernel
theorem dX4_step_46 : decode cX4_step 46 = .ok (.getfield 48, 3) := by decide +kernel
theorem dX4_step_49 : decode cX4_step 49 = .ok (.iconst 1, 1) := by decide +kernel
theorem dX4_step_50 : decode cX4_step 50 = .ok (.iadd, 1) := by decide +kernel
theorem dX4_step_51 : decode cX4_step 51 = .ok (.putfield 48, 3) := by decide +kernel
theorem dX4_step_54 : decode cX4_step 54 = .ok (.aload_n 0, 1) := by decide +kernel
theorem dX4_step_55 : decode cX4_step 55 = .ok (.getfield 48, 3) := by decide +kernel
theorem dX4_step_58 : decode cX4_step 58 = .ok (.ireturn, 1) := by decide +kernel
theorem dX4_clear_0 : decode cX4_clear 0 = .ok (.aload_n 0, 1) := by decide +kernel
theorem dX4_clear_1 : decode cX4_clear 1 = .ok (.iconst 0, 1) := by decide +kernel
theorem dX4_clear_2 : decode cX4_clear 2 = .ok (.putfield 20, 3) := by decide +kernel
theorem dX4_clear_5 : decode cX4_clear 5 = .ok (.aload_n 0, 1) := by decide +kernel
theorem dX4_clear_6 : decode cX4_clear 6 = .ok (.getfield 48, 3) := by decide +kernel
theorem dX4_clear_9 : decode cX4_clear 9 = .ok (.istore_n 1, 1) := by decide +kernel
theorem dX4_clear_10 : decode cX4_clear 10 = .ok (.aload_n 0, 1) := by decide +kernel
theorem dX4_clear_11 : decode cX4_clear 11 = .ok (.iconst 0, 1) := by decide +kernel
theorem dX4_clear_12 : decode cX4_clear 12 = .ok (.putfield 48, 3) := by decide +kernel
theorem dX4_clear_15 : decode cX4_clear 15 = .ok (.iload_n 1, 1) := by decide +kernel
theorem dX4_clear_16 : decode cX4_clear 16 = .ok (.ireturn, 1) := by decide +kernel
theorem dX4_ring_0 : decode cX4_ring 0 = .ok (.aload_n 0, 1) := by decide +kernel
theorem dX4_ring_1 : decode cX4_ring 1 = .ok (.iconst 0, 1) := by decide +kernel
theorem dX4_ring_2 : decode cX4_ring 2 = .ok (.putfield 20, 3) := by decide +kernel
theorem dX4_ring_5 : decode cX4_ring 5 = .ok (.aload_n 0, 1) := by decide +kernel
theorem dX4_ring_6 : decode cX4_ring 6 = .ok (.iload_n 1, 1) := by decide +kernel
theorem dX4_ring_7 : decode cX4_ring 7 = .ok (.invokevirtual 61, 3) := by decide +kernel
theorem dX4_ring_10 : decode cX4_ring 10 = .ok (.ifCond .ne 9, 3) := by decide +kernel
theorem dX4_ring_13 : decode cX4_ring 13 = .ok (.aload_n 0, 1) := by decide +kernel
theorem dX4_ring_14 : decode cX4_ring 14 = .ok (.iconst 1, 1) := by decide +kernel
theorem dX4_ring_15 : decode cX4_ring 15 = .ok (.invokevirtual 51, 3) := by decide +kernel
theorem dX4_ring_18 : decode cX4_ring 18 = .ok (.ireturn, 1) := by decide +kernel
theorem dX4_ring_19 : decode cX4_ring 19 = .ok (.iload_n 2, 1) := by decide +kernel
theorem dX4_ring_20 : decode cX4_ring 20 = .ok (.iconst 1, 1) := by decide +kernel
theorem dX4_ring_21 : decode cX4_ring 21 = .ok (.sipush 200, 3) := by decide +kernel
theorem dX4_ring_24 : decode cX4_ring 24 = .ok (.invokestatic 26, 3) := by decide +kernel
theorem dX4_ring_27 : decode cX4_ring 27 = .ok (.ifCond .ne 9, 3) := by decide +kernel
theorem dX4_ring_30 : decode cX4_ring 30 = .ok (.aload_n 0, 1) := by decide +kernel
theorem dX4_ring_31 : decode cX4_ring 31 = .ok (.iconst 2, 1) := by decide +kernel
theorem dX4_ring_32 : decode cX4_ring 32 = .ok (.invokevirtual 51, 3) := by decide +kernel
theorem dX4_ring_35 : decode cX4_ring 35 = .ok (.ireturn, 1) := by decide +kernel
theorem dX4_ring_36 : decode cX4_ring 36 = .ok (.aload_n 0, 1) := by decide +kernel
theorem dX4_ring_37 : decode cX4_ring 37 = .ok (.getfield 48, 3) := by decide +kernel
theorem dX4_ring_40 : decode cX4_ring 40 = .ok (.ifCond .ne 10, 3) := by decide +kernel
theorem dX4_ring_43 : decode cX4_ring 43 = .ok (.aload_n 0, 1) := by decide +kernel
theorem dX4_ring_44 : decode cX4_ring 44 = .ok (.getfield 13, 3) := by decide +kernel
theorem dX4_ring_47 : decode cX4_ring 47 = .ok (.iload_n 1, 1) := by decide +kernel
theorem dX4_ring_48 : decode cX4_ring 48 = .ok (.iaload, 1) := by decide +kernel
theorem dX4_ring_49 : decode cX4_ring 49 = .ok (.ireturn, 1) := by decide +kernel
theorem dX4_ring_50 : decode cX4_ring 50 = .ok (.aload_n 0, 1) := by decide +kernel
theorem dX4_ring_51 : decode cX4_ring 51 = .ok (.aload_n 0, 1) := by decide +kernel
theorem dX4_ring_52 : decode cX4_ring 52 = .ok (.getfield 13, 3) := by decide +kernel
theorem dX4_ring_55 : decode cX4_ring 55 = .ok (.iload_n 1, 1) := by decide +kernel
theorem dX4_ring_56 : decode cX4_ring 56 = .ok (.iaload, 1) := by decide +kernel
theorem dX4_ring_57 : decode cX4_ring 57 = .ok (.invokevirtual 65, 3) := by decide +kernel
theorem dX4_ring_60 : decode cX4_ring 60 = .ok (.astore_n 3, 1) := by decide +kernel
theorem dX4_ring_61 : decode cX4_ring 61 = .ok (.iconst 0, 1) := by decide +kernel
theorem dX4_ring_62 : decode cX4_ring 62 = .ok (.istore 4, 2) := by decide +kernel
theorem dX4_ring_64 : decode cX4_ring 64 = .ok (.iload 4, 2) := by decide +kernel
theorem dX4_ring_66 : decode cX4_ring 66 = .ok (.iload_n 2, 1) := by decide +kernel
theorem dX4_ring_67 : decode cX4_ring 67 = .ok (.if_icmp .ge 16, 3) := by decide +kernel
theorem dX4_ring_70 : decode cX4_ring 70 = .ok (.aload_n 0, 1) := by decide +kernel
theorem dX4_ring_71 : decode cX4_ring 71 = .ok (.aload_n 3, 1) := by decide +kernel
theorem dX4_ring_72 : decode cX4_ring 72 = .ok (.iload 4, 2) := by decide +kernel
theorem dX4_ring_74 : decode cX4_ring 74 = .ok (.invokevirtual 87, 3) := by decide +kernel
theorem dX4_ring_77 : decode cX4_ring 77 = .ok (.iinc 4 1, 3) := by decide +kernel
theorem dX4_ring_80 : decode cX4_ring 80 = .ok (.goto (-16), 3) := by decide +kernel
theorem dX4_ring_83 : decode cX4_ring 83 = .ok (.aload_n 0, 1) := by decide +kernel
theorem dX4_ring_84 : decode cX4_ring 84 = .ok (.dup, 1) := by decide +kernel
theorem dX4_ring_85 : decode cX4_ring 85 = .ok (.getfield 91, 3) := by decide +kernel
theorem dX4_ring_88 : decode cX4_ring 88 = .ok (.iload_n 2, 1) := by decide +kernel
theorem dX4_ring_89 : decode cX4_ring 89 = .ok (.iadd, 1) := by decide +kernel
theorem dX4_ring_90 : decode cX4_ring 90 = .ok (.putfield 91, 3) := by decide +kernel
theorem dX4_ring_93 : decode cX4_ring 93 = .ok (.aload_n 0, 1) := by decide +kernel
theorem dX4_ring_94 : decode cX4_ring 94 = .ok (.iload_n 1, 1) := by decide +kernel
theorem dX4_ring_95 : decode cX4_ring 95 = .ok (.aload_n 3, 1) := by decide +kernel
theorem dX4_ring_96 : decode cX4_ring 96 = .ok (.invokevirtual 69, 3) := by decide +kernel
theorem dX4_ring_99 : decode cX4_ring 99 = .ok (.ireturn, 1) := by decide +kernel
theorem dX4_bell_0 : decode cX4_bell 0 = .ok (.aload_n 0, 1) := by decide +kernel
theorem dX4_bell_1 : decode cX4_bell 1 = .ok (.iconst 0, 1) := by decide +kernel
theorem dX4_bell_2 : decode cX4_bell 2 = .ok (.putfield 20, 3) := by decide +kernel
theorem dX4_bell_5 : decode cX4_bell 5 = .ok (.aload_n 0, 1) := by decide +kernel
theorem dX4_bell_6 : decode cX4_bell 6 = .ok (.iload_n 1, 1) := by decide +kernel
theorem dX4_bell_7 : decode cX4_bell 7 = .ok (.invokevirtual 61, 3) := by decide +kernel
theorem dX4_bell_10 : decode cX4_bell 10 = .ok (.ifCond .eq 26, 3) := by decide +kernel
theorem dX4_bell_13 : decode cX4_bell 13 = .ok (.aload_n 0, 1) := by decide +kernel
theorem dX4_bell_14 : decode cX4_bell 14 = .ok (.iload_n 2, 1) := by decide +kernel
theorem dX4_bell_15 : decode cX4_bell 15 = .ok (.invokevirtual 94, 3) := by decide +kernel
theorem dX4_bell_18 : decode cX4_bell 18 = .ok (.ifCond .eq 18, 3) := by decide +kernel
theorem dX4_bell_21 : decode cX4_bell 21 = .ok (.aload_n 0, 1) := by decide +kernel
theorem dX4_bell_22 : decode cX4_bell 22 = .ok (.aload_n 0, 1) := by decide +kernel
theorem dX4_bell_23 : decode cX4_bell 23 = .ok (.getfield 13, 3) := by decide +kernel
theorem dX4_bell_26 : decode cX4_bell 26 = .ok (.iload_n 1, 1) := by decide +kernel
theorem dX4_bell_27 : decode cX4_bell 27 = .ok (.iaload, 1) := by decide +kernel
theorem dX4_bell_28 : decode cX4_bell 28 = .ok (.invokevirtual 65, 3) := by decide +kernel
theorem dX4_bell_31 : decode cX4_bell 31 = .ok (.iload_n 2, 1) := by decide +kernel
theorem dX4_bell_32 : decode cX4_bell 32 = .ok (.iaload, 1) := by decide +kernel
theorem dX4_bell_33 : decode cX4_bell 33 = .ok (.goto 8, 3) := by decide +kernel
theorem dX4_bell_36 : decode cX4_bell 36 = .ok (.aload_n 0, 1) := by decide +kernel
theorem dX4_bell_37 : decode cX4_bell 37 = .ok (.iconst 1, 1) := by decide +kernel
theorem dX4_bell_38 : decode cX4_bell 38 = .ok (.invokevirtual 51, 3) := by decide +kernel
theorem dX4_bell_41 : decode cX4_bell 41 = .ok (.ireturn, 1) := by decide +kernel
theorem dX4_toldOf_0 : decode cX4_toldOf 0 = .ok (.iconst 0, 1) := by decide +kernel
theorem dX4_toldOf_1 : decode cX4_toldOf 1 = .ok (.istore_n 3, 1) := by decide +kernel
theorem dX4_toldOf_2 : decode cX4_toldOf 2 = .ok (.iload_n 2, 1) := by decide +kernel
theorem dX4_toldOf_3 : decode cX4_toldOf 3 = .ok (.tableswitch 174 0 6 #[41, 47, 53, 61, 99, 131, 137], 41) := by decide +kernel
theorem dX4_toldOf_44 : decode cX4_toldOf 44 = .ok (.aload_n 0, 1) := by decide +kernel
theorem dX4_toldOf_45 : decode cX4_toldOf 45 = .ok (.aload_n 1, 1) := by decide +kernel
theorem dX4_toldOf_46 : decode cX4_toldOf 46 = .ok (.invokevirtual 54, 3) := by decide +kernel
theorem dX4_toldOf_49 : decode cX4_toldOf 49 = .ok (.ireturn, 1) := by decide +kernel
theorem dX4_toldOf_50 : decode cX4_toldOf 50 = .ok (.aload_n 0, 1) := by decide +kernel
theorem dX4_toldOf_51 : decode cX4_toldOf 51 = .ok (.aload_n 1, 1) := by decide +kernel
theorem dX4_toldOf_52 : decode cX4_toldOf 52 = .ok (.invokevirtual 97, 3) := by decide +kernel
theorem dX4_toldOf_55 : decode cX4_toldOf 55 = .ok (.ireturn, 1) := by decide +kernel
theorem dX4_toldOf_56 : decode cX4_toldOf 56 = .ok (.aload_n 0, 1) := by decide +kernel
theorem dX4_toldOf_57 : decode cX4_toldOf 57 = .ok (.aload_n 1, 1) := by decide +kernel
theorem dX4_toldOf_58 : decode cX4_toldOf 58 = .ok (.invokevirtual 97, 3) := by decide +kernel
theorem dX4_toldOf_61 : decode cX4_toldOf 61 = .ok (.iconst 2, 1) := by decide +kernel
theorem dX4_toldOf_62 : decode cX4_toldOf 62 = .ok (.irem, 1) := by decide +kernel
theorem dX4_toldOf_63 : decode cX4_toldOf 63 = .ok (.ireturn, 1) := by decide +kernel
theorem dX4_toldOf_64 : decode cX4_toldOf 64 = .ok (.iconst 0, 1) := by decide +kernel
theorem dX4_toldOf_65 : decode cX4_toldOf 65 = .ok (.istore 4, 2) := by decide +kernel
theorem dX4_toldOf_67 : decode cX4_toldOf 67 = .ok (.iload 4, 2) := by decide +kernel
theorem dX4_toldOf_69 : decode cX4_toldOf 69 = .ok (.aload_n 0, 1) := by decide +kernel
theorem dX4_toldOf_70 : decode cX4_toldOf 70 = .ok (.getfield 7, 3) := by decide +kernel
theorem dX4_toldOf_73 : decode cX4_toldOf 73 = .ok (.if_icmp .ge 27, 3) := by decide +kernel
theorem dX4_toldOf_76 : decode cX4_toldOf 76 = .ok (.iload_n 3, 1) := by decide +kernel
theorem dX4_toldOf_77 : decode cX4_toldOf 77 = .ok (.aload_n 0, 1) := by decide +kernel
theorem dX4_toldOf_78 : decode cX4_toldOf 78 = .ok (.aload_n 1, 1) := by decide +kernel
theorem dX4_toldOf_79 : decode cX4_toldOf 79 = .ok (.iload 4, 2) := by decide +kernel
theorem dX4_toldOf_81 : decode cX4_toldOf 81 = .ok (.invokevirtual 100, 3) := by decide +kernel
theorem dX4_toldOf_84 : decode cX4_toldOf 84 = .ok (.ifCond .eq 7, 3) := by decide +kernel
theorem dX4_toldOf_87 : decode cX4_toldOf 87 = .ok (.iconst 1, 1) := by decide +kernel
theorem dX4_toldOf_88 : decode cX4_toldOf 88 = .ok (.goto 4, 3) := by decide +kernel
theorem dX4_toldOf_91 : decode cX4_toldOf 91 = .ok (.iconst 0, 1) := by decide +kernel
theorem dX4_toldOf_92 : decode cX4_toldOf 92 = .ok (.iadd, 1) := by decide +kernel
theorem dX4_toldOf_93 : decode cX4_toldOf 93 = .ok (.istore_n 3, 1) := by decide +kernel
theorem dX4_toldOf_94 : decode cX4_toldOf 94 = .ok (.iinc 4 1, 3) := by decide +kernel
theorem dX4_toldOf_97 : decode cX4_toldOf 97 = .ok (.goto (-30), 3) := by decide +kernel
theorem dX4_toldOf_100 : decode cX4_toldOf 100 = .ok (.iload_n 3, 1) := by decide +kernel
theorem dX4_toldOf_101 : decode cX4_toldOf 101 = .ok (.ireturn, 1) := by decide +kernel
theorem dX4_toldOf_102 : decode cX4_toldOf 102 = .ok (.iconst 0, 1) := by decide +kernel
theorem dX4_toldOf_103 : decode cX4_toldOf 103 = .ok (.istore 4, 2) := by decide +kernel
theorem dX4_toldOf_105 : decode cX4_toldOf 105 = .ok (.iload 4, 2) := by decide +kernel
theorem dX4_toldOf_107 : decode cX4_toldOf 107 = .ok (.aload_n 0, 1) := by decide +kernel
theorem dX4_toldOf_108 : decode cX4_toldOf 108 = .ok (.getfield 7, 3) := by decide +kernel
theorem dX4_toldOf_111 : decode cX4_toldOf 111 = .ok (.if_icmp .ge 21, 3) := by decide +kernel
theorem dX4_toldOf_114 : decode cX4_toldOf 114 = .ok (.iload_n 3, 1) := by decide +kernel
theorem dX4_toldOf_115 : decode cX4_toldOf 115 = .ok (.aload_n 0, 1) := by decide +kernel
theorem dX4_toldOf_116 : decode cX4_toldOf 116 = .ok (.aload_n 1, 1) := by decide +kernel
theorem dX4_toldOf_117 : decode cX4_toldOf 117 = .ok (.iload 4, 2) := by decide +kernel
theorem dX4_toldOf_119 : decode cX4_toldOf 119 = .ok (.invokevirtual 45, 3) := by decide +kernel
theorem dX4_toldOf_122 : decode cX4_toldOf 122 = .ok (.invokestatic 104, 3) := by decide +kernel
theorem dX4_toldOf_125 : decode cX4_toldOf 125 = .ok (.istore_n 3, 1) := by decide +kernel
theorem dX4_toldOf_126 : decode cX4_toldOf 126 = .ok (.iinc 4 1, 3) := by decide +kernel
theorem dX4_toldOf_129 : decode cX4_toldOf 129 = .ok (.goto (-24), 3) := by decide +kernel
theorem dX4_toldOf_132 : decode cX4_toldOf 132 = .ok (.iload_n 3, 1) := by decide +kernel
theorem dX4_toldOf_133 : decode cX4_toldOf 133 = .ok (.ireturn, 1) := by decide +kernel
theorem dX4_toldOf_134 : decode cX4_toldOf 134 = .ok (.aload_n 0, 1) := by decide +kernel
theorem dX4_toldOf_135 : decode cX4_toldOf 135 = .ok (.aload_n 1, 1) := by decide +kernel
theorem dX4_toldOf_136 : decode cX4_toldOf 136 = .ok (.invokevirtual 81, 3) := by decide +kernel
theorem dX4_toldOf_139 : decode cX4_toldOf 139 = .ok (.ireturn, 1) := by decide +kernel
theorem dX4_toldOf_140 : decode cX4_toldOf 140 = .ok (.iconst 0, 1) := by decide +kernel
theorem dX4_toldOf_141 : decode cX4_toldOf 141 = .ok (.istore 4, 2) := by decide +kernel
theorem dX4_toldOf_143 : decode cX4_toldOf 143 = .ok (.iload 4, 2) := by decide +kernel
theorem dX4_toldOf_145 : decode cX4_toldOf 145 = .ok (.aload_n 0, 1) := by decide +kernel
theorem dX4_toldOf_146 : decode cX4_toldOf 146 = .ok (.getfield 7, 3) := by decide +kernel
theorem dX4_toldOf_149 : decode cX4_toldOf 149 = .ok (.if_icmp .ge 26, 3) := by decide +kernel
theorem dX4_toldOf_152 : decode cX4_toldOf 152 = .ok (.iload_n 3, 1) := by decide +kernel
theorem dX4_toldOf_153 : decode cX4_toldOf 153 = .ok (.aload_n 1, 1) := by decide +kernel
theorem dX4_toldOf_154 : decode cX4_toldOf 154 = .ok (.iload 4, 2) := by decide +kernel
theorem dX4_toldOf_156 : decode cX4_toldOf 156 = .ok (.iaload, 1) := by decide +kernel
theorem dX4_toldOf_157 : decode cX4_toldOf 157 = .ok (.iload 4, 2) := by decide +kernel
theorem dX4_toldOf_159 : decode cX4_toldOf 159 = .ok (.if_icmp .ne 7, 3) := by decide +kernel
theorem dX4_toldOf_162 : decode cX4_toldOf 162 = .ok (.iconst 1, 1) := by decide +kernel
theorem dX4_toldOf_163 : decode cX4_toldOf 163 = .ok (.goto 4, 3) := by decide +kernel
theorem dX4_toldOf_166 : decode cX4_toldOf 166 = .ok (.iconst 0, 1) := by decide +kernel
theorem dX4_toldOf_167 : decode cX4_toldOf 167 = .ok (.iadd, 1) := by decide +kernel
theorem dX4_toldOf_168 : decode cX4_toldOf 168 = .ok (.istore_n 3, 1) := by decide +kernel
theorem dX4_toldOf_169 : decode cX4_toldOf 169 = .ok (.iinc 4 1, 3) := by decide +kernel
theorem dX4_toldOf_172 : decode cX4_toldOf 172 = .ok (.goto (-29), 3) := by decide +kernel
theorem dX4_toldOf_175 : decode cX4_toldOf 175 = .ok (.iload_n 3, 1) := by decide +kernel
theorem dX4_toldOf_176 : decode cX4_toldOf 176 = .ok (.ireturn, 1) := by decide +kernel
theorem dX4_toldOf_177 : decode cX4_toldOf 177 = .ok (.aload_n 0, 1) := by decide +kernel
theorem dX4_toldOf_178 : decode cX4_toldOf 178 = .ok (.aload_n 1, 1) := by decide +kernel
theorem dX4_toldOf_179 : decode cX4_toldOf 179 = .ok (.invokevirtual 77, 3) := by decide +kernel
theorem dX4_toldOf_182 : decode cX4_toldOf 182 = .ok (.iconst 0, 1) := by decide +kernel
theorem dX4_toldOf_183 : decode cX4_toldOf 183 = .ok (.iaload, 1) := by decide +kernel
theorem dX4_toldOf_184 : decode cX4_toldOf 184 = .ok (.ireturn, 1) := by decide +kernel
theorem dX4_told_0 : decode cX4_told 0 = .ok (.aload_n 0, 1) := by decide +kernel
theorem dX4_told_1 : decode cX4_told 1 = .ok (.iconst 0, 1) := by decide +kernel
theorem dX4_told_2 : decode cX4_told 2 = .ok (.putfield 20, 3) := by decide +kernel
theorem dX4_told_5 : decode cX4_told 5 = .ok (.aload_n 0, 1) := by decide +kernel
theorem dX4_told_6 : decode cX4_told 6 = .ok (.iload_n 1, 1) := by decide +kernel
theorem dX4_told_7 : decode cX4_told 7 = .ok (.invokevirtual 61, 3) := by decide +kernel
theorem dX4_told_10 : decode cX4_told 10 = .ok (.ifCond .eq 31, 3) := by decide +kernel
theorem dX4_told_13 : decode cX4_told 13 = .ok (.iload_n 2, 1) := by decide +kernel
theorem dX4_told_14 : decode cX4_told 14 = .ok (.iconst 0, 1) := by decide +kernel
theorem dX4_told_15 : decode cX4_told 15 = .ok (.bipush 7, 2) := by decide +kernel
theorem dX4_told_17 : decode cX4_told 17 = .ok (.invokestatic 26, 3) := by decide +kernel
theorem dX4_told_20 : decode cX4_told 20 = .ok (.ifCond .eq 21, 3) := by decide +kernel
theorem dX4_told_23 : decode cX4_told 23 = .ok (.aload_n 0, 1) := by decide +kernel
theorem dX4_told_24 : decode cX4_told 24 = .ok (.aload_n 0, 1) := by decide +kernel
theorem dX4_told_25 : decode cX4_told 25 = .ok (.aload_n 0, 1) := by decide +kernel
theorem dX4_told_26 : decode cX4_told 26 = .ok (.getfield 13, 3) := by decide +kernel
theorem dX4_told_29 : decode cX4_told 29 = .ok (.iload_n 1, 1) := by decide +kernel
theorem dX4_told_30 : decode cX4_told 30 = .ok (.iaload, 1) := by decide +kernel
theorem dX4_told_31 : decode cX4_told 31 = .ok (.invokevirtual 65, 3) := by decide +kernel
theorem dX4_told_34 : decode cX4_told 34 = .ok (.iload_n 2, 1) := by decide +kernel
theorem dX4_told_35 : decode cX4_told 35 = .ok (.invokevirtual 109, 3) := by decide +kernel
theorem dX4_told_38 : decode cX4_told 38 = .ok (.goto 8, 3) := by decide +kernel
theorem dX4_told_41 : decode cX4_told 41 = .ok (.aload_n 0, 1) := by decide +kernel
theorem dX4_told_42 : decode cX4_told 42 = .ok (.iconst 1, 1) := by decide +kernel
theorem dX4_told_43 : decode cX4_told 43 = .ok (.invokevirtual 51, 3) := by decide +kernel
theorem dX4_told_46 : decode cX4_told 46 = .ok (.ireturn, 1) := by decide +kernel
theorem dX4_round_0 : decode cX4_round 0 = .ok (.aload_n 0, 1) := by decide +kernel
theorem dX4_round_1 : decode cX4_round 1 = .ok (.iconst 0, 1) := by decide +kernel
theorem dX4_round_2 : decode cX4_round 2 = .ok (.putfield 20, 3) := by decide +kernel
theorem dX4_round_5 : decode cX4_round 5 = .ok (.aload_n 0, 1) := by decide +kernel
theorem dX4_round_6 : decode cX4_round 6 = .ok (.iload_n 1, 1) := by decide +kernel
theorem dX4_round_7 : decode cX4_round 7 = .ok (.invokevirtual 61, 3) := by decide +kernel
theorem dX4_round_10 : decode cX4_round 10 = .ok (.ifCond .eq 29, 3) := by decide +kernel
theorem dX4_round_13 : decode cX4_round 13 = .ok (.aload_n 0, 1) := by decide +kernel
theorem dX4_round_14 : decode cX4_round 14 = .ok (.iload_n 2, 1) := by decide +kernel
theorem dX4_round_15 : decode cX4_round 15 = .ok (.invokevirtual 94, 3) := by decide +kernel
theorem dX4_round_18 : decode cX4_round 18 = .ok (.ifCond .eq 21, 3) := by decide +kernel
theorem dX4_round_21 : decode cX4_round 21 = .ok (.aload_n 0, 1) := by decide +kernel
theorem dX4_round_22 : decode cX4_round 22 = .ok (.aload_n 0, 1) := by decide +kernel
theorem dX4_round_23 : decode cX4_round 23 = .ok (.aload_n 0, 1) := by decide +kernel
theorem dX4_round_24 : decode cX4_round 24 = .ok (.getfield 13, 3) := by decide +kernel
theorem dX4_round_27 : decode cX4_round 27 = .ok (.iload_n 1, 1) := by decide +kernel
theorem dX4_round_28 : decode cX4_round 28 = .ok (.iaload, 1) := by decide +kernel
theorem dX4_round_29 : decode cX4_round 29 = .ok (.invokevirtual 65, 3) := by decide +kernel
theorem dX4_round_32 : decode cX4_round 32 = .ok (.iload_n 2, 1) := by decide +kernel
theorem dX4_round_33 : decode cX4_round 33 = .ok (.invokevirtual 45, 3) := by decide +kernel
theorem dX4_round_36 : decode cX4_round 36 = .ok (.goto 8, 3) := by decide +kernel
theorem dX4_round_39 : decode cX4_round 39 = .ok (.aload_n 0, 1) := by decide +kernel
theorem dX4_round_40 : decode cX4_round 40 = .ok (.iconst 1, 1) := by decide +kernel
theorem dX4_round_41 : decode cX4_round 41 = .ok (.invokevirtual 51, 3) := by decide +kernel
theorem dX4_round_44 : decode cX4_round 44 = .ok (.ireturn, 1) := by decide +kernel
theorem dX4_apart_0 : decode cX4_apart 0 = .ok (.aload_n 0, 1) := by decide +kernel
theorem dX4_apart_1 : decode cX4_apart 1 = .ok (.iconst 0, 1) := by decide +kernel
theorem dX4_apart_2 : decode cX4_apart 2 = .ok (.putfield 20, 3) := by decide +kernel
theorem dX4_apart_5 : decode cX4_apart 5 = .ok (.aload_n 0, 1) := by decide +kernel
theorem dX4_apart_6 : decode cX4_apart 6 = .ok (.iload_n 1, 1) := by decide +kernel
theorem dX4_apart_7 : decode cX4_apart 7 = .ok (.invokevirtual 61, 3) := by decide +kernel
theorem dX4_apart_10 : decode cX4_apart 10 = .ok (.ifCond .eq 11, 3) := by decide +kernel
theorem dX4_apart_13 : decode cX4_apart 13 = .ok (.aload_n 0, 1) := by decide +kernel
theorem dX4_apart_14 : decode cX4_apart 14 = .ok (.iload_n 2, 1) := by decide +kernel
theorem dX4_apart_15 : decode cX4_apart 15 = .ok (.invokevirtual 61, 3) := by decide +kernel
theorem dX4_apart_18 : decode cX4_apart 18 = .ok (.ifCond .ne 9, 3) := by decide +kernel
theorem dX4_apart_21 : decode cX4_apart 21 = .ok (.aload_n 0, 1) := by decide +kernel
theorem dX4_apart_22 : decode cX4_apart 22 = .ok (.iconst 1, 1) := by decide +kernel
theorem dX4_apart_23 : decode cX4_apart 23 = .ok (.invokevirtual 51, 3) := by decide +kernel
theorem dX4_apart_26 : decode cX4_apart 26 = .ok (.ireturn, 1) := by decide +kernel
theorem dX4_apart_27 : decode cX4_apart 27 = .ok (.aload_n 0, 1) := by decide +kernel
theorem dX4_apart_28 : decode cX4_apart 28 = .ok (.aload_n 0, 1) := by decide +kernel
theorem dX4_apart_29 : decode cX4_apart 29 = .ok (.aload_n 0, 1) := by decide +kernel
theorem dX4_apart_30 : decode cX4_apart 30 = .ok (.aload_n 0, 1) := by decide +kernel
theorem dX4_apart_31 : decode cX4_apart 31 = .ok (.aload_n 0, 1) := by decide +kernel
theorem dX4_apart_32 : decode cX4_apart 32 = .ok (.getfield 13, 3) := by decide +kernel
theorem dX4_apart_35 : decode cX4_apart 35 = .ok (.iload_n 2, 1) := by decide +kernel
theorem dX4_apart_36 : decode cX4_apart 36 = .ok (.iaload, 1) := by decide +kernel
theorem dX4_apart_37 : decode cX4_apart 37 = .ok (.invokevirtual 65, 3) := by decide +kernel
theorem dX4_apart_40 : decode cX4_apart 40 = .ok (.invokevirtual 77, 3) := by decide +kernel
theorem dX4_apart_43 : decode cX4_apart 43 = .ok (.aload_n 0, 1) := by decide +kernel
theorem dX4_apart_44 : decode cX4_apart 44 = .ok (.aload_n 0, 1) := by decide +kernel
theorem dX4_apart_45 : decode cX4_apart 45 = .ok (.getfield 13, 3) := by decide +kernel
theorem dX4_apart_48 : decode cX4_apart 48 = .ok (.iload_n 1, 1) := by decide +kernel
theorem dX4_apart_49 : decode cX4_apart 49 = .ok (.iaload, 1) := by decide +kernel
theorem dX4_apart_50 : decode cX4_apart 50 = .ok (.invokevirtual 65, 3) := by decide +kernel
theorem dX4_apart_53 : decode cX4_apart 53 = .ok (.invokevirtual 73, 3) := by decide +kernel
theorem dX4_apart_56 : decode cX4_apart 56 = .ok (.invokevirtual 97, 3) := by decide +kernel
theorem dX4_apart_59 : decode cX4_apart 59 = .ok (.ireturn, 1) := by decide +kernel
theorem dX4_different_0 : decode cX4_different 0 = .ok (.iconst 0, 1) := by decide +kernel
theorem dX4_different_1 : decode cX4_different 1 = .ok (.istore_n 1, 1) := by decide +kernel
theorem dX4_different_2 : decode cX4_different 2 = .ok (.iconst 0, 1) := by decide +kernel
theorem dX4_different_3 : decode cX4_different 3 = .ok (.istore_n 2, 1) := by decide +kernel
theorem dX4_different_4 : decode cX4_different 4 = .ok (.iload_n 2, 1) := by decide +kernel
theorem dX4_different_5 : decode cX4_different 5 = .ok (.aload_n 0, 1) := by decide +kernel
theorem dX4_different_6 : decode cX4_different 6 = .ok (.getfield 23, 3) := by decide +kernel
theorem dX4_different_9 : decode cX4_different 9 = .ok (.if_icmp .ge 62, 3) := by decide +kernel
theorem dX4_different_12 : decode cX4_different 12 = .ok (.iconst 1, 1) := by decide +kernel
theorem dX4_different_13 : decode cX4_different 13 = .ok (.istore_n 3, 1) := by decide +kernel
theorem dX4_different_14 : decode cX4_different 14 = .ok (.iconst 0, 1) := by decide +kernel
theorem dX4_different_15 : decode cX4_different 15 = .ok (.istore 4, 2) := by decide +kernel
theorem dX4_different_17 : decode cX4_different 17 = .ok (.iload 4, 2) := by decide +kernel
theorem dX4_different_19 : decode cX4_different 19 = .ok (.iload_n 2, 1) := by decide +kernel
theorem dX4_different_20 : decode cX4_different 20 = .ok (.if_icmp .ge 33, 3) := by decide +kernel
theorem dX4_different_23 : decode cX4_different 23 = .ok (.iload_n 3, 1) := by decide +kernel
theorem dX4_different_24 : decode cX4_different 24 = .ok (.aload_n 0, 1) := by decide +kernel
theorem dX4_different_25 : decode cX4_different 25 = .ok (.getfield 13, 3) := by decide +kernel
theorem dX4_different_28 : decode cX4_different 28 = .ok (.iload 4, 2) := by decide +kernel
theorem dX4_different_30 : decode cX4_different 30 = .ok (.iaload, 1) := by decide +kernel
theorem dX4_different_31 : decode cX4_different 31 = .ok (.aload_n 0, 1) := by decide +kernel
theorem dX4_different_32 : decode cX4_different 32 = .ok (.getfield 13, 3) := by decide +kernel
theorem dX4_different_35 : decode cX4_different 35 = .ok (.iload_n 2, 1) := by decide +kernel
theorem dX4_different_36 : decode cX4_different 36 = .ok (.iaload, 1) := by decide +kernel
theorem dX4_different_37 : decode cX4_different 37 = .ok (.if_icmp .eq 7, 3) := by decide +kernel
theorem dX4_different_40 : decode cX4_different 40 = .ok (.iconst 1, 1) := by decide +kernel
theorem dX4_different_41 : decode cX4_different 41 = .ok (.goto 4, 3) := by decide +kernel
theorem dX4_different_44 : decode cX4_different 44 = .ok (.iconst 0, 1) := by decide +kernel
theorem dX4_different_45 : decode cX4_different 45 = .ok (.iand, 1) := by decide +kernel
theorem dX4_different_46 : decode cX4_different 46 = .ok (.istore_n 3, 1) := by decide +kernel
theorem dX4_different_47 : decode cX4_different 47 = .ok (.iinc 4 1, 3) := by decide +kernel
theorem dX4_different_50 : decode cX4_different 50 = .ok (.goto (-33), 3) := by decide +kernel
theorem dX4_different_53 : decode cX4_different 53 = .ok (.iload_n 1, 1) := by decide +kernel
theorem dX4_different_54 : decode cX4_different 54 = .ok (.iload_n 3, 1) := by decide +kernel
theorem dX4_different_55 : decode cX4_different 55 = .ok (.ifCond .eq 7, 3) := by decide +kernel
theorem dX4_different_58 : decode cX4_different 58 = .ok (.iconst 1, 1) := by decide +kernel
theorem dX4_different_59 : decode cX4_different 59 = .ok (.goto 4, 3) := by decide +kernel
theorem dX4_different_62 : decode cX4_different 62 = .ok (.iconst 0, 1) := by decide +kernel
theorem dX4_different_63 : decode cX4_different 63 = .ok (.iadd, 1) := by decide +kernel
theorem dX4_different_64 : decode cX4_different 64 = .ok (.istore_n 1, 1) := by decide +kernel
theorem dX4_different_65 : decode cX4_different 65 = .ok (.iinc 2 1, 3) := by decide +kernel
theorem dX4_different_68 : decode cX4_different 68 = .ok (.goto (-64), 3) := by decide +kernel
theorem dX4_different_71 : decode cX4_different 71 = .ok (.iload_n 1, 1) := by decide +kernel
theorem dX4_different_72 : decode cX4_different 72 = .ok (.ireturn, 1) := by decide +kernel
theorem dX4_counted_0 : decode cX4_counted 0 = .ok (.iload_n 1, 1) := by decide +kernel
theorem dX4_counted_1 : decode cX4_counted 1 = .ok (.tableswitch 63 0 4 #[35, 40, 48, 53, 58], 35) := by decide +kernel
theorem dX4_counted_36 : decode cX4_counted 36 = .ok (.aload_n 0, 1) := by decide +kernel
theorem dX4_counted_37 : decode cX4_counted 37 = .ok (.getfield 7, 3) := by decide +kernel
theorem dX4_counted_40 : decode cX4_counted 40 = .ok (.ireturn, 1) := by decide +kernel
theorem dX4_counted_41 : decode cX4_counted 41 = .ok (.aload_n 0, 1) := by decide +kernel
theorem dX4_counted_42 : decode cX4_counted 42 = .ok (.getfield 7, 3) := by decide +kernel
theorem dX4_counted_45 : decode cX4_counted 45 = .ok (.invokestatic 30, 3) := by decide +kernel
theorem dX4_counted_48 : decode cX4_counted 48 = .ok (.ireturn, 1) := by decide +kernel
theorem dX4_counted_49 : decode cX4_counted 49 = .ok (.aload_n 0, 1) := by decide +kernel
theorem dX4_counted_50 : decode cX4_counted 50 = .ok (.getfield 23, 3) := by decide +kernel
theorem dX4_counted_53 : decode cX4_counted 53 = .ok (.ireturn, 1) := by decide +kernel
theorem dX4_counted_54 : decode cX4_counted 54 = .ok (.aload_n 0, 1) := by decide +kernel
theorem dX4_counted_55 : decode cX4_counted 55 = .ok (.invokevirtual 112, 3) := by decide +kernel
theorem dX4_counted_58 : decode cX4_counted 58 = .ok (.ireturn, 1) := by decide +kernel
theorem dX4_counted_59 : decode cX4_counted 59 = .ok (.aload_n 0, 1) := by decide +kernel
theorem dX4_counted_60 : decode cX4_counted 60 = .ok (.getfield 48, 3) := by decide +kernel
theorem dX4_counted_63 : decode cX4_counted 63 = .ok (.ireturn, 1) := by decide +kernel
theorem dX4_counted_64 : decode cX4_counted 64 = .ok (.aload_n 0, 1) := by decide +kernel
theorem dX4_counted_65 : decode cX4_counted 65 = .ok (.getfield 91, 3) := by decide +kernel
theorem dX4_counted_68 : decode cX4_counted 68 = .ok (.ireturn, 1) := by decide +kernel
theorem dX4_count_0 : decode cX4_count 0 = .ok (.aload_n 0, 1) := by decide +kernel
theorem dX4_count_1 : decode cX4_count 1 = .ok (.iconst 0, 1) := by decide +kernel
theorem dX4_count_2 : decode cX4_count 2 = .ok (.putfield 20, 3) := by decide +kernel
theorem dX4_count_5 : decode cX4_count 5 = .ok (.iload_n 1, 1) := by decide +kernel
theorem dX4_count_6 : decode cX4_count 6 = .ok (.iconst 0, 1) := by decide +kernel
theorem dX4_count_7 : decode cX4_count 7 = .ok (.iconst 5, 1) := by decide +kernel
theorem dX4_count_8 : decode cX4_count 8 = .ok (.invokestatic 26, 3) := by decide +kernel
theorem dX4_count_11 : decode cX4_count 11 = .ok (.ifCond .eq 11, 3) := by decide +kernel
theorem dX4_count_14 : decode cX4_count 14 = .ok (.aload_n 0, 1) := by decide +kernel
theorem dX4_count_15 : decode cX4_count 15 = .ok (.iload_n 1, 1) := by decide +kernel
theorem dX4_count_16 : decode cX4_count 16 = .ok (.invokevirtual 116, 3) := by decide +kernel
theorem dX4_count_19 : decode cX4_count 19 = .ok (.goto 8, 3) := by decide +kernel
theorem dX4_count_22 : decode cX4_count 22 = .ok (.aload_n 0, 1) := by decide +kernel
theorem dX4_count_23 : decode cX4_count 23 = .ok (.iconst 1, 1) := by decide +kernel
theorem dX4_count_24 : decode cX4_count 24 = .ok (.invokevirtual 51, 3) := by decide +kernel
theorem dX4_count_27 : decode cX4_count 27 = .ok (.ireturn, 1) := by decide +kernel
theorem dX4_kept_0 : decode cX4_kept 0 = .ok (.aload_n 0, 1) := by decide +kernel
theorem dX4_kept_1 : decode cX4_kept 1 = .ok (.iconst 0, 1) := by decide +kernel
theorem dX4_kept_2 : decode cX4_kept 2 = .ok (.putfield 20, 3) := by decide +kernel
theorem dX4_kept_5 : decode cX4_kept 5 = .ok (.iload_n 1, 1) := by decide +kernel
theorem dX4_kept_6 : decode cX4_kept 6 = .ok (.iconst 0, 1) := by decide +kernel
theorem dX4_kept_7 : decode cX4_kept 7 = .ok (.aload_n 0, 1) := by decide +kernel
theorem dX4_kept_8 : decode cX4_kept 8 = .ok (.getfield 48, 3) := by decide +kernel
theorem dX4_kept_11 : decode cX4_kept 11 = .ok (.iconst 1, 1) := by decide +kernel
theorem dX4_kept_12 : decode cX4_kept 12 = .ok (.isub, 1) := by decide +kernel
theorem dX4_kept_13 : decode cX4_kept 13 = .ok (.invokestatic 26, 3) := by decide +kernel
theorem dX4_kept_16 : decode cX4_kept 16 = .ok (.ifCond .eq 12, 3) := by decide +kernel
theorem dX4_kept_19 : decode cX4_kept 19 = .ok (.aload_n 0, 1) := by decide +kernel
theorem dX4_kept_20 : decode cX4_kept 20 = .ok (.getfield 17, 3) := by decide +kernel
theorem dX4_kept_23 : decode cX4_kept 23 = .ok (.iload_n 1, 1) := by decide +kernel
theorem dX4_kept_24 : decode cX4_kept 24 = .ok (.iaload, 1) := by decide +kernel
theorem dX4_kept_25 : decode cX4_kept 25 = .ok (.goto 8, 3) := by decide +kernel
theorem dX4_kept_28 : decode cX4_kept 28 = .ok (.aload_n 0, 1) := by decide +kernel
theorem dX4_kept_29 : decode cX4_kept 29 = .ok (.iconst 1, 1) := by decide +kernel
theorem dX4_kept_30 : decode cX4_kept 30 = .ok (.invokevirtual 51, 3) := by decide +kernel
theorem dX4_kept_33 : decode cX4_kept 33 = .ok (.ireturn, 1) := by decide +kernel
theorem dX4_comes_0 : decode cX4_comes 0 = .ok (.aload_n 0, 1) := by decide +kernel
theorem dX4_comes_1 : decode cX4_comes 1 = .ok (.iconst 0, 1) := by decide +kernel
theorem dX4_comes_2 : decode cX4_comes 2 = .ok (.putfield 20, 3) := by decide +kernel
theorem dX4_comes_5 : decode cX4_comes 5 = .ok (.aload_n 0, 1) := by decide +kernel
theorem dX4_comes_6 : decode cX4_comes 6 = .ok (.iload_n 1, 1) := by decide +kernel
theorem dX4_comes_7 : decode cX4_comes 7 = .ok (.invokevirtual 61, 3) := by decide +kernel
theorem dX4_comes_10 : decode cX4_comes 10 = .ok (.ifCond .ne 9, 3) := by decide +kernel
theorem dX4_comes_13 : decode cX4_comes 13 = .ok (.aload_n 0, 1) := by decide +kernel
theorem dX4_comes_14 : decode cX4_comes 14 = .ok (.iconst 1, 1) := by decide +kernel
theorem dX4_comes_15 : decode cX4_comes 15 = .ok (.invokevirtual 51, 3) := by decide +kernel
theorem dX4_comes_18 : decode cX4_comes 18 = .ok (.ireturn, 1) := by decide +kernel
theorem dX4_comes_19 : decode cX4_comes 19 = .ok (.aload_n 0, 1) := by decide +kernel
theorem dX4_comes_20 : decode cX4_comes 20 = .ok (.getfield 48, 3) := by decide +kernel
theorem dX4_comes_23 : decode cX4_comes 23 = .ok (.ifCond .ne 5, 3) := by decide +kernel
theorem dX4_comes_26 : decode cX4_comes 26 = .ok (.iconst (-1), 1) := by decide +kernel
theorem dX4_comes_27 : decode cX4_comes 27 = .ok (.ireturn, 1) := by decide +kernel
theorem dX4_comes_28 : decode cX4_comes 28 = .ok (.aload_n 0, 1) := by decide +kernel
theorem dX4_comes_29 : decode cX4_comes 29 = .ok (.aload_n 0, 1) := by decide +kernel
theorem dX4_comes_30 : decode cX4_comes 30 = .ok (.getfield 13, 3) := by decide +kernel
theorem dX4_comes_33 : decode cX4_comes 33 = .ok (.iload_n 1, 1) := by decide +kernel
theorem dX4_comes_34 : decode cX4_comes 34 = .ok (.iaload, 1) := by decide +kernel
theorem dX4_comes_35 : decode cX4_comes 35 = .ok (.invokevirtual 65, 3) := by decide +kernel
theorem dX4_comes_38 : decode cX4_comes 38 = .ok (.astore_n 2, 1) := by decide +kernel
theorem dX4_comes_39 : decode cX4_comes 39 = .ok (.iconst 0, 1) := by decide +kernel
theorem dX4_comes_40 : decode cX4_comes 40 = .ok (.istore_n 3, 1) := by decide +kernel
theorem dX4_comes_41 : decode cX4_comes 41 = .ok (.iload_n 3, 1) := by decide +kernel
theorem dX4_comes_42 : decode cX4_comes 42 = .ok (.sipush 400, 3) := by decide +kernel
theorem dX4_comes_45 : decode cX4_comes 45 = .ok (.if_icmp .ge 33, 3) := by decide +kernel
theorem dX4_comes_48 : decode cX4_comes 48 = .ok (.aload_n 0, 1) := by decide +kernel
theorem dX4_comes_49 : decode cX4_comes 49 = .ok (.aload_n 2, 1) := by decide +kernel
theorem dX4_comes_50 : decode cX4_comes 50 = .ok (.iload_n 3, 1) := by decide +kernel
theorem dX4_comes_51 : decode cX4_comes 51 = .ok (.invokevirtual 87, 3) := by decide +kernel
theorem dX4_comes_54 : decode cX4_comes 54 = .ok (.aload_n 0, 1) := by decide +kernel
theorem dX4_comes_55 : decode cX4_comes 55 = .ok (.aload_n 2, 1) := by decide +kernel
theorem dX4_comes_56 : decode cX4_comes 56 = .ok (.invokevirtual 54, 3) := by decide +kernel
theorem dX4_comes_59 : decode cX4_comes 59 = .ok (.aload_n 0, 1) := by decide +kernel
theorem dX4_comes_60 : decode cX4_comes 60 = .ok (.getfield 13, 3) := by decide +kernel
theorem dX4_comes_63 : decode cX4_comes 63 = .ok (.iload_n 1, 1) := by decide +kernel
theorem dX4_comes_64 : decode cX4_comes 64 = .ok (.iaload, 1) := by decide +kernel
theorem dX4_comes_65 : decode cX4_comes 65 = .ok (.if_icmp .ne 7, 3) := by decide +kernel
theorem dX4_comes_68 : decode cX4_comes 68 = .ok (.iload_n 3, 1) := by decide +kernel
theorem dX4_comes_69 : decode cX4_comes 69 = .ok (.iconst 1, 1) := by decide +kernel
theorem dX4_comes_70 : decode cX4_comes 70 = .ok (.iadd, 1) := by decide +kernel
theorem dX4_comes_71 : decode cX4_comes 71 = .ok (.ireturn, 1) := by decide +kernel
theorem dX4_comes_72 : decode cX4_comes 72 = .ok (.iinc 3 1, 3) := by decide +kernel
theorem dX4_comes_75 : decode cX4_comes 75 = .ok (.goto (-34), 3) := by decide +kernel
theorem dX4_comes_78 : decode cX4_comes 78 = .ok (.iconst (-1), 1) := by decide +kernel
theorem dX4_comes_79 : decode cX4_comes 79 = .ok (.ireturn, 1) := by decide +kernel
theorem dX4_differ_0 : decode cX4_differ 0 = .ok (.aload_n 0, 1) := by decide +kernel
theorem dX4_differ_1 : decode cX4_differ 1 = .ok (.iconst 0, 1) := by decide +kernel
theorem dX4_differ_2 : decode cX4_differ 2 = .ok (.putfield 20, 3) := by decide +kernel
theorem dX4_differ_5 : decode cX4_differ 5 = .ok (.iload_n 1, 1) := by decide +kernel
theorem dX4_differ_6 : decode cX4_differ 6 = .ok (.iconst 1, 1) := by decide +kernel
theorem dX4_differ_7 : decode cX4_differ 7 = .ok (.sipush 200, 3) := by decide +kernel
theorem dX4_differ_10 : decode cX4_differ 10 = .ok (.invokestatic 26, 3) := by decide +kernel
theorem dX4_differ_13 : decode cX4_differ 13 = .ok (.ifCond .ne 9, 3) := by decide +kernel
theorem dX4_differ_16 : decode cX4_differ 16 = .ok (.aload_n 0, 1) := by decide +kernel
theorem dX4_differ_17 : decode cX4_differ 17 = .ok (.iconst 1, 1) := by decide +kernel
theorem dX4_differ_18 : decode cX4_differ 18 = .ok (.invokevirtual 51, 3) := by decide +kernel
theorem dX4_differ_21 : decode cX4_differ 21 = .ok (.ireturn, 1) := by decide +kernel
theorem dX4_differ_22 : decode cX4_differ 22 = .ok (.aload_n 0, 1) := by decide +kernel
theorem dX4_differ_23 : decode cX4_differ 23 = .ok (.getfield 48, 3) := by decide +kernel
theorem dX4_differ_26 : decode cX4_differ 26 = .ok (.ifCond .ne 5, 3) := by decide +kernel
theorem dX4_differ_29 : decode cX4_differ 29 = .ok (.iconst 1, 1) := by decide +kernel
theorem dX4_differ_30 : decode cX4_differ 30 = .ok (.ireturn, 1) := by decide +kernel
theorem dX4_differ_31 : decode cX4_differ 31 = .ok (.iload_n 1, 1) := by decide +kernel
theorem dX4_differ_32 : decode cX4_differ 32 = .ok (.iconst 1, 1) := by decide +kernel
theorem dX4_differ_33 : decode cX4_differ 33 = .ok (.iadd, 1) := by decide +kernel
theorem dX4_differ_34 : decode cX4_differ 34 = .ok (.newarray .int, 2) := by decide +kernel
theorem dX4_differ_36 : decode cX4_differ 36 = .ok (.astore_n 2, 1) := by decide +kernel
theorem dX4_differ_37 : decode cX4_differ 37 = .ok (.iconst 1, 1) := by decide +kernel
theorem dX4_differ_38 : decode cX4_differ 38 = .ok (.istore_n 3, 1) := by decide +kernel
theorem dX4_differ_39 : decode cX4_differ 39 = .ok (.aload_n 0, 1) := by decide +kernel
theorem dX4_differ_40 : decode cX4_differ 40 = .ok (.iconst 0, 1) := by decide +kernel
theorem dX4_differ_41 : decode cX4_differ 41 = .ok (.invokevirtual 65, 3) := by decide +kernel
theorem dX4_differ_44 : decode cX4_differ 44 = .ok (.astore 4, 2) := by decide +kernel
theorem dX4_differ_46 : decode cX4_differ 46 = .ok (.iconst 0, 1) := by decide +kernel
theorem dX4_differ_47 : decode cX4_differ 47 = .ok (.istore 5, 2) := by decide +kernel
theorem dX4_differ_49 : decode cX4_differ 49 = .ok (.iload 5, 2) := by decide +kernel
theorem dX4_differ_51 : decode cX4_differ 51 = .ok (.iload_n 1, 1) := by decide +kernel
theorem dX4_differ_52 : decode cX4_differ 52 = .ok (.if_icmp .ge 82, 3) := by decide +kernel
theorem dX4_differ_55 : decode cX4_differ 55 = .ok (.aload_n 0, 1) := by decide +kernel
theorem dX4_differ_56 : decode cX4_differ 56 = .ok (.aload 4, 2) := by decide +kernel
theorem dX4_differ_58 : decode cX4_differ 58 = .ok (.iload 5, 2) := by decide +kernel
theorem dX4_differ_60 : decode cX4_differ 60 = .ok (.invokevirtual 87, 3) := by decide +kernel
theorem dX4_differ_63 : decode cX4_differ 63 = .ok (.aload_n 0, 1) := by decide +kernel
theorem dX4_differ_64 : decode cX4_differ 64 = .ok (.aload 4, 2) := by decide +kernel
theorem dX4_differ_66 : decode cX4_differ 66 = .ok (.invokevirtual 54, 3) := by decide +kernel
theorem dX4_differ_69 : decode cX4_differ 69 = .ok (.istore 6, 2) := by decide +kernel
theorem dX4_differ_71 : decode cX4_differ 71 = .ok (.iconst 1, 1) := by decide +kernel
theorem dX4_differ_72 : decode cX4_differ 72 = .ok (.istore 7, 2) := by decide +kernel
theorem dX4_differ_74 : decode cX4_differ 74 = .ok (.iconst 0, 1) := by decide +kernel
theorem dX4_differ_75 : decode cX4_differ 75 = .ok (.istore 8, 2) := by decide +kernel
theorem dX4_differ_77 : decode cX4_differ 77 = .ok (.iload 8, 2) := by decide +kernel
theorem dX4_differ_79 : decode cX4_differ 79 = .ok (.iload_n 3, 1) := by decide +kernel
theorem dX4_differ_80 : decode cX4_differ 80 = .ok (.if_icmp .ge 30, 3) := by decide +kernel
theorem dX4_differ_83 : decode cX4_differ 83 = .ok (.iload 7, 2) := by decide +kernel
theorem dX4_differ_85 : decode cX4_differ 85 = .ok (.ifCond .eq 25, 3) := by decide +kernel
theorem dX4_differ_88 : decode cX4_differ 88 = .ok (.aload_n 2, 1) := by decide +kernel
theorem dX4_differ_89 : decode cX4_differ 89 = .ok (.iload 8, 2) := by decide +kernel
theorem dX4_differ_91 : decode cX4_differ 91 = .ok (.iaload, 1) := by decide +kernel
theorem dX4_differ_92 : decode cX4_differ 92 = .ok (.iload 6, 2) := by decide +kernel
theorem dX4_differ_94 : decode cX4_differ 94 = .ok (.if_icmp .eq 7, 3) := by decide +kernel
theorem dX4_differ_97 : decode cX4_differ 97 = .ok (.iconst 1, 1) := by decide +kernel
theorem dX4_differ_98 : decode cX4_differ 98 = .ok (.goto 4, 3) := by decide +kernel
theorem dX4_differ_101 : decode cX4_differ 101 = .ok (.iconst 0, 1) := by decide +kernel
theorem dX4_differ_102 : decode cX4_differ 102 = .ok (.istore 7, 2) := by decide +kernel
theorem dX4_differ_104 : decode cX4_differ 104 = .ok (.iinc 8 1, 3) := by decide +kernel
theorem dX4_differ_107 : decode cX4_differ 107 = .ok (.goto (-30), 3) := by decide +kernel
theorem dX4_differ_110 : decode cX4_differ 110 = .ok (.aload_n 2, 1) := by decide +kernel
theorem dX4_differ_111 : decode cX4_differ 111 = .ok (.iload_n 3, 1) := by decide +kernel
theorem dX4_differ_112 : decode cX4_differ 112 = .ok (.iload 6, 2) := by decide +kernel
theorem dX4_differ_114 : decode cX4_differ 114 = .ok (.iastore, 1) := by decide +kernel
theorem dX4_differ_115 : decode cX4_differ 115 = .ok (.iload_n 3, 1) := by decide +kernel
theorem dX4_differ_116 : decode cX4_differ 116 = .ok (.iload 7, 2) := by decide +kernel
theorem dX4_differ_118 : decode cX4_differ 118 = .ok (.ifCond .eq 7, 3) := by decide +kernel
theorem dX4_differ_121 : decode cX4_differ 121 = .ok (.iconst 1, 1) := by decide +kernel
theorem dX4_differ_122 : decode cX4_differ 122 = .ok (.goto 4, 3) := by decide +kernel
theorem dX4_differ_125 : decode cX4_differ 125 = .ok (.iconst 0, 1) := by decide +kernel
theorem dX4_differ_126 : decode cX4_differ 126 = .ok (.iadd, 1) := by decide +kernel
theorem dX4_differ_127 : decode cX4_differ 127 = .ok (.istore_n 3, 1) := by decide +kernel
theorem dX4_differ_128 : decode cX4_differ 128 = .ok (.iinc 5 1, 3) := by decide +kernel
theorem dX4_differ_131 : decode cX4_differ 131 = .ok (.goto (-82), 3) := by decide +kernel
theorem dX4_differ_134 : decode cX4_differ 134 = .ok (.iload_n 3, 1) := by decide +kernel
theorem dX4_differ_135 : decode cX4_differ 135 = .ok (.ireturn, 1) := by decide +kernel
theorem dX4_advise_0 : decode cX4_advise 0 = .ok (.aload_n 0, 1) := by decide +kernel
theorem dX4_advise_1 : decode cX4_advise 1 = .ok (.iconst 0, 1) := by decide +kernel
theorem dX4_advise_2 : decode cX4_advise 2 = .ok (.putfield 20, 3) := by decide +kernel
theorem dX4_advise_5 : decode cX4_advise 5 = .ok (.aload_n 0, 1) := by decide +kernel
theorem dX4_advise_6 : decode cX4_advise 6 = .ok (.iload_n 1, 1) := by decide +kernel
theorem dX4_advise_7 : decode cX4_advise 7 = .ok (.invokevirtual 61, 3) := by decide +kernel
theorem dX4_advise_10 : decode cX4_advise 10 = .ok (.ifCond .ne 9, 3) := by decide +kernel
theorem dX4_advise_13 : decode cX4_advise 13 = .ok (.aload_n 0, 1) := by decide +kernel
theorem dX4_advise_14 : decode cX4_advise 14 = .ok (.iconst 1, 1) := by decide +kernel
theorem dX4_advise_15 : decode cX4_advise 15 = .ok (.invokevirtual 51, 3) := by decide +kernel
theorem dX4_advise_18 : decode cX4_advise 18 = .ok (.ireturn, 1) := by decide +kernel
theorem dX4_advise_19 : decode cX4_advise 19 = .ok (.aload_n 0, 1) := by decide +kernel
theorem dX4_advise_20 : decode cX4_advise 20 = .ok (.aload_n 0, 1) := by decide +kernel
theorem dX4_advise_21 : decode cX4_advise 21 = .ok (.getfield 13, 3) := by decide +kernel
theorem dX4_advise_24 : decode cX4_advise 24 = .ok (.iload_n 1, 1) := by decide +kernel
theorem dX4_advise_25 : decode cX4_advise 25 = .ok (.iaload, 1) := by decide +kernel
theorem dX4_advise_26 : decode cX4_advise 26 = .ok (.invokevirtual 65, 3) := by decide +kernel
theorem dX4_advise_29 : decode cX4_advise 29 = .ok (.astore_n 2, 1) := by decide +kernel
theorem dX4_advise_30 : decode cX4_advise 30 = .ok (.iconst (-1), 1) := by decide +kernel
theorem dX4_advise_31 : decode cX4_advise 31 = .ok (.istore_n 3, 1) := by decide +kernel
theorem dX4_advise_32 : decode cX4_advise 32 = .ok (.iconst 0, 1) := by decide +kernel
theorem dX4_advise_33 : decode cX4_advise 33 = .ok (.istore 4, 2) := by decide +kernel
theorem dX4_advise_35 : decode cX4_advise 35 = .ok (.iconst 0, 1) := by decide +kernel
theorem dX4_advise_36 : decode cX4_advise 36 = .ok (.istore 5, 2) := by decide +kernel
theorem dX4_advise_38 : decode cX4_advise 38 = .ok (.iload 5, 2) := by decide +kernel
theorem dX4_advise_40 : decode cX4_advise 40 = .ok (.aload_n 0, 1) := by decide +kernel
theorem dX4_advise_41 : decode cX4_advise 41 = .ok (.getfield 23, 3) := by decide +kernel
theorem dX4_advise_44 : decode cX4_advise 44 = .ok (.if_icmp .ge 53, 3) := by decide +kernel
theorem dX4_advise_47 : decode cX4_advise 47 = .ok (.aload_n 0, 1) := by decide +kernel
theorem dX4_advise_48 : decode cX4_advise 48 = .ok (.aload_n 0, 1) := by decide +kernel
theorem dX4_advise_49 : decode cX4_advise 49 = .ok (.aload_n 2, 1) := by decide +kernel
theorem dX4_advise_50 : decode cX4_advise 50 = .ok (.aload_n 0, 1) := by decide +kernel
theorem dX4_advise_51 : decode cX4_advise 51 = .ok (.aload_n 0, 1) := by decide +kernel
theorem dX4_advise_52 : decode cX4_advise 52 = .ok (.getfield 13, 3) := by decide +kernel
theorem dX4_advise_55 : decode cX4_advise 55 = .ok (.iload 5, 2) := by decide +kernel
theorem dX4_advise_57 : decode cX4_advise 57 = .ok (.iaload, 1) := by decide +kernel
theorem dX4_advise_58 : decode cX4_advise 58 = .ok (.invokevirtual 65, 3) := by decide +kernel
theorem dX4_advise_61 : decode cX4_advise 61 = .ok (.invokevirtual 73, 3) := by decide +kernel
theorem dX4_advise_64 : decode cX4_advise 64 = .ok (.invokevirtual 97, 3) := by decide +kernel
theorem dX4_advise_67 : decode cX4_advise 67 = .ok (.istore 6, 2) := by decide +kernel
theorem dX4_advise_69 : decode cX4_advise 69 = .ok (.iload_n 3, 1) := by decide +kernel
theorem dX4_advise_70 : decode cX4_advise 70 = .ok (.iconst (-1), 1) := by decide +kernel
theorem dX4_advise_71 : decode cX4_advise 71 = .ok (.if_icmp .eq 13, 3) := by decide +kernel
theorem dX4_advise_74 : decode cX4_advise 74 = .ok (.iload 6, 2) := by decide +kernel
theorem dX4_advise_76 : decode cX4_advise 76 = .ok (.iload 4, 2) := by decide +kernel
theorem dX4_advise_78 : decode cX4_advise 78 = .ok (.if_icmp .lt 6, 3) := by decide +kernel
theorem dX4_advise_81 : decode cX4_advise 81 = .ok (.goto 10, 3) := by decide +kernel
theorem dX4_advise_84 : decode cX4_advise 84 = .ok (.iload 5, 2) := by decide +kernel
theorem dX4_advise_86 : decode cX4_advise 86 = .ok (.istore_n 3, 1) := by decide +kernel
theorem dX4_advise_87 : decode cX4_advise 87 = .ok (.iload 6, 2) := by decide +kernel
theorem dX4_advise_89 : decode cX4_advise 89 = .ok (.istore 4, 2) := by decide +kernel
theorem dX4_advise_91 : decode cX4_advise 91 = .ok (.iinc 5 1, 3) := by decide +kernel
theorem dX4_advise_94 : decode cX4_advise 94 = .ok (.goto (-56), 3) := by decide +kernel
theorem dX4_advise_97 : decode cX4_advise 97 = .ok (.iload_n 3, 1) := by decide +kernel
theorem dX4_advise_98 : decode cX4_advise 98 = .ok (.ireturn, 1) := by decide +kernel
theorem dX4_mean_0 : decode cX4_mean 0 = .ok (.aload_n 0, 1) := by decide +kernel
theorem dX4_mean_1 : decode cX4_mean 1 = .ok (.iconst 0, 1) := by decide +kernel
theorem dX4_mean_2 : decode cX4_mean 2 = .ok (.putfield 20, 3) := by decide +kernel
theorem dX4_mean_5 : decode cX4_mean 5 = .ok (.iconst 0, 1) := by decide +kernel
theorem dX4_mean_6 : decode cX4_mean 6 = .ok (.istore_n 1, 1) := by decide +kernel
theorem dX4_mean_7 : decode cX4_mean 7 = .ok (.iconst 0, 1) := by decide +kernel
theorem dX4_mean_8 : decode cX4_mean 8 = .ok (.istore_n 2, 1) := by decide +kernel
theorem dX4_mean_9 : decode cX4_mean 9 = .ok (.iload_n 2, 1) := by decide +kernel
theorem dX4_mean_10 : decode cX4_mean 10 = .ok (.aload_n 0, 1) := by decide +kernel
theorem dX4_mean_11 : decode cX4_mean 11 = .ok (.getfield 23, 3) := by decide +kernel
theorem dX4_mean_14 : decode cX4_mean 14 = .ok (.if_icmp .ge 18, 3) := by decide +kernel
theorem dX4_mean_17 : decode cX4_mean 17 = .ok (.iload_n 1, 1) := by decide +kernel
theorem dX4_mean_18 : decode cX4_mean 18 = .ok (.aload_n 0, 1) := by decide +kernel
theorem dX4_mean_19 : decode cX4_mean 19 = .ok (.getfield 13, 3) := by decide +kernel
theorem dX4_mean_22 : decode cX4_mean 22 = .ok (.iload_n 2, 1) := by decide +kernel
theorem dX4_mean_23 : decode cX4_mean 23 = .ok (.iaload, 1) := by decide +kernel
theorem dX4_mean_24 : decode cX4_mean 24 = .ok (.iadd, 1) := by decide +kernel
theorem dX4_mean_25 : decode cX4_mean 25 = .ok (.istore_n 1, 1) := by decide +kernel
theorem dX4_mean_26 : decode cX4_mean 26 = .ok (.iinc 2 1, 3) := by decide +kernel
theorem dX4_mean_29 : decode cX4_mean 29 = .ok (.goto (-20), 3) := by decide +kernel
theorem dX4_mean_32 : decode cX4_mean 32 = .ok (.aload_n 0, 1) := by decide +kernel
theorem dX4_mean_33 : decode cX4_mean 33 = .ok (.getfield 23, 3) := by decide +kernel
theorem dX4_mean_36 : decode cX4_mean 36 = .ok (.ifCond .ne 7, 3) := by decide +kernel
theorem dX4_mean_39 : decode cX4_mean 39 = .ok (.dconst 0, 1) := by decide +kernel
theorem dX4_mean_40 : decode cX4_mean 40 = .ok (.goto 11, 3) := by decide +kernel
theorem dX4_mean_43 : decode cX4_mean 43 = .ok (.iload_n 1, 1) := by decide +kernel
theorem dX4_mean_44 : decode cX4_mean 44 = .ok (.i2d, 1) := by decide +kernel
theorem dX4_mean_45 : decode cX4_mean 45 = .ok (.aload_n 0, 1) := by decide +kernel
theorem dX4_mean_46 : decode cX4_mean 46 = .ok (.getfield 23, 3) := by decide +kernel
theorem dX4_mean_49 : decode cX4_mean 49 = .ok (.i2d, 1) := by decide +kernel
theorem dX4_mean_50 : decode cX4_mean 50 = .ok (.ddiv, 1) := by decide +kernel
theorem dX4_mean_51 : decode cX4_mean 51 = .ok (.dreturn, 1) := by decide +kernel
theorem dX4_digest_0 : decode cX4_digest 0 = .ok (.aload_n 0, 1) := by decide +kernel
theorem dX4_digest_1 : decode cX4_digest 1 = .ok (.iconst 0, 1) := by decide +kernel
theorem dX4_digest_2 : decode cX4_digest 2 = .ok (.putfield 20, 3) := by decide +kernel
theorem dX4_digest_5 : decode cX4_digest 5 = .ok (.ldc2_w 119, 3) := by decide +kernel
theorem dX4_digest_8 : decode cX4_digest 8 = .ok (.lstore_n 1, 1) := by decide +kernel
theorem dX4_digest_9 : decode cX4_digest 9 = .ok (.iconst 0, 1) := by decide +kernel
theorem dX4_digest_10 : decode cX4_digest 10 = .ok (.istore_n 3, 1) := by decide +kernel
theorem dX4_digest_11 : decode cX4_digest 11 = .ok (.iload_n 3, 1) := by decide +kernel
theorem dX4_digest_12 : decode cX4_digest 12 = .ok (.bipush 6, 2) := by decide +kernel
theorem dX4_digest_14 : decode cX4_digest 14 = .ok (.if_icmp .ge 22, 3) := by decide +kernel
theorem dX4_digest_17 : decode cX4_digest 17 = .ok (.lload_n 1, 1) := by decide +kernel
theorem dX4_digest_18 : decode cX4_digest 18 = .ok (.ldc2_w 121, 3) := by decide +kernel
theorem dX4_digest_21 : decode cX4_digest 21 = .ok (.lmul, 1) := by decide +kernel
theorem dX4_digest_22 : decode cX4_digest 22 = .ok (.aload_n 0, 1) := by decide +kernel
theorem dX4_digest_23 : decode cX4_digest 23 = .ok (.iload_n 3, 1) := by decide +kernel
theorem dX4_digest_24 : decode cX4_digest 24 = .ok (.invokevirtual 116, 3) := by decide +kernel
theorem dX4_digest_27 : decode cX4_digest 27 = .ok (.i2l, 1) := by decide +kernel
theorem dX4_digest_28 : decode cX4_digest 28 = .ok (.ladd, 1) := by decide +kernel
theorem dX4_digest_29 : decode cX4_digest 29 = .ok (.lstore_n 1, 1) := by decide +kernel
theorem dX4_digest_30 : decode cX4_digest 30 = .ok (.iinc 3 1, 3) := by decide +kernel
theorem dX4_digest_33 : decode cX4_digest 33 = .ok (.goto (-22), 3) := by decide +kernel
theorem dX4_digest_36 : decode cX4_digest 36 = .ok (.iconst 0, 1) := by decide +kernel
theorem dX4_digest_37 : decode cX4_digest 37 = .ok (.istore_n 3, 1) := by decide +kernel
theorem dX4_digest_38 : decode cX4_digest 38 = .ok (.iload_n 3, 1) := by decide +kernel
theorem dX4_digest_39 : decode cX4_digest 39 = .ok (.aload_n 0, 1) := by decide +kernel
theorem dX4_digest_40 : decode cX4_digest 40 = .ok (.getfield 23, 3) := by decide +kernel
theorem dX4_digest_43 : decode cX4_digest 43 = .ok (.if_icmp .ge 95, 3) := by decide +kernel
theorem dX4_digest_46 : decode cX4_digest 46 = .ok (.aload_n 0, 1) := by decide +kernel
theorem dX4_digest_47 : decode cX4_digest 47 = .ok (.aload_n 0, 1) := by decide +kernel
theorem dX4_digest_48 : decode cX4_digest 48 = .ok (.getfield 13, 3) := by decide +kernel
theorem dX4_digest_51 : decode cX4_digest 51 = .ok (.iload_n 3, 1) := by decide +kernel
theorem dX4_digest_52 : decode cX4_digest 52 = .ok (.iaload, 1) := by decide +kernel
theorem dX4_digest_53 : decode cX4_digest 53 = .ok (.invokevirtual 65, 3) := by decide +kernel
theorem dX4_digest_56 : decode cX4_digest 56 = .ok (.astore 4, 2) := by decide +kernel
theorem dX4_digest_58 : decode cX4_digest 58 = .ok (.iconst 0, 1) := by decide +kernel
theorem dX4_digest_59 : decode cX4_digest 59 = .ok (.istore 5, 2) := by decide +kernel
theorem dX4_digest_61 : decode cX4_digest 61 = .ok (.iload 5, 2) := by decide +kernel
theorem dX4_digest_63 : decode cX4_digest 63 = .ok (.bipush 8, 2) := by decide +kernel
theorem dX4_digest_65 : decode cX4_digest 65 = .ok (.if_icmp .ge 25, 3) := by decide +kernel
theorem dX4_digest_68 : decode cX4_digest 68 = .ok (.lload_n 1, 1) := by decide +kernel
theorem dX4_digest_69 : decode cX4_digest 69 = .ok (.ldc2_w 121, 3) := by decide +kernel
theorem dX4_digest_72 : decode cX4_digest 72 = .ok (.lmul, 1) := by decide +kernel
theorem dX4_digest_73 : decode cX4_digest 73 = .ok (.aload_n 0, 1) := by decide +kernel
theorem dX4_digest_74 : decode cX4_digest 74 = .ok (.aload 4, 2) := by decide +kernel
theorem dX4_digest_76 : decode cX4_digest 76 = .ok (.iload 5, 2) := by decide +kernel
theorem dX4_digest_78 : decode cX4_digest 78 = .ok (.invokevirtual 109, 3) := by decide +kernel
theorem dX4_digest_81 : decode cX4_digest 81 = .ok (.i2l, 1) := by decide +kernel
theorem dX4_digest_82 : decode cX4_digest 82 = .ok (.ladd, 1) := by decide +kernel
theorem dX4_digest_83 : decode cX4_digest 83 = .ok (.lstore_n 1, 1) := by decide +kernel
theorem dX4_digest_84 : decode cX4_digest 84 = .ok (.iinc 5 1, 3) := by decide +kernel
theorem dX4_digest_87 : decode cX4_digest 87 = .ok (.goto (-26), 3) := by decide +kernel
theorem dX4_digest_90 : decode cX4_digest 90 = .ok (.aload 4, 2) := by decide +kernel
theorem dX4_digest_92 : decode cX4_digest 92 = .ok (.astore 5, 2) := by decide +kernel
theorem dX4_digest_94 : decode cX4_digest 94 = .ok (.aload 5, 2) := by decide +kernel
theorem dX4_digest_96 : decode cX4_digest 96 = .ok (.arraylength, 1) := by decide +kernel
theorem dX4_digest_97 : decode cX4_digest 97 = .ok (.istore 6, 2) := by decide +kernel
theorem dX4_digest_99 : decode cX4_digest 99 = .ok (.iconst 0, 1) := by decide +kernel
theorem dX4_digest_100 : decode cX4_digest 100 = .ok (.istore 7, 2) := by decide +kernel
theorem dX4_digest_102 : decode cX4_digest 102 = .ok (.iload 7, 2) := by decide +kernel
theorem dX4_digest_104 : decode cX4_digest 104 = .ok (.iload 6, 2) := by decide +kernel
theorem dX4_digest_106 : decode cX4_digest 106 = .ok (.if_icmp .ge 26, 3) := by decide +kernel
theorem dX4_digest_109 : decode cX4_digest 109 = .ok (.aload 5, 2) := by decide +kernel
theorem dX4_digest_111 : decode cX4_digest 111 = .ok (.iload 7, 2) := by decide +kernel
theorem dX4_digest_113 : decode cX4_digest 113 = .ok (.iaload, 1) := by decide +kernel
theorem dX4_digest_114 : decode cX4_digest 114 = .ok (.istore 8, 2) := by decide +kernel
theorem dX4_digest_116 : decode cX4_digest 116 = .ok (.lload_n 1, 1) := by decide +kernel
theorem dX4_digest_117 : decode cX4_digest 117 = .ok (.ldc2_w 121, 3) := by decide +kernel
theorem dX4_digest_120 : decode cX4_digest 120 = .ok (.lmul, 1) := by decide +kernel
theorem dX4_digest_121 : decode cX4_digest 121 = .ok (.iload 8, 2) := by decide +kernel
theorem dX4_digest_123 : decode cX4_digest 123 = .ok (.i2l, 1) := by decide +kernel
theorem dX4_digest_124 : decode cX4_digest 124 = .ok (.ladd, 1) := by decide +kernel
theorem dX4_digest_125 : decode cX4_digest 125 = .ok (.lstore_n 1, 1) := by decide +kernel
theorem dX4_digest_126 : decode cX4_digest 126 = .ok (.iinc 7 1, 3) := by decide +kernel
theorem dX4_digest_129 : decode cX4_digest 129 = .ok (.goto (-27), 3) := by decide +kernel
theorem dX4_digest_132 : decode cX4_digest 132 = .ok (.iinc 3 1, 3) := by decide +kernel
theorem dX4_digest_135 : decode cX4_digest 135 = .ok (.goto (-97), 3) := by decide +kernel
theorem dX4_digest_138 : decode cX4_digest 138 = .ok (.iconst 0, 1) := by decide +kernel
theorem dX4_digest_139 : decode cX4_digest 139 = .ok (.istore_n 3, 1) := by decide +kernel
theorem dX4_digest_140 : decode cX4_digest 140 = .ok (.iload_n 3, 1) := by decide +kernel
theorem dX4_digest_141 : decode cX4_digest 141 = .ok (.aload_n 0, 1) := by decide +kernel
theorem dX4_digest_142 : decode cX4_digest 142 = .ok (.getfield 48, 3) := by decide +kernel
theorem dX4_digest_145 : decode cX4_digest 145 = .ok (.if_icmp .ge 23, 3) := by decide +kernel
theorem dX4_digest_148 : decode cX4_digest 148 = .ok (.lload_n 1, 1) := by decide +kernel
theorem dX4_digest_149 : decode cX4_digest 149 = .ok (.ldc2_w 121, 3) := by decide +kernel
theorem dX4_digest_152 : decode cX4_digest 152 = .ok (.lmul, 1) := by decide +kernel
theorem dX4_digest_153 : decode cX4_digest 153 = .ok (.aload_n 0, 1) := by decide +kernel
theorem dX4_digest_154 : decode cX4_digest 154 = .ok (.getfield 17, 3) := by decide +kernel
theorem dX4_digest_157 : decode cX4_digest 157 = .ok (.iload_n 3, 1) := by decide +kernel
theorem dX4_digest_158 : decode cX4_digest 158 = .ok (.iaload, 1) := by decide +kernel
theorem dX4_digest_159 : decode cX4_digest 159 = .ok (.i2l, 1) := by decide +kernel
theorem dX4_digest_160 : decode cX4_digest 160 = .ok (.ladd, 1) := by decide +kernel
theorem dX4_digest_161 : decode cX4_digest 161 = .ok (.lstore_n 1, 1) := by decide +kernel
theorem dX4_digest_162 : decode cX4_digest 162 = .ok (.iinc 3 1, 3) := by decide +kernel
theorem dX4_digest_165 : decode cX4_digest 165 = .ok (.goto (-25), 3) := by decide +kernel
theorem dX4_digest_168 : decode cX4_digest 168 = .ok (.lload_n 1, 1) := by decide +kernel
theorem dX4_digest_169 : decode cX4_digest 169 = .ok (.lreturn, 1) := by decide +kernel
