theorem dX0_init_0 : decode cX0_init 0 = .ok (.aload_n 0, 1) := by decide +kernel
theorem dX0_init_1 : decode cX0_init 1 = .ok (.invokespecial 3, 3) := by decide +kernel
theorem dX0_init_4 : decode cX0_init 4 = .ok (.aload_n 0, 1) := by decide +kernel
theorem dX0_init_5 : decode cX0_init 5 = .ok (.bipush 8, 2) := by decide +kernel
theorem dX0_init_7 : decode cX0_init 7 = .ok (.newarray .int, 2) := by decide +kernel
theorem dX0_init_9 : decode cX0_init 9 = .ok (.putfield 9, 3) := by decide +kernel
theorem dX0_init_12 : decode cX0_init 12 = .ok (.aload_n 0, 1) := by decide +kernel
theorem dX0_init_13 : decode cX0_init 13 = .ok (.iconst 0, 1) := by decide +kernel
theorem dX0_init_14 : decode cX0_init 14 = .ok (.putfield 15, 3) := by decide +kernel
theorem dX0_init_17 : decode cX0_init 17 = .ok (.return_, 1) := by decide +kernel
theorem dX0_bellAt_0 : decode cX0_bellAt 0 = .ok (.iload_n 1, 1) := by decide +kernel
theorem dX0_bellAt_1 : decode cX0_bellAt 1 = .ok (.ifCond .lt 21, 3) := by decide +kernel
theorem dX0_bellAt_4 : decode cX0_bellAt 4 = .ok (.iload_n 1, 1) := by decide +kernel
theorem dX0_bellAt_5 : decode cX0_bellAt 5 = .ok (.aload_n 0, 1) := by decide +kernel
theorem dX0_bellAt_6 : decode cX0_bellAt 6 = .ok (.getfield 9, 3) := by decide +kernel
theorem dX0_bellAt_9 : decode cX0_bellAt 9 = .ok (.arraylength, 1) := by decide +kernel
theorem dX0_bellAt_10 : decode cX0_bellAt 10 = .ok (.if_icmp .ge 12, 3) := by decide +kernel
theorem dX0_bellAt_13 : decode cX0_bellAt 13 = .ok (.aload_n 0, 1) := by decide +kernel
theorem dX0_bellAt_14 : decode cX0_bellAt 14 = .ok (.getfield 9, 3) := by decide +kernel
theorem dX0_bellAt_17 : decode cX0_bellAt 17 = .ok (.iload_n 1, 1) := by decide +kernel
theorem dX0_bellAt_18 : decode cX0_bellAt 18 = .ok (.iaload, 1) := by decide +kernel
theorem dX0_bellAt_19 : decode cX0_bellAt 19 = .ok (.goto 4, 3) := by decide +kernel
theorem dX0_bellAt_22 : decode cX0_bellAt 22 = .ok (.iconst 0, 1) := by decide +kernel
theorem dX0_bellAt_23 : decode cX0_bellAt 23 = .ok (.ireturn, 1) := by decide +kernel
theorem dX0_put_0 : decode cX0_put 0 = .ok (.iload_n 1, 1) := by decide +kernel
theorem dX0_put_1 : decode cX0_put 1 = .ok (.ifCond .lt 19, 3) := by decide +kernel
theorem dX0_put_4 : decode cX0_put 4 = .ok (.iload_n 1, 1) := by decide +kernel
theorem dX0_put_5 : decode cX0_put 5 = .ok (.aload_n 0, 1) := by decide +kernel
theorem dX0_put_6 : decode cX0_put 6 = .ok (.getfield 9, 3) := by decide +kernel
theorem dX0_put_9 : decode cX0_put 9 = .ok (.arraylength, 1) := by decide +kernel
theorem dX0_put_10 : decode cX0_put 10 = .ok (.if_icmp .ge 10, 3) := by decide +kernel
theorem dX0_put_13 : decode cX0_put 13 = .ok (.aload_n 0, 1) := by decide +kernel
theorem dX0_put_14 : decode cX0_put 14 = .ok (.getfield 9, 3) := by decide +kernel
theorem dX0_put_17 : decode cX0_put 17 = .ok (.iload_n 1, 1) := by decide +kernel
theorem dX0_put_18 : decode cX0_put 18 = .ok (.iload_n 2, 1) := by decide +kernel
theorem dX0_put_19 : decode cX0_put 19 = .ok (.iastore, 1) := by decide +kernel
theorem dX0_put_20 : decode cX0_put 20 = .ok (.return_, 1) := by decide +kernel
theorem dX0_placeOf_0 : decode cX0_placeOf 0 = .ok (.iconst 0, 1) := by decide +kernel
theorem dX0_placeOf_1 : decode cX0_placeOf 1 = .ok (.istore_n 2, 1) := by decide +kernel
theorem dX0_placeOf_2 : decode cX0_placeOf 2 = .ok (.iload_n 2, 1) := by decide +kernel
theorem dX0_placeOf_3 : decode cX0_placeOf 3 = .ok (.aload_n 0, 1) := by decide +kernel
theorem dX0_placeOf_4 : decode cX0_placeOf 4 = .ok (.getfield 15, 3) := by decide +kernel
theorem dX0_placeOf_7 : decode cX0_placeOf 7 = .ok (.if_icmp .ge 18, 3) := by decide +kernel
theorem dX0_placeOf_10 : decode cX0_placeOf 10 = .ok (.aload_n 0, 1) := by decide +kernel
theorem dX0_placeOf_11 : decode cX0_placeOf 11 = .ok (.iload_n 2, 1) := by decide +kernel
theorem dX0_placeOf_12 : decode cX0_placeOf 12 = .ok (.invokevirtual 19, 3) := by decide +kernel
theorem dX0_placeOf_15 : decode cX0_placeOf 15 = .ok (.iload_n 1, 1) := by decide +kernel
theorem dX0_placeOf_16 : decode cX0_placeOf 16 = .ok (.if_icmp .eq 9, 3) := by decide +kernel
theorem dX0_placeOf_19 : decode cX0_placeOf 19 = .ok (.iinc 2 1, 3) := by decide +kernel
theorem dX0_placeOf_22 : decode cX0_placeOf 22 = .ok (.goto (-20), 3) := by decide +kernel
theorem dX0_placeOf_25 : decode cX0_placeOf 25 = .ok (.iload_n 2, 1) := by decide +kernel
theorem dX0_placeOf_26 : decode cX0_placeOf 26 = .ok (.ireturn, 1) := by decide +kernel
theorem dX0_isSame_0 : decode cX0_isSame 0 = .ok (.iconst 0, 1) := by decide +kernel
theorem dX0_isSame_1 : decode cX0_isSame 1 = .ok (.istore_n 2, 1) := by decide +kernel
theorem dX0_isSame_2 : decode cX0_isSame 2 = .ok (.iload_n 2, 1) := by decide +kernel
theorem dX0_isSame_3 : decode cX0_isSame 3 = .ok (.aload_n 0, 1) := by decide +kernel
theorem dX0_isSame_4 : decode cX0_isSame 4 = .ok (.getfield 15, 3) := by decide +kernel
theorem dX0_isSame_7 : decode cX0_isSame 7 = .ok (.if_icmp .ge 24, 3) := by decide +kernel
theorem dX0_isSame_10 : decode cX0_isSame 10 = .ok (.aload_n 0, 1) := by decide +kernel
theorem dX0_isSame_11 : decode cX0_isSame 11 = .ok (.iload_n 2, 1) := by decide +kernel
theorem dX0_isSame_12 : decode cX0_isSame 12 = .ok (.invokevirtual 19, 3) := by decide +kernel
theorem dX0_isSame_15 : decode cX0_isSame 15 = .ok (.aload_n 1, 1) := by decide +kernel
theorem dX0_isSame_16 : decode cX0_isSame 16 = .ok (.iload_n 2, 1) := by decide +kernel
theorem dX0_isSame_17 : decode cX0_isSame 17 = .ok (.invokevirtual 19, 3) := by decide +kernel
theorem dX0_isSame_20 : decode cX0_isSame 20 = .ok (.if_icmp .eq 5, 3) := by decide +kernel
theorem dX0_isSame_23 : decode cX0_isSame 23 = .ok (.iconst 0, 1) := by decide +kernel
theorem dX0_isSame_24 : decode cX0_isSame 24 = .ok (.ireturn, 1) := by decide +kernel
theorem dX0_isSame_25 : decode cX0_isSame 25 = .ok (.iinc 2 1, 3) := by decide +kernel
theorem dX0_isSame_28 : decode cX0_isSame 28 = .ok (.goto (-26), 3) := by decide +kernel
theorem dX0_isSame_31 : decode cX0_isSame 31 = .ok (.iconst 1, 1) := by decide +kernel
theorem dX0_isSame_32 : decode cX0_isSame 32 = .ok (.ireturn, 1) := by decide +kernel
theorem dX0_rank_0 : decode cX0_rank 0 = .ok (.iconst 0, 1) := by decide +kernel
theorem dX0_rank_1 : decode cX0_rank 1 = .ok (.istore_n 1, 1) := by decide +kernel
theorem dX0_rank_2 : decode cX0_rank 2 = .ok (.iconst 0, 1) := by decide +kernel
theorem dX0_rank_3 : decode cX0_rank 3 = .ok (.istore_n 2, 1) := by decide +kernel
theorem dX0_rank_4 : decode cX0_rank 4 = .ok (.iload_n 2, 1) := by decide +kernel
theorem dX0_rank_5 : decode cX0_rank 5 = .ok (.aload_n 0, 1) := by decide +kernel
theorem dX0_rank_6 : decode cX0_rank 6 = .ok (.getfield 15, 3) := by decide +kernel
theorem dX0_rank_9 : decode cX0_rank 9 = .ok (.if_icmp .ge 24, 3) := by decide +kernel
theorem dX0_rank_12 : decode cX0_rank 12 = .ok (.iload_n 1, 1) := by decide +kernel
theorem dX0_rank_13 : decode cX0_rank 13 = .ok (.aload_n 0, 1) := by decide +kernel
theorem dX0_rank_14 : decode cX0_rank 14 = .ok (.getfield 15, 3) := by decide +kernel
theorem dX0_rank_17 : decode cX0_rank 17 = .ok (.iload_n 2, 1) := by decide +kernel
theorem dX0_rank_18 : decode cX0_rank 18 = .ok (.isub, 1) := by decide +kernel
theorem dX0_rank_19 : decode cX0_rank 19 = .ok (.imul, 1) := by decide +kernel
theorem dX0_rank_20 : decode cX0_rank 20 = .ok (.aload_n 0, 1) := by decide +kernel
theorem dX0_rank_21 : decode cX0_rank 21 = .ok (.iload_n 2, 1) := by decide +kernel
theorem dX0_rank_22 : decode cX0_rank 22 = .ok (.invokevirtual 23, 3) := by decide +kernel
theorem dX0_rank_25 : decode cX0_rank 25 = .ok (.iadd, 1) := by decide +kernel
theorem dX0_rank_26 : decode cX0_rank 26 = .ok (.istore_n 1, 1) := by decide +kernel
theorem dX0_rank_27 : decode cX0_rank 27 = .ok (.iinc 2 1, 3) := by decide +kernel
theorem dX0_rank_30 : decode cX0_rank 30 = .ok (.goto (-26), 3) := by decide +kernel
theorem dX0_rank_33 : decode cX0_rank 33 = .ok (.iload_n 1, 1) := by decide +kernel
theorem dX0_rank_34 : decode cX0_rank 34 = .ok (.ireturn, 1) := by decide +kernel
theorem dX0_inversions_0 : decode cX0_inversions 0 = .ok (.iconst 0, 1) := by decide +kernel
theorem dX0_inversions_1 : decode cX0_inversions 1 = .ok (.istore_n 1, 1) := by decide +kernel
theorem dX0_inversions_2 : decode cX0_inversions 2 = .ok (.iconst 0, 1) := by decide +kernel
theorem dX0_inversions_3 : decode cX0_inversions 3 = .ok (.istore_n 2, 1) := by decide +kernel
theorem dX0_inversions_4 : decode cX0_inversions 4 = .ok (.iload_n 2, 1) := by decide +kernel
theorem dX0_inversions_5 : decode cX0_inversions 5 = .ok (.aload_n 0, 1) := by decide +kernel
theorem dX0_inversions_6 : decode cX0_inversions 6 = .ok (.getfield 15, 3) := by decide +kernel
theorem dX0_inversions_9 : decode cX0_inversions 9 = .ok (.if_icmp .ge 17, 3) := by decide +kernel
theorem dX0_inversions_12 : decode cX0_inversions 12 = .ok (.iload_n 1, 1) := by decide +kernel
theorem dX0_inversions_13 : decode cX0_inversions 13 = .ok (.aload_n 0, 1) := by decide +kernel
theorem dX0_inversions_14 : decode cX0_inversions 14 = .ok (.iload_n 2, 1) := by decide +kernel
theorem dX0_inversions_15 : decode cX0_inversions 15 = .ok (.invokevirtual 23, 3) := by decide +kernel
theorem dX0_inversions_18 : decode cX0_inversions 18 = .ok (.iadd, 1) := by decide +kernel
theorem dX0_inversions_19 : decode cX0_inversions 19 = .ok (.istore_n 1, 1) := by decide +kernel
theorem dX0_inversions_20 : decode cX0_inversions 20 = .ok (.iinc 2 1, 3) := by decide +kernel
theorem dX0_inversions_23 : decode cX0_inversions 23 = .ok (.goto (-19), 3) := by decide +kernel
theorem dX0_inversions_26 : decode cX0_inversions 26 = .ok (.iload_n 1, 1) := by decide +kernel
theorem dX0_inversions_27 : decode cX0_inversions 27 = .ok (.ireturn, 1) := by decide +kernel
theorem dX0_lesserBehind_0 : decode cX0_lesserBehind 0 = .ok (.iconst 0, 1) := by decide +kernel
theorem dX0_lesserBehind_1 : decode cX0_lesserBehind 1 = .ok (.istore_n 2, 1) := by decide +kernel
theorem dX0_lesserBehind_2 : decode cX0_lesserBehind 2 = .ok (.iload_n 1, 1) := by decide +kernel
theorem dX0_lesserBehind_3 : decode cX0_lesserBehind 3 = .ok (.iconst 1, 1) := by decide +kernel
theorem dX0_lesserBehind_4 : decode cX0_lesserBehind 4 = .ok (.iadd, 1) := by decide +kernel
theorem dX0_lesserBehind_5 : decode cX0_lesserBehind 5 = .ok (.istore_n 3, 1) := by decide +kernel
theorem dX0_lesserBehind_6 : decode cX0_lesserBehind 6 = .ok (.iload_n 3, 1) := by decide +kernel
theorem dX0_lesserBehind_7 : decode cX0_lesserBehind 7 = .ok (.aload_n 0, 1) := by decide +kernel
theorem dX0_lesserBehind_8 : decode cX0_lesserBehind 8 = .ok (.getfield 15, 3) := by decide +kernel
theorem dX0_lesserBehind_11 : decode cX0_lesserBehind 11 = .ok (.if_icmp .ge 25, 3) := by decide +kernel
theorem dX0_lesserBehind_14 : decode cX0_lesserBehind 14 = .ok (.aload_n 0, 1) := by decide +kernel
theorem dX0_lesserBehind_15 : decode cX0_lesserBehind 15 = .ok (.iload_n 3, 1) := by decide +kernel
theorem dX0_lesserBehind_16 : decode cX0_lesserBehind 16 = .ok (.invokevirtual 19, 3) := by decide +kernel
theorem dX0_lesserBehind_19 : decode cX0_lesserBehind 19 = .ok (.aload_n 0, 1) := by decide +kernel
theorem dX0_lesserBehind_20 : decode cX0_lesserBehind 20 = .ok (.iload_n 1, 1) := by decide +kernel
theorem dX0_lesserBehind_21 : decode cX0_lesserBehind 21 = .ok (.invokevirtual 19, 3) := by decide +kernel
theorem dX0_lesserBehind_24 : decode cX0_lesserBehind 24 = .ok (.if_icmp .ge 6, 3) := by decide +kernel
theorem dX0_lesserBehind_27 : decode cX0_lesserBehind 27 = .ok (.iinc 2 1, 3) := by decide +kernel
theorem dX0_lesserBehind_30 : decode cX0_lesserBehind 30 = .ok (.iinc 3 1, 3) := by decide +kernel
theorem dX0_lesserBehind_33 : decode cX0_lesserBehind 33 = .ok (.goto (-27), 3) := by decide +kernel
theorem dX0_lesserBehind_36 : decode cX0_lesserBehind 36 = .ok (.iload_n 2, 1) := by decide +kernel
theorem dX0_lesserBehind_37 : decode cX0_lesserBehind 37 = .ok (.ireturn, 1) := by decide +kernel
theorem dX0_setRank_0 : decode cX0_setRank 0 = .ok (.aload_n 0, 1) := by decide +kernel
theorem dX0_setRank_1 : decode cX0_setRank 1 = .ok (.iload_n 1, 1) := by decide +kernel
theorem dX0_setRank_2 : decode cX0_setRank 2 = .ok (.putfield 15, 3) := by decide +kernel
theorem dX0_setRank_5 : decode cX0_setRank 5 = .ok (.iload_n 2, 1) := by decide +kernel
theorem dX0_setRank_6 : decode cX0_setRank 6 = .ok (.istore_n 3, 1) := by decide +kernel
theorem dX0_setRank_7 : decode cX0_setRank 7 = .ok (.iconst 1, 1) := by decide +kernel
theorem dX0_setRank_8 : decode cX0_setRank 8 = .ok (.istore 4, 2) := by decide +kernel
theorem dX0_setRank_10 : decode cX0_setRank 10 = .ok (.iload 4, 2) := by decide +kernel
theorem dX0_setRank_12 : decode cX0_setRank 12 = .ok (.iload_n 1, 1) := by decide +kernel
theorem dX0_setRank_13 : decode cX0_setRank 13 = .ok (.if_icmp .gt 26, 3) := by decide +kernel
theorem dX0_setRank_16 : decode cX0_setRank 16 = .ok (.aload_n 0, 1) := by decide +kernel
theorem dX0_setRank_17 : decode cX0_setRank 17 = .ok (.iload_n 1, 1) := by decide +kernel
theorem dX0_setRank_18 : decode cX0_setRank 18 = .ok (.iload 4, 2) := by decide +kernel
theorem dX0_setRank_20 : decode cX0_setRank 20 = .ok (.isub, 1) := by decide +kernel
theorem dX0_setRank_21 : decode cX0_setRank 21 = .ok (.iload_n 3, 1) := by decide +kernel
theorem dX0_setRank_22 : decode cX0_setRank 22 = .ok (.iload 4, 2) := by decide +kernel
theorem dX0_setRank_24 : decode cX0_setRank 24 = .ok (.irem, 1) := by decide +kernel
theorem dX0_setRank_25 : decode cX0_setRank 25 = .ok (.invokevirtual 26, 3) := by decide +kernel
theorem dX0_setRank_28 : decode cX0_setRank 28 = .ok (.iload_n 3, 1) := by decide +kernel
theorem dX0_setRank_29 : decode cX0_setRank 29 = .ok (.iload 4, 2) := by decide +kernel
theorem dX0_setRank_31 : decode cX0_setRank 31 = .ok (.idiv, 1) := by decide +kernel
theorem dX0_setRank_32 : decode cX0_setRank 32 = .ok (.istore_n 3, 1) := by decide +kernel
theorem dX0_setRank_33 : decode cX0_setRank 33 = .ok (.iinc 4 1, 3) := by decide +kernel
theorem dX0_setRank_36 : decode cX0_setRank 36 = .ok (.goto (-26), 3) := by decide +kernel
theorem dX0_setRank_39 : decode cX0_setRank 39 = .ok (.return_, 1) := by decide +kernel
theorem dX0_insertAhead_0 : decode cX0_insertAhead 0 = .ok (.aload_n 0, 1) := by decide +kernel
theorem dX0_insertAhead_1 : decode cX0_insertAhead 1 = .ok (.iload_n 1, 1) := by decide +kernel
theorem dX0_insertAhead_2 : decode cX0_insertAhead 2 = .ok (.iload_n 2, 1) := by decide +kernel
theorem dX0_insertAhead_3 : decode cX0_insertAhead 3 = .ok (.invokevirtual 30, 3) := by decide +kernel
theorem dX0_insertAhead_6 : decode cX0_insertAhead 6 = .ok (.iload_n 1, 1) := by decide +kernel
theorem dX0_insertAhead_7 : decode cX0_insertAhead 7 = .ok (.iconst 1, 1) := by decide +kernel
theorem dX0_insertAhead_8 : decode cX0_insertAhead 8 = .ok (.iadd, 1) := by decide +kernel
theorem dX0_insertAhead_9 : decode cX0_insertAhead 9 = .ok (.istore_n 3, 1) := by decide +kernel
theorem dX0_insertAhead_10 : decode cX0_insertAhead 10 = .ok (.iload_n 3, 1) := by decide +kernel
theorem dX0_insertAhead_11 : decode cX0_insertAhead 11 = .ok (.aload_n 0, 1) := by decide +kernel
theorem dX0_insertAhead_12 : decode cX0_insertAhead 12 = .ok (.getfield 15, 3) := by decide +kernel
theorem dX0_insertAhead_15 : decode cX0_insertAhead 15 = .ok (.if_icmp .ge 30, 3) := by decide +kernel
theorem dX0_insertAhead_18 : decode cX0_insertAhead 18 = .ok (.aload_n 0, 1) := by decide +kernel
theorem dX0_insertAhead_19 : decode cX0_insertAhead 19 = .ok (.iload_n 3, 1) := by decide +kernel
theorem dX0_insertAhead_20 : decode cX0_insertAhead 20 = .ok (.invokevirtual 19, 3) := by decide +kernel
theorem dX0_insertAhead_23 : decode cX0_insertAhead 23 = .ok (.iload_n 2, 1) := by decide +kernel
theorem dX0_insertAhead_24 : decode cX0_insertAhead 24 = .ok (.if_icmp .lt 15, 3) := by decide +kernel
theorem dX0_insertAhead_27 : decode cX0_insertAhead 27 = .ok (.aload_n 0, 1) := by decide +kernel
theorem dX0_insertAhead_28 : decode cX0_insertAhead 28 = .ok (.iload_n 3, 1) := by decide +kernel
theorem dX0_insertAhead_29 : decode cX0_insertAhead 29 = .ok (.aload_n 0, 1) := by decide +kernel
theorem dX0_insertAhead_30 : decode cX0_insertAhead 30 = .ok (.iload_n 3, 1) := by decide +kernel
theorem dX0_insertAhead_31 : decode cX0_insertAhead 31 = .ok (.invokevirtual 19, 3) := by decide +kernel
theorem dX0_insertAhead_34 : decode cX0_insertAhead 34 = .ok (.iconst 1, 1) := by decide +kernel
theorem dX0_insertAhead_35 : decode cX0_insertAhead 35 = .ok (.iadd, 1) := by decide +kernel
theorem dX0_insertAhead_36 : decode cX0_insertAhead 36 = .ok (.invokevirtual 30, 3) := by decide +kernel
theorem dX0_insertAhead_39 : decode cX0_insertAhead 39 = .ok (.iinc 3 1, 3) := by decide +kernel
theorem dX0_insertAhead_42 : decode cX0_insertAhead 42 = .ok (.goto (-32), 3) := by decide +kernel
theorem dX0_insertAhead_45 : decode cX0_insertAhead 45 = .ok (.return_, 1) := by decide +kernel
theorem dX0_setCopy_0 : decode cX0_setCopy 0 = .ok (.aload_n 0, 1) := by decide +kernel
theorem dX0_setCopy_1 : decode cX0_setCopy 1 = .ok (.aload_n 1, 1) := by decide +kernel
theorem dX0_setCopy_2 : decode cX0_setCopy 2 = .ok (.getfield 15, 3) := by decide +kernel
theorem dX0_setCopy_5 : decode cX0_setCopy 5 = .ok (.putfield 15, 3) := by decide +kernel
theorem dX0_setCopy_8 : decode cX0_setCopy 8 = .ok (.iconst 0, 1) := by decide +kernel
theorem dX0_setCopy_9 : decode cX0_setCopy 9 = .ok (.istore_n 2, 1) := by decide +kernel
theorem dX0_setCopy_10 : decode cX0_setCopy 10 = .ok (.iload_n 2, 1) := by decide +kernel
theorem dX0_setCopy_11 : decode cX0_setCopy 11 = .ok (.aload_n 0, 1) := by decide +kernel
theorem dX0_setCopy_12 : decode cX0_setCopy 12 = .ok (.getfield 15, 3) := by decide +kernel
theorem dX0_setCopy_15 : decode cX0_setCopy 15 = .ok (.if_icmp .ge 19, 3) := by decide +kernel
theorem dX0_setCopy_18 : decode cX0_setCopy 18 = .ok (.aload_n 0, 1) := by decide +kernel
theorem dX0_setCopy_19 : decode cX0_setCopy 19 = .ok (.iload_n 2, 1) := by decide +kernel
theorem dX0_setCopy_20 : decode cX0_setCopy 20 = .ok (.aload_n 1, 1) := by decide +kernel
theorem dX0_setCopy_21 : decode cX0_setCopy 21 = .ok (.iload_n 2, 1) := by decide +kernel
theorem dX0_setCopy_22 : decode cX0_setCopy 22 = .ok (.invokevirtual 19, 3) := by decide +kernel
theorem dX0_setCopy_25 : decode cX0_setCopy 25 = .ok (.invokevirtual 30, 3) := by decide +kernel
theorem dX0_setCopy_28 : decode cX0_setCopy 28 = .ok (.iinc 2 1, 3) := by decide +kernel
theorem dX0_setCopy_31 : decode cX0_setCopy 31 = .ok (.goto (-21), 3) := by decide +kernel
theorem dX0_setCopy_34 : decode cX0_setCopy 34 = .ok (.return_, 1) := by decide +kernel
theorem dX0_setBehind_0 : decode cX0_setBehind 0 = .ok (.aload_n 0, 1) := by decide +kernel
theorem dX0_setBehind_1 : decode cX0_setBehind 1 = .ok (.aload_n 2, 1) := by decide +kernel
theorem dX0_setBehind_2 : decode cX0_setBehind 2 = .ok (.getfield 15, 3) := by decide +kernel
theorem dX0_setBehind_5 : decode cX0_setBehind 5 = .ok (.putfield 15, 3) := by decide +kernel
theorem dX0_setBehind_8 : decode cX0_setBehind 8 = .ok (.iconst 0, 1) := by decide +kernel
theorem dX0_setBehind_9 : decode cX0_setBehind 9 = .ok (.istore_n 3, 1) := by decide +kernel
theorem dX0_setBehind_10 : decode cX0_setBehind 10 = .ok (.iload_n 3, 1) := by decide +kernel
theorem dX0_setBehind_11 : decode cX0_setBehind 11 = .ok (.aload_n 0, 1) := by decide +kernel
theorem dX0_setBehind_12 : decode cX0_setBehind 12 = .ok (.getfield 15, 3) := by decide +kernel
theorem dX0_setBehind_15 : decode cX0_setBehind 15 = .ok (.if_icmp .ge 23, 3) := by decide +kernel
theorem dX0_setBehind_18 : decode cX0_setBehind 18 = .ok (.aload_n 0, 1) := by decide +kernel
theorem dX0_setBehind_19 : decode cX0_setBehind 19 = .ok (.iload_n 3, 1) := by decide +kernel
theorem dX0_setBehind_20 : decode cX0_setBehind 20 = .ok (.aload_n 1, 1) := by decide +kernel
theorem dX0_setBehind_21 : decode cX0_setBehind 21 = .ok (.aload_n 2, 1) := by decide +kernel
theorem dX0_setBehind_22 : decode cX0_setBehind 22 = .ok (.iload_n 3, 1) := by decide +kernel
theorem dX0_setBehind_23 : decode cX0_setBehind 23 = .ok (.invokevirtual 19, 3) := by decide +kernel
theorem dX0_setBehind_26 : decode cX0_setBehind 26 = .ok (.invokevirtual 19, 3) := by decide +kernel
theorem dX0_setBehind_29 : decode cX0_setBehind 29 = .ok (.invokevirtual 30, 3) := by decide +kernel
theorem dX0_setBehind_32 : decode cX0_setBehind 32 = .ok (.iinc 3 1, 3) := by decide +kernel
theorem dX0_setBehind_35 : decode cX0_setBehind 35 = .ok (.goto (-25), 3) := by decide +kernel
theorem dX0_setBehind_38 : decode cX0_setBehind 38 = .ok (.return_, 1) := by decide +kernel
theorem dX0_setBack_0 : decode cX0_setBack 0 = .ok (.aload_n 0, 1) := by decide +kernel
theorem dX0_setBack_1 : decode cX0_setBack 1 = .ok (.aload_n 1, 1) := by decide +kernel
theorem dX0_setBack_2 : decode cX0_setBack 2 = .ok (.getfield 15, 3) := by decide +kernel
theorem dX0_setBack_5 : decode cX0_setBack 5 = .ok (.putfield 15, 3) := by decide +kernel
theorem dX0_setBack_8 : decode cX0_setBack 8 = .ok (.iconst 0, 1) := by decide +kernel
theorem dX0_setBack_9 : decode cX0_setBack 9 = .ok (.istore_n 2, 1) := by decide +kernel
theorem dX0_setBack_10 : decode cX0_setBack 10 = .ok (.iload_n 2, 1) := by decide +kernel
theorem dX0_setBack_11 : decode cX0_setBack 11 = .ok (.aload_n 0, 1) := by decide +kernel
theorem dX0_setBack_12 : decode cX0_setBack 12 = .ok (.getfield 15, 3) := by decide +kernel
theorem dX0_setBack_15 : decode cX0_setBack 15 = .ok (.if_icmp .ge 19, 3) := by decide +kernel
theorem dX0_setBack_18 : decode cX0_setBack 18 = .ok (.aload_n 0, 1) := by decide +kernel
theorem dX0_setBack_19 : decode cX0_setBack 19 = .ok (.aload_n 1, 1) := by decide +kernel
theorem dX0_setBack_20 : decode cX0_setBack 20 = .ok (.iload_n 2, 1) := by decide +kernel
theorem dX0_setBack_21 : decode cX0_setBack 21 = .ok (.invokevirtual 19, 3) := by decide +kernel
theorem dX0_setBack_24 : decode cX0_setBack 24 = .ok (.iload_n 2, 1) := by decide +kernel
theorem dX0_setBack_25 : decode cX0_setBack 25 = .ok (.invokevirtual 30, 3) := by decide +kernel
theorem dX0_setBack_28 : decode cX0_setBack 28 = .ok (.iinc 2 1, 3) := by decide +kernel
theorem dX0_setBack_31 : decode cX0_setBack 31 = .ok (.goto (-21), 3) := by decide +kernel
theorem dX0_setBack_34 : decode cX0_setBack 34 = .ok (.return_, 1) := by decide +kernel
theorem dX0_exchange_0 : decode cX0_exchange 0 = .ok (.aload_n 0, 1) := by decide +kernel
theorem dX0_exchange_1 : decode cX0_exchange 1 = .ok (.iload_n 1, 1) := by decide +kernel
theorem dX0_exchange_2 : decode cX0_exchange 2 = .ok (.invokevirtual 19, 3) := by decide +kernel
theorem dX0_exchange_5 : decode cX0_exchange 5 = .ok (.istore_n 2, 1) := by decide +kernel
theorem dX0_exchange_6 : decode cX0_exchange 6 = .ok (.aload_n 0, 1) := by decide +kernel
theorem dX0_exchange_7 : decode cX0_exchange 7 = .ok (.iload_n 1, 1) := by decide +kernel
theorem dX0_exchange_8 : decode cX0_exchange 8 = .ok (.aload_n 0, 1) := by decide +kernel
theorem dX0_exchange_9 : decode cX0_exchange 9 = .ok (.iload_n 1, 1) := by decide +kernel
theorem dX0_exchange_10 : decode cX0_exchange 10 = .ok (.iconst 1, 1) := by decide +kernel
theorem dX0_exchange_11 : decode cX0_exchange 11 = .ok (.iadd, 1) := by decide +kernel
theorem dX0_exchange_12 : decode cX0_exchange 12 = .ok (.invokevirtual 19, 3) := by decide +kernel
theorem dX0_exchange_15 : decode cX0_exchange 15 = .ok (.invokevirtual 30, 3) := by decide +kernel
theorem dX0_exchange_18 : decode cX0_exchange 18 = .ok (.aload_n 0, 1) := by decide +kernel
theorem dX0_exchange_19 : decode cX0_exchange 19 = .ok (.iload_n 1, 1) := by decide +kernel
theorem dX0_exchange_20 : decode cX0_exchange 20 = .ok (.iconst 1, 1) := by decide +kernel
theorem dX0_exchange_21 : decode cX0_exchange 21 = .ok (.iadd, 1) := by decide +kernel
theorem dX0_exchange_22 : decode cX0_exchange 22 = .ok (.iload_n 2, 1) := by decide +kernel
theorem dX0_exchange_23 : decode cX0_exchange 23 = .ok (.invokevirtual 30, 3) := by decide +kernel
theorem dX0_exchange_26 : decode cX0_exchange 26 = .ok (.return_, 1) := by decide +kernel
theorem dX0_ringStep_0 : decode cX0_ringStep 0 = .ok (.iconst 0, 1) := by decide +kernel
theorem dX0_ringStep_1 : decode cX0_ringStep 1 = .ok (.istore_n 2, 1) := by decide +kernel
theorem dX0_ringStep_2 : decode cX0_ringStep 2 = .ok (.iload_n 2, 1) := by decide +kernel
theorem dX0_ringStep_3 : decode cX0_ringStep 3 = .ok (.iconst 1, 1) := by decide +kernel
theorem dX0_ringStep_4 : decode cX0_ringStep 4 = .ok (.iadd, 1) := by decide +kernel
theorem dX0_ringStep_5 : decode cX0_ringStep 5 = .ok (.aload_n 0, 1) := by decide +kernel
theorem dX0_ringStep_6 : decode cX0_ringStep 6 = .ok (.getfield 15, 3) := by decide +kernel
theorem dX0_ringStep_9 : decode cX0_ringStep 9 = .ok (.if_icmp .ge 28, 3) := by decide +kernel
theorem dX0_ringStep_12 : decode cX0_ringStep 12 = .ok (.iload_n 1, 1) := by decide +kernel
theorem dX0_ringStep_13 : decode cX0_ringStep 13 = .ok (.iload_n 2, 1) := by decide +kernel
theorem dX0_ringStep_14 : decode cX0_ringStep 14 = .ok (.invokestatic 40, 3) := by decide +kernel
theorem dX0_ringStep_17 : decode cX0_ringStep 17 = .ok (.ifCond .eq 9, 3) := by decide +kernel
theorem dX0_ringStep_20 : decode cX0_ringStep 20 = .ok (.iinc 2 1, 3) := by decide +kernel
theorem dX0_ringStep_23 : decode cX0_ringStep 23 = .ok (.goto (-21), 3) := by decide +kernel
theorem dX0_ringStep_26 : decode cX0_ringStep 26 = .ok (.aload_n 0, 1) := by decide +kernel
theorem dX0_ringStep_27 : decode cX0_ringStep 27 = .ok (.iload_n 2, 1) := by decide +kernel
theorem dX0_ringStep_28 : decode cX0_ringStep 28 = .ok (.invokevirtual 46, 3) := by decide +kernel
theorem dX0_ringStep_31 : decode cX0_ringStep 31 = .ok (.iinc 2 2, 3) := by decide +kernel
theorem dX0_ringStep_34 : decode cX0_ringStep 34 = .ok (.goto (-32), 3) := by decide +kernel
theorem dX0_ringStep_37 : decode cX0_ringStep 37 = .ok (.return_, 1) := by decide +kernel
theorem dX0_ringLength_0 : decode cX0_ringLength 0 = .ok (.iconst 1, 1) := by decide +kernel
theorem dX0_ringLength_1 : decode cX0_ringLength 1 = .ok (.istore_n 2, 1) := by decide +kernel
theorem dX0_ringLength_2 : decode cX0_ringLength 2 = .ok (.aload_n 0, 1) := by decide +kernel
theorem dX0_ringLength_3 : decode cX0_ringLength 3 = .ok (.iload_n 1, 1) := by decide +kernel
theorem dX0_ringLength_4 : decode cX0_ringLength 4 = .ok (.invokevirtual 19, 3) := by decide +kernel
theorem dX0_ringLength_7 : decode cX0_ringLength 7 = .ok (.istore_n 3, 1) := by decide +kernel
theorem dX0_ringLength_8 : decode cX0_ringLength 8 = .ok (.iload_n 3, 1) := by decide +kernel
theorem dX0_ringLength_9 : decode cX0_ringLength 9 = .ok (.iload_n 1, 1) := by decide +kernel
theorem dX0_ringLength_10 : decode cX0_ringLength 10 = .ok (.if_icmp .eq 23, 3) := by decide +kernel
theorem dX0_ringLength_13 : decode cX0_ringLength 13 = .ok (.iload_n 2, 1) := by decide +kernel
theorem dX0_ringLength_14 : decode cX0_ringLength 14 = .ok (.aload_n 0, 1) := by decide +kernel
theorem dX0_ringLength_15 : decode cX0_ringLength 15 = .ok (.getfield 15, 3) := by decide +kernel
theorem dX0_ringLength_18 : decode cX0_ringLength 18 = .ok (.if_icmp .ge 15, 3) := by decide +kernel
theorem dX0_ringLength_21 : decode cX0_ringLength 21 = .ok (.aload_n 0, 1) := by decide +kernel
theorem dX0_ringLength_22 : decode cX0_ringLength 22 = .ok (.iload_n 3, 1) := by decide +kernel
theorem dX0_ringLength_23 : decode cX0_ringLength 23 = .ok (.invokevirtual 19, 3) := by decide +kernel
theorem dX0_ringLength_26 : decode cX0_ringLength 26 = .ok (.istore_n 3, 1) := by decide +kernel
theorem dX0_ringLength_27 : decode cX0_ringLength 27 = .ok (.iinc 2 1, 3) := by decide +kernel
theorem dX0_ringLength_30 : decode cX0_ringLength 30 = .ok (.goto (-22), 3) := by decide +kernel
theorem dX0_ringLength_33 : decode cX0_ringLength 33 = .ok (.iload_n 2, 1) := by decide +kernel
theorem dX0_ringLength_34 : decode cX0_ringLength 34 = .ok (.ireturn, 1) := by decide +kernel
theorem dX0_isLeastOfRing_0 : decode cX0_isLeastOfRing 0 = .ok (.aload_n 0, 1) := by decide +kernel
theorem dX0_isLeastOfRing_1 : decode cX0_isLeastOfRing 1 = .ok (.iload_n 1, 1) := by decide +kernel
theorem dX0_isLeastOfRing_2 : decode cX0_isLeastOfRing 2 = .ok (.invokevirtual 19, 3) := by decide +kernel
theorem dX0_isLeastOfRing_5 : decode cX0_isLeastOfRing 5 = .ok (.istore_n 2, 1) := by decide +kernel
theorem dX0_isLeastOfRing_6 : decode cX0_isLeastOfRing 6 = .ok (.iconst 0, 1) := by decide +kernel
theorem dX0_isLeastOfRing_7 : decode cX0_isLeastOfRing 7 = .ok (.istore_n 3, 1) := by decide +kernel
theorem dX0_isLeastOfRing_8 : decode cX0_isLeastOfRing 8 = .ok (.iload_n 3, 1) := by decide +kernel
theorem dX0_isLeastOfRing_9 : decode cX0_isLeastOfRing 9 = .ok (.aload_n 0, 1) := by decide +kernel
theorem dX0_isLeastOfRing_10 : decode cX0_isLeastOfRing 10 = .ok (.getfield 15, 3) := by decide +kernel
theorem dX0_isLeastOfRing_13 : decode cX0_isLeastOfRing 13 = .ok (.if_icmp .ge 20, 3) := by decide +kernel
theorem dX0_isLeastOfRing_16 : decode cX0_isLeastOfRing 16 = .ok (.iload_n 2, 1) := by decide +kernel
theorem dX0_isLeastOfRing_17 : decode cX0_isLeastOfRing 17 = .ok (.iload_n 1, 1) := by decide +kernel
theorem dX0_isLeastOfRing_18 : decode cX0_isLeastOfRing 18 = .ok (.if_icmp .le 15, 3) := by decide +kernel
theorem dX0_isLeastOfRing_21 : decode cX0_isLeastOfRing 21 = .ok (.aload_n 0, 1) := by decide +kernel
theorem dX0_isLeastOfRing_22 : decode cX0_isLeastOfRing 22 = .ok (.iload_n 2, 1) := by decide +kernel
theorem dX0_isLeastOfRing_23 : decode cX0_isLeastOfRing 23 = .ok (.invokevirtual 19, 3) := by decide +kernel
theorem dX0_isLeastOfRing_26 : decode cX0_isLeastOfRing 26 = .ok (.istore_n 2, 1) := by decide +kernel
theorem dX0_isLeastOfRing_27 : decode cX0_isLeastOfRing 27 = .ok (.iinc 3 1, 3) := by decide +kernel
theorem dX0_isLeastOfRing_30 : decode cX0_isLeastOfRing 30 = .ok (.goto (-22), 3) := by decide +kernel
theorem dX0_isLeastOfRing_33 : decode cX0_isLeastOfRing 33 = .ok (.iload_n 2, 1) := by decide +kernel
theorem dX0_isLeastOfRing_34 : decode cX0_isLeastOfRing 34 = .ok (.iload_n 1, 1) := by decide +kernel
theorem dX0_isLeastOfRing_35 : decode cX0_isLeastOfRing 35 = .ok (.if_icmp .ne 7, 3) := by decide +kernel
theorem dX0_isLeastOfRing_38 : decode cX0_isLeastOfRing 38 = .ok (.iconst 1, 1) := by decide +kernel
theorem dX0_isLeastOfRing_39 : decode cX0_isLeastOfRing 39 = .ok (.goto 4, 3) := by decide +kernel
theorem dX0_isLeastOfRing_42 : decode cX0_isLeastOfRing 42 = .ok (.iconst 0, 1) := by decide +kernel
theorem dX0_isLeastOfRing_43 : decode cX0_isLeastOfRing 43 = .ok (.ireturn, 1) := by decide +kernel
theorem dX0_ringCount_0 : decode cX0_ringCount 0 = .ok (.iconst 0, 1) := by decide +kernel
theorem dX0_ringCount_1 : decode cX0_ringCount 1 = .ok (.istore_n 1, 1) := by decide +kernel
theorem dX0_ringCount_2 : decode cX0_ringCount 2 = .ok (.iconst 0, 1) := by decide +kernel
theorem dX0_ringCount_3 : decode cX0_ringCount 3 = .ok (.istore_n 2, 1) := by decide +kernel
theorem dX0_ringCount_4 : decode cX0_ringCount 4 = .ok (.iload_n 2, 1) := by decide +kernel
theorem dX0_ringCount_5 : decode cX0_ringCount 5 = .ok (.aload_n 0, 1) := by decide +kernel
theorem dX0_ringCount_6 : decode cX0_ringCount 6 = .ok (.getfield 15, 3) := by decide +kernel
theorem dX0_ringCount_9 : decode cX0_ringCount 9 = .ok (.if_icmp .ge 20, 3) := by decide +kernel
theorem dX0_ringCount_12 : decode cX0_ringCount 12 = .ok (.aload_n 0, 1) := by decide +kernel
theorem dX0_ringCount_13 : decode cX0_ringCount 13 = .ok (.iload_n 2, 1) := by decide +kernel
theorem dX0_ringCount_14 : decode cX0_ringCount 14 = .ok (.invokevirtual 50, 3) := by decide +kernel
theorem dX0_ringCount_17 : decode cX0_ringCount 17 = .ok (.ifCond .eq 6, 3) := by decide +kernel
theorem dX0_ringCount_20 : decode cX0_ringCount 20 = .ok (.iinc 1 1, 3) := by decide +kernel
theorem dX0_ringCount_23 : decode cX0_ringCount 23 = .ok (.iinc 2 1, 3) := by decide +kernel
theorem dX0_ringCount_26 : decode cX0_ringCount 26 = .ok (.goto (-22), 3) := by decide +kernel
theorem dX0_ringCount_29 : decode cX0_ringCount 29 = .ok (.iload_n 1, 1) := by decide +kernel
theorem dX0_ringCount_30 : decode cX0_ringCount 30 = .ok (.ireturn, 1) := by decide +kernel
theorem dX0_longestRing_0 : decode cX0_longestRing 0 = .ok (.iconst 0, 1) := by decide +kernel
theorem dX0_longestRing_1 : decode cX0_longestRing 1 = .ok (.istore_n 1, 1) := by decide +kernel
theorem dX0_longestRing_2 : decode cX0_longestRing 2 = .ok (.iconst 0, 1) := by decide +kernel
theorem dX0_longestRing_3 : decode cX0_longestRing 3 = .ok (.istore_n 2, 1) := by decide +kernel
theorem dX0_longestRing_4 : decode cX0_longestRing 4 = .ok (.iload_n 2, 1) := by decide +kernel
theorem dX0_longestRing_5 : decode cX0_longestRing 5 = .ok (.aload_n 0, 1) := by decide +kernel
theorem dX0_longestRing_6 : decode cX0_longestRing 6 = .ok (.getfield 15, 3) := by decide +kernel
theorem dX0_longestRing_9 : decode cX0_longestRing 9 = .ok (.if_icmp .ge 19, 3) := by decide +kernel
theorem dX0_longestRing_12 : decode cX0_longestRing 12 = .ok (.iload_n 1, 1) := by decide +kernel
theorem dX0_longestRing_13 : decode cX0_longestRing 13 = .ok (.aload_n 0, 1) := by decide +kernel
theorem dX0_longestRing_14 : decode cX0_longestRing 14 = .ok (.iload_n 2, 1) := by decide +kernel
theorem dX0_longestRing_15 : decode cX0_longestRing 15 = .ok (.invokevirtual 33, 3) := by decide +kernel
theorem dX0_longestRing_18 : decode cX0_longestRing 18 = .ok (.invokestatic 54, 3) := by decide +kernel
theorem dX0_longestRing_21 : decode cX0_longestRing 21 = .ok (.istore_n 1, 1) := by decide +kernel
theorem dX0_longestRing_22 : decode cX0_longestRing 22 = .ok (.iinc 2 1, 3) := by decide +kernel
theorem dX0_longestRing_25 : decode cX0_longestRing 25 = .ok (.goto (-21), 3) := by decide +kernel
theorem dX0_longestRing_28 : decode cX0_longestRing 28 = .ok (.iload_n 1, 1) := by decide +kernel
theorem dX0_longestRing_29 : decode cX0_longestRing 29 = .ok (.ireturn, 1) := by decide +kernel
theorem dX0_order_0 : decode cX0_order 0 = .ok (.iconst 1, 1) := by decide +kernel
theorem dX0_order_1 : decode cX0_order 1 = .ok (.istore_n 1, 1) := by decide +kernel
theorem dX0_order_2 : decode cX0_order 2 = .ok (.iconst 0, 1) := by decide +kernel
theorem dX0_order_3 : decode cX0_order 3 = .ok (.istore_n 2, 1) := by decide +kernel
theorem dX0_order_4 : decode cX0_order 4 = .ok (.iload_n 2, 1) := by decide +kernel
theorem dX0_order_5 : decode cX0_order 5 = .ok (.aload_n 0, 1) := by decide +kernel
theorem dX0_order_6 : decode cX0_order 6 = .ok (.getfield 15, 3) := by decide +kernel
theorem dX0_order_9 : decode cX0_order 9 = .ok (.if_icmp .ge 19, 3) := by decide +kernel
theorem dX0_order_12 : decode cX0_order 12 = .ok (.iload_n 1, 1) := by decide +kernel
theorem dX0_order_13 : decode cX0_order 13 = .ok (.aload_n 0, 1) := by decide +kernel
theorem dX0_order_14 : decode cX0_order 14 = .ok (.iload_n 2, 1) := by decide +kernel
theorem dX0_order_15 : decode cX0_order 15 = .ok (.invokevirtual 33, 3) := by decide +kernel
theorem dX0_order_18 : decode cX0_order 18 = .ok (.invokestatic 59, 3) := by decide +kernel
theorem dX0_order_21 : decode cX0_order 21 = .ok (.istore_n 1, 1) := by decide +kernel
theorem dX0_order_22 : decode cX0_order 22 = .ok (.iinc 2 1, 3) := by decide +kernel
theorem dX0_order_25 : decode cX0_order 25 = .ok (.goto (-21), 3) := by decide +kernel
theorem dX0_order_28 : decode cX0_order 28 = .ok (.iload_n 1, 1) := by decide +kernel
theorem dX0_order_29 : decode cX0_order 29 = .ok (.ireturn, 1) := by decide +kernel
theorem dX0_leastMultiple_0 : decode cX0_leastMultiple 0 = .ok (.iload_n 0, 1) := by decide +kernel
theorem dX0_leastMultiple_1 : decode cX0_leastMultiple 1 = .ok (.istore_n 2, 1) := by decide +kernel
theorem dX0_leastMultiple_2 : decode cX0_leastMultiple 2 = .ok (.iconst 1, 1) := by decide +kernel
theorem dX0_leastMultiple_3 : decode cX0_leastMultiple 3 = .ok (.istore_n 3, 1) := by decide +kernel
theorem dX0_leastMultiple_4 : decode cX0_leastMultiple 4 = .ok (.iload_n 3, 1) := by decide +kernel
theorem dX0_leastMultiple_5 : decode cX0_leastMultiple 5 = .ok (.iload_n 1, 1) := by decide +kernel
theorem dX0_leastMultiple_6 : decode cX0_leastMultiple 6 = .ok (.if_icmp .ge 19, 3) := by decide +kernel
theorem dX0_leastMultiple_9 : decode cX0_leastMultiple 9 = .ok (.iload_n 2, 1) := by decide +kernel
theorem dX0_leastMultiple_10 : decode cX0_leastMultiple 10 = .ok (.iload_n 1, 1) := by decide +kernel
theorem dX0_leastMultiple_11 : decode cX0_leastMultiple 11 = .ok (.irem, 1) := by decide +kernel
theorem dX0_leastMultiple_12 : decode cX0_leastMultiple 12 = .ok (.ifCond .eq 13, 3) := by decide +kernel
theorem dX0_leastMultiple_15 : decode cX0_leastMultiple 15 = .ok (.iload_n 2, 1) := by decide +kernel
theorem dX0_leastMultiple_16 : decode cX0_leastMultiple 16 = .ok (.iload_n 0, 1) := by decide +kernel
theorem dX0_leastMultiple_17 : decode cX0_leastMultiple 17 = .ok (.iadd, 1) := by decide +kernel
theorem dX0_leastMultiple_18 : decode cX0_leastMultiple 18 = .ok (.istore_n 2, 1) := by decide +kernel
theorem dX0_leastMultiple_19 : decode cX0_leastMultiple 19 = .ok (.iinc 3 1, 3) := by decide +kernel
theorem dX0_leastMultiple_22 : decode cX0_leastMultiple 22 = .ok (.goto (-18), 3) := by decide +kernel
theorem dX0_leastMultiple_25 : decode cX0_leastMultiple 25 = .ok (.iload_n 2, 1) := by decide +kernel
theorem dX0_leastMultiple_26 : decode cX0_leastMultiple 26 = .ok (.ireturn, 1) := by decide +kernel
theorem dX0_ownPlaces_0 : decode cX0_ownPlaces 0 = .ok (.iconst 0, 1) := by decide +kernel
theorem dX0_ownPlaces_1 : decode cX0_ownPlaces 1 = .ok (.istore_n 1, 1) := by decide +kernel
theorem dX0_ownPlaces_2 : decode cX0_ownPlaces 2 = .ok (.iconst 0, 1) := by decide +kernel
theorem dX0_ownPlaces_3 : decode cX0_ownPlaces 3 = .ok (.istore_n 2, 1) := by decide +kernel
theorem dX0_ownPlaces_4 : decode cX0_ownPlaces 4 = .ok (.iload_n 2, 1) := by decide +kernel
theorem dX0_ownPlaces_5 : decode cX0_ownPlaces 5 = .ok (.aload_n 0, 1) := by decide +kernel
theorem dX0_ownPlaces_6 : decode cX0_ownPlaces 6 = .ok (.getfield 15, 3) := by decide +kernel
theorem dX0_ownPlaces_9 : decode cX0_ownPlaces 9 = .ok (.if_icmp .ge 21, 3) := by decide +kernel
theorem dX0_ownPlaces_12 : decode cX0_ownPlaces 12 = .ok (.aload_n 0, 1) := by decide +kernel
theorem dX0_ownPlaces_13 : decode cX0_ownPlaces 13 = .ok (.iload_n 2, 1) := by decide +kernel
theorem dX0_ownPlaces_14 : decode cX0_ownPlaces 14 = .ok (.invokevirtual 19, 3) := by decide +kernel
theorem dX0_ownPlaces_17 : decode cX0_ownPlaces 17 = .ok (.iload_n 2, 1) := by decide +kernel
theorem dX0_ownPlaces_18 : decode cX0_ownPlaces 18 = .ok (.if_icmp .ne 6, 3) := by decide +kernel
theorem dX0_ownPlaces_21 : decode cX0_ownPlaces 21 = .ok (.iinc 1 1, 3) := by decide +kernel
theorem dX0_ownPlaces_24 : decode cX0_ownPlaces 24 = .ok (.iinc 2 1, 3) := by decide +kernel
theorem dX0_ownPlaces_27 : decode cX0_ownPlaces 27 = .ok (.goto (-23), 3) := by decide +kernel
theorem dX0_ownPlaces_30 : decode cX0_ownPlaces 30 = .ok (.iload_n 1, 1) := by decide +kernel
theorem dX0_ownPlaces_31 : decode cX0_ownPlaces 31 = .ok (.ireturn, 1) := by decide +kernel
theorem dX1_init_0 : decode cX1_init 0 = .ok (.aload_n 0, 1) := by decide +kernel
theorem dX1_init_1 : decode cX1_init 1 = .ok (.invokespecial 3, 3) := by decide +kernel
theorem dX1_init_4 : decode cX1_init 4 = .ok (.aload_n 0, 1) := by decide +kernel
theorem dX1_init_5 : decode cX1_init 5 = .ok (.bipush 10, 2) := by decide +kernel
theorem dX1_init_7 : decode cX1_init 7 = .ok (.newarray .int, 2) := by decide +kernel
theorem dX1_init_9 : decode cX1_init 9 = .ok (.putfield 9, 3) := by decide +kernel
theorem dX1_init_12 : decode cX1_init 12 = .ok (.aload_n 0, 1) := by decide +kernel
theorem dX1_init_13 : decode cX1_init 13 = .ok (.iconst 0, 1) := by decide +kernel
theorem dX1_init_14 : decode cX1_init 14 = .ok (.putfield 15, 3) := by decide +kernel
theorem dX1_init_17 : decode cX1_init 17 = .ok (.return_, 1) := by decide +kernel
theorem dX1_keeps_0 : decode cX1_keeps 0 = .ok (.iload_n 0, 1) := by decide +kernel
theorem dX1_keeps_1 : decode cX1_keeps 1 = .ok (.iload_n 1, 1) := by decide +kernel
theorem dX1_keeps_2 : decode cX1_keeps 2 = .ok (.ishr, 1) := by decide +kernel
theorem dX1_keeps_3 : decode cX1_keeps 3 = .ok (.iconst 1, 1) := by decide +kernel
theorem dX1_keeps_4 : decode cX1_keeps 4 = .ok (.iand, 1) := by decide +kernel
theorem dX1_keeps_5 : decode cX1_keeps 5 = .ok (.iconst 1, 1) := by decide +kernel
theorem dX1_keeps_6 : decode cX1_keeps 6 = .ok (.if_icmp .ne 7, 3) := by decide +kernel
theorem dX1_keeps_9 : decode cX1_keeps 9 = .ok (.iconst 1, 1) := by decide +kernel
theorem dX1_keeps_10 : decode cX1_keeps 10 = .ok (.goto 4, 3) := by decide +kernel
theorem dX1_keeps_13 : decode cX1_keeps 13 = .ok (.iconst 0, 1) := by decide +kernel
theorem dX1_keeps_14 : decode cX1_keeps 14 = .ok (.ireturn, 1) := by decide +kernel
theorem dX1_isStep_0 : decode cX1_isStep 0 = .ok (.iload_n 0, 1) := by decide +kernel
theorem dX1_isStep_1 : decode cX1_isStep 1 = .ok (.ifCond .lt 10, 3) := by decide +kernel
theorem dX1_isStep_4 : decode cX1_isStep 4 = .ok (.iload_n 0, 1) := by decide +kernel
theorem dX1_isStep_5 : decode cX1_isStep 5 = .ok (.iconst 1, 1) := by decide +kernel
theorem dX1_isStep_6 : decode cX1_isStep 6 = .ok (.iload_n 1, 1) := by decide +kernel
theorem dX1_isStep_7 : decode cX1_isStep 7 = .ok (.ishl, 1) := by decide +kernel
theorem dX1_isStep_8 : decode cX1_isStep 8 = .ok (.if_icmp .lt 5, 3) := by decide +kernel
theorem dX1_isStep_11 : decode cX1_isStep 11 = .ok (.iconst 0, 1) := by decide +kernel
theorem dX1_isStep_12 : decode cX1_isStep 12 = .ok (.ireturn, 1) := by decide +kernel
theorem dX1_isStep_13 : decode cX1_isStep 13 = .ok (.iconst 0, 1) := by decide +kernel
theorem dX1_isStep_14 : decode cX1_isStep 14 = .ok (.istore_n 2, 1) := by decide +kernel
theorem dX1_isStep_15 : decode cX1_isStep 15 = .ok (.iload_n 2, 1) := by decide +kernel
theorem dX1_isStep_16 : decode cX1_isStep 16 = .ok (.iload_n 1, 1) := by decide +kernel
theorem dX1_isStep_17 : decode cX1_isStep 17 = .ok (.if_icmp .ge 42, 3) := by decide +kernel
theorem dX1_isStep_20 : decode cX1_isStep 20 = .ok (.iload_n 0, 1) := by decide +kernel
theorem dX1_isStep_21 : decode cX1_isStep 21 = .ok (.iload_n 2, 1) := by decide +kernel
theorem dX1_isStep_22 : decode cX1_isStep 22 = .ok (.invokestatic 19, 3) := by decide +kernel
theorem dX1_isStep_25 : decode cX1_isStep 25 = .ok (.ifCond .eq 9, 3) := by decide +kernel
theorem dX1_isStep_28 : decode cX1_isStep 28 = .ok (.iinc 2 1, 3) := by decide +kernel
theorem dX1_isStep_31 : decode cX1_isStep 31 = .ok (.goto (-16), 3) := by decide +kernel
theorem dX1_isStep_34 : decode cX1_isStep 34 = .ok (.iload_n 2, 1) := by decide +kernel
theorem dX1_isStep_35 : decode cX1_isStep 35 = .ok (.iconst 1, 1) := by decide +kernel
theorem dX1_isStep_36 : decode cX1_isStep 36 = .ok (.iadd, 1) := by decide +kernel
theorem dX1_isStep_37 : decode cX1_isStep 37 = .ok (.iload_n 1, 1) := by decide +kernel
theorem dX1_isStep_38 : decode cX1_isStep 38 = .ok (.if_icmp .ge 19, 3) := by decide +kernel
theorem dX1_isStep_41 : decode cX1_isStep 41 = .ok (.iload_n 0, 1) := by decide +kernel
theorem dX1_isStep_42 : decode cX1_isStep 42 = .ok (.iload_n 2, 1) := by decide +kernel
theorem dX1_isStep_43 : decode cX1_isStep 43 = .ok (.iconst 1, 1) := by decide +kernel
theorem dX1_isStep_44 : decode cX1_isStep 44 = .ok (.iadd, 1) := by decide +kernel
theorem dX1_isStep_45 : decode cX1_isStep 45 = .ok (.invokestatic 19, 3) := by decide +kernel
theorem dX1_isStep_48 : decode cX1_isStep 48 = .ok (.ifCond .ne 9, 3) := by decide +kernel
theorem dX1_isStep_51 : decode cX1_isStep 51 = .ok (.iinc 2 2, 3) := by decide +kernel
theorem dX1_isStep_54 : decode cX1_isStep 54 = .ok (.goto (-39), 3) := by decide +kernel
theorem dX1_isStep_57 : decode cX1_isStep 57 = .ok (.iconst 0, 1) := by decide +kernel
theorem dX1_isStep_58 : decode cX1_isStep 58 = .ok (.ireturn, 1) := by decide +kernel
theorem dX1_isStep_59 : decode cX1_isStep 59 = .ok (.iconst 1, 1) := by decide +kernel
theorem dX1_isStep_60 : decode cX1_isStep 60 = .ok (.ireturn, 1) := by decide +kernel
theorem dX1_length_0 : decode cX1_length 0 = .ok (.aload_n 0, 1) := by decide +kernel
theorem dX1_length_1 : decode cX1_length 1 = .ok (.getfield 15, 3) := by decide +kernel
theorem dX1_length_4 : decode cX1_length 4 = .ok (.ireturn, 1) := by decide +kernel
theorem dX1_keptAt_0 : decode cX1_keptAt 0 = .ok (.iload_n 1, 1) := by decide +kernel
theorem dX1_keptAt_1 : decode cX1_keptAt 1 = .ok (.ifCond .lt 21, 3) := by decide +kernel
theorem dX1_keptAt_4 : decode cX1_keptAt 4 = .ok (.iload_n 1, 1) := by decide +kernel
theorem dX1_keptAt_5 : decode cX1_keptAt 5 = .ok (.aload_n 0, 1) := by decide +kernel
theorem dX1_keptAt_6 : decode cX1_keptAt 6 = .ok (.getfield 9, 3) := by decide +kernel
theorem dX1_keptAt_9 : decode cX1_keptAt 9 = .ok (.arraylength, 1) := by decide +kernel
theorem dX1_keptAt_10 : decode cX1_keptAt 10 = .ok (.if_icmp .ge 12, 3) := by decide +kernel
theorem dX1_keptAt_13 : decode cX1_keptAt 13 = .ok (.aload_n 0, 1) := by decide +kernel
theorem dX1_keptAt_14 : decode cX1_keptAt 14 = .ok (.getfield 9, 3) := by decide +kernel
theorem dX1_keptAt_17 : decode cX1_keptAt 17 = .ok (.iload_n 1, 1) := by decide +kernel
theorem dX1_keptAt_18 : decode cX1_keptAt 18 = .ok (.iaload, 1) := by decide +kernel
theorem dX1_keptAt_19 : decode cX1_keptAt 19 = .ok (.goto 4, 3) := by decide +kernel
theorem dX1_keptAt_22 : decode cX1_keptAt 22 = .ok (.iconst 0, 1) := by decide +kernel
theorem dX1_keptAt_23 : decode cX1_keptAt 23 = .ok (.ireturn, 1) := by decide +kernel
theorem dX1_add_0 : decode cX1_add 0 = .ok (.aload_n 0, 1) := by decide +kernel
theorem dX1_add_1 : decode cX1_add 1 = .ok (.getfield 15, 3) := by decide +kernel
theorem dX1_add_4 : decode cX1_add 4 = .ok (.aload_n 0, 1) := by decide +kernel
theorem dX1_add_5 : decode cX1_add 5 = .ok (.getfield 9, 3) := by decide +kernel
theorem dX1_add_8 : decode cX1_add 8 = .ok (.arraylength, 1) := by decide +kernel
theorem dX1_add_9 : decode cX1_add 9 = .ok (.if_icmp .ge 23, 3) := by decide +kernel
theorem dX1_add_12 : decode cX1_add 12 = .ok (.aload_n 0, 1) := by decide +kernel
theorem dX1_add_13 : decode cX1_add 13 = .ok (.getfield 9, 3) := by decide +kernel
theorem dX1_add_16 : decode cX1_add 16 = .ok (.aload_n 0, 1) := by decide +kernel
theorem dX1_add_17 : decode cX1_add 17 = .ok (.getfield 15, 3) := by decide +kernel
theorem dX1_add_20 : decode cX1_add 20 = .ok (.iload_n 1, 1) := by decide +kernel
theorem dX1_add_21 : decode cX1_add 21 = .ok (.iastore, 1) := by decide +kernel
theorem dX1_add_22 : decode cX1_add 22 = .ok (.aload_n 0, 1) := by decide +kernel
theorem dX1_add_23 : decode cX1_add 23 = .ok (.dup, 1) := by decide +kernel
theorem dX1_add_24 : decode cX1_add 24 = .ok (.getfield 15, 3) := by decide +kernel
theorem dX1_add_27 : decode cX1_add 27 = .ok (.iconst 1, 1) := by decide +kernel
theorem dX1_add_28 : decode cX1_add 28 = .ok (.iadd, 1) := by decide +kernel
theorem dX1_add_29 : decode cX1_add 29 = .ok (.putfield 15, 3) := by decide +kernel
theorem dX1_add_32 : decode cX1_add 32 = .ok (.return_, 1) := by decide +kernel
theorem dX1_removeAll_0 : decode cX1_removeAll 0 = .ok (.aload_n 0, 1) := by decide +kernel
theorem dX1_removeAll_1 : decode cX1_removeAll 1 = .ok (.iconst 0, 1) := by decide +kernel
theorem dX1_removeAll_2 : decode cX1_removeAll 2 = .ok (.putfield 15, 3) := by decide +kernel
theorem dX1_removeAll_5 : decode cX1_removeAll 5 = .ok (.return_, 1) := by decide +kernel
theorem dX1_ringOn_0 : decode cX1_ringOn 0 = .ok (.aload_n 0, 1) := by decide +kernel
theorem dX1_ringOn_1 : decode cX1_ringOn 1 = .ok (.getfield 15, 3) := by decide +kernel
theorem dX1_ringOn_4 : decode cX1_ringOn 4 = .ok (.ifCond .le 17, 3) := by decide +kernel
theorem dX1_ringOn_7 : decode cX1_ringOn 7 = .ok (.aload_n 1, 1) := by decide +kernel
theorem dX1_ringOn_8 : decode cX1_ringOn 8 = .ok (.aload_n 0, 1) := by decide +kernel
theorem dX1_ringOn_9 : decode cX1_ringOn 9 = .ok (.iload_n 2, 1) := by decide +kernel
theorem dX1_ringOn_10 : decode cX1_ringOn 10 = .ok (.aload_n 0, 1) := by decide +kernel
theorem dX1_ringOn_11 : decode cX1_ringOn 11 = .ok (.getfield 15, 3) := by decide +kernel
theorem dX1_ringOn_14 : decode cX1_ringOn 14 = .ok (.irem, 1) := by decide +kernel
theorem dX1_ringOn_15 : decode cX1_ringOn 15 = .ok (.invokevirtual 23, 3) := by decide +kernel
theorem dX1_ringOn_18 : decode cX1_ringOn 18 = .ok (.invokevirtual 27, 3) := by decide +kernel
theorem dX1_ringOn_21 : decode cX1_ringOn 21 = .ok (.return_, 1) := by decide +kernel
theorem dX2_init_0 : decode cX2_init 0 = .ok (.aload_n 0, 1) := by decide +kernel
theorem dX2_init_1 : decode cX2_init 1 = .ok (.invokespecial 3, 3) := by decide +kernel
theorem dX2_init_4 : decode cX2_init 4 = .ok (.aload_n 0, 1) := by decide +kernel
theorem dX2_init_5 : decode cX2_init 5 = .ok (.sipush 201, 3) := by decide +kernel
theorem dX2_init_8 : decode cX2_init 8 = .ok (.newarray .int, 2) := by decide +kernel
theorem dX2_init_10 : decode cX2_init 10 = .ok (.putfield 9, 3) := by decide +kernel
theorem dX2_init_13 : decode cX2_init 13 = .ok (.aload_n 0, 1) := by decide +kernel
theorem dX2_init_14 : decode cX2_init 14 = .ok (.iconst 0, 1) := by decide +kernel
theorem dX2_init_15 : decode cX2_init 15 = .ok (.putfield 15, 3) := by decide +kernel
theorem dX2_init_18 : decode cX2_init 18 = .ok (.return_, 1) := by decide +kernel
theorem dX2_size_0 : decode cX2_size 0 = .ok (.aload_n 0, 1) := by decide +kernel
theorem dX2_size_1 : decode cX2_size 1 = .ok (.getfield 15, 3) := by decide +kernel
theorem dX2_size_4 : decode cX2_size 4 = .ok (.ireturn, 1) := by decide +kernel
theorem dX2_removeAll_0 : decode cX2_removeAll 0 = .ok (.aload_n 0, 1) := by decide +kernel
theorem dX2_removeAll_1 : decode cX2_removeAll 1 = .ok (.iconst 0, 1) := by decide +kernel
theorem dX2_removeAll_2 : decode cX2_removeAll 2 = .ok (.putfield 15, 3) := by decide +kernel
theorem dX2_removeAll_5 : decode cX2_removeAll 5 = .ok (.return_, 1) := by decide +kernel
theorem dX2_add_0 : decode cX2_add 0 = .ok (.iconst 0, 1) := by decide +kernel
theorem dX2_add_1 : decode cX2_add 1 = .ok (.istore_n 2, 1) := by decide +kernel
theorem dX2_add_2 : decode cX2_add 2 = .ok (.iload_n 2, 1) := by decide +kernel
theorem dX2_add_3 : decode cX2_add 3 = .ok (.aload_n 0, 1) := by decide +kernel
theorem dX2_add_4 : decode cX2_add 4 = .ok (.getfield 15, 3) := by decide +kernel
theorem dX2_add_7 : decode cX2_add 7 = .ok (.if_icmp .ge 20, 3) := by decide +kernel
theorem dX2_add_10 : decode cX2_add 10 = .ok (.aload_n 0, 1) := by decide +kernel
theorem dX2_add_11 : decode cX2_add 11 = .ok (.getfield 9, 3) := by decide +kernel
theorem dX2_add_14 : decode cX2_add 14 = .ok (.iload_n 2, 1) := by decide +kernel
theorem dX2_add_15 : decode cX2_add 15 = .ok (.iaload, 1) := by decide +kernel
theorem dX2_add_16 : decode cX2_add 16 = .ok (.iload_n 1, 1) := by decide +kernel
theorem dX2_add_17 : decode cX2_add 17 = .ok (.if_icmp .ne 4, 3) := by decide +kernel
theorem dX2_add_20 : decode cX2_add 20 = .ok (.return_, 1) := by decide +kernel
theorem dX2_add_21 : decode cX2_add 21 = .ok (.iinc 2 1, 3) := by decide +kernel
theorem dX2_add_24 : decode cX2_add 24 = .ok (.goto (-22), 3) := by decide +kernel
theorem dX2_add_27 : decode cX2_add 27 = .ok (.aload_n 0, 1) := by decide +kernel
theorem dX2_add_28 : decode cX2_add 28 = .ok (.getfield 15, 3) := by decide +kernel
theorem dX2_add_31 : decode cX2_add 31 = .ok (.aload_n 0, 1) := by decide +kernel
theorem dX2_add_32 : decode cX2_add 32 = .ok (.getfield 9, 3) := by decide +kernel
theorem dX2_add_35 : decode cX2_add 35 = .ok (.arraylength, 1) := by decide +kernel
theorem dX2_add_36 : decode cX2_add 36 = .ok (.if_icmp .ge 23, 3) := by decide +kernel
theorem dX2_add_39 : decode cX2_add 39 = .ok (.aload_n 0, 1) := by decide +kernel
theorem dX2_add_40 : decode cX2_add 40 = .ok (.getfield 9, 3) := by decide +kernel
theorem dX2_add_43 : decode cX2_add 43 = .ok (.aload_n 0, 1) := by decide +kernel
theorem dX2_add_44 : decode cX2_add 44 = .ok (.getfield 15, 3) := by decide +kernel
theorem dX2_add_47 : decode cX2_add 47 = .ok (.iload_n 1, 1) := by decide +kernel
theorem dX2_add_48 : decode cX2_add 48 = .ok (.iastore, 1) := by decide +kernel
theorem dX2_add_49 : decode cX2_add 49 = .ok (.aload_n 0, 1) := by decide +kernel
theorem dX2_add_50 : decode cX2_add 50 = .ok (.dup, 1) := by decide +kernel
theorem dX2_add_51 : decode cX2_add 51 = .ok (.getfield 15, 3) := by decide +kernel
theorem dX2_add_54 : decode cX2_add 54 = .ok (.iconst 1, 1) := by decide +kernel
theorem dX2_add_55 : decode cX2_add 55 = .ok (.iadd, 1) := by decide +kernel
theorem dX2_add_56 : decode cX2_add 56 = .ok (.putfield 15, 3) := by decide +kernel
theorem dX2_add_59 : decode cX2_add 59 = .ok (.return_, 1) := by decide +kernel
