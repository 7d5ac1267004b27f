theorem dX3_init_0 : decode cX3_init 0 = .ok (.aload_n 0, 1) := by decide +kernel
theorem dX3_init_1 : decode cX3_init 1 = .ok (.invokespecial 1, 3) := by decide +kernel
theorem dX3_init_4 : decode cX3_init 4 = .ok (.aload_n 0, 1) := by decide +kernel
theorem dX3_init_5 : decode cX3_init 5 = .ok (.bipush 16, 2) := by decide +kernel
theorem dX3_init_7 : decode cX3_init 7 = .ok (.anewarray 9, 3) := by decide +kernel
theorem dX3_init_10 : decode cX3_init 10 = .ok (.putfield 11, 3) := by decide +kernel
theorem dX3_init_13 : decode cX3_init 13 = .ok (.iconst 0, 1) := by decide +kernel
theorem dX3_init_14 : decode cX3_init 14 = .ok (.istore_n 1, 1) := by decide +kernel
theorem dX3_init_15 : decode cX3_init 15 = .ok (.iload_n 1, 1) := by decide +kernel
theorem dX3_init_16 : decode cX3_init 16 = .ok (.aload_n 0, 1) := by decide +kernel
theorem dX3_init_17 : decode cX3_init 17 = .ok (.getfield 11, 3) := by decide +kernel
theorem dX3_init_20 : decode cX3_init 20 = .ok (.arraylength, 1) := by decide +kernel
theorem dX3_init_21 : decode cX3_init 21 = .ok (.if_icmp .ge 22, 3) := by decide +kernel
theorem dX3_init_24 : decode cX3_init 24 = .ok (.aload_n 0, 1) := by decide +kernel
theorem dX3_init_25 : decode cX3_init 25 = .ok (.getfield 11, 3) := by decide +kernel
theorem dX3_init_28 : decode cX3_init 28 = .ok (.iload_n 1, 1) := by decide +kernel
theorem dX3_init_29 : decode cX3_init 29 = .ok (.new 9, 3) := by decide +kernel
theorem dX3_init_32 : decode cX3_init 32 = .ok (.dup, 1) := by decide +kernel
theorem dX3_init_33 : decode cX3_init 33 = .ok (.invokespecial 15, 3) := by decide +kernel
theorem dX3_init_36 : decode cX3_init 36 = .ok (.aastore, 1) := by decide +kernel
theorem dX3_init_37 : decode cX3_init 37 = .ok (.iinc 1 1, 3) := by decide +kernel
theorem dX3_init_40 : decode cX3_init 40 = .ok (.goto (-25), 3) := by decide +kernel
theorem dX3_init_43 : decode cX3_init 43 = .ok (.aload_n 0, 1) := by decide +kernel
theorem dX3_init_44 : decode cX3_init 44 = .ok (.new 16, 3) := by decide +kernel
theorem dX3_init_47 : decode cX3_init 47 = .ok (.dup, 1) := by decide +kernel
theorem dX3_init_48 : decode cX3_init 48 = .ok (.invokespecial 18, 3) := by decide +kernel
theorem dX3_init_51 : decode cX3_init 51 = .ok (.putfield 19, 3) := by decide +kernel
theorem dX3_init_54 : decode cX3_init 54 = .ok (.aload_n 0, 1) := by decide +kernel
theorem dX3_init_55 : decode cX3_init 55 = .ok (.new 9, 3) := by decide +kernel
theorem dX3_init_58 : decode cX3_init 58 = .ok (.dup, 1) := by decide +kernel
theorem dX3_init_59 : decode cX3_init 59 = .ok (.invokespecial 15, 3) := by decide +kernel
theorem dX3_init_62 : decode cX3_init 62 = .ok (.putfield 23, 3) := by decide +kernel
theorem dX3_init_65 : decode cX3_init 65 = .ok (.aload_n 0, 1) := by decide +kernel
theorem dX3_init_66 : decode cX3_init 66 = .ok (.new 9, 3) := by decide +kernel
theorem dX3_init_69 : decode cX3_init 69 = .ok (.dup, 1) := by decide +kernel
theorem dX3_init_70 : decode cX3_init 70 = .ok (.invokespecial 15, 3) := by decide +kernel
theorem dX3_init_73 : decode cX3_init 73 = .ok (.putfield 27, 3) := by decide +kernel
theorem dX3_init_76 : decode cX3_init 76 = .ok (.aload_n 0, 1) := by decide +kernel
theorem dX3_init_77 : decode cX3_init 77 = .ok (.new 30, 3) := by decide +kernel
theorem dX3_init_80 : decode cX3_init 80 = .ok (.dup, 1) := by decide +kernel
theorem dX3_init_81 : decode cX3_init 81 = .ok (.invokespecial 32, 3) := by decide +kernel
theorem dX3_init_84 : decode cX3_init 84 = .ok (.putfield 33, 3) := by decide +kernel
theorem dX3_init_87 : decode cX3_init 87 = .ok (.aload_n 0, 1) := by decide +kernel
theorem dX3_init_88 : decode cX3_init 88 = .ok (.iconst 5, 1) := by decide +kernel
theorem dX3_init_89 : decode cX3_init 89 = .ok (.putfield 37, 3) := by decide +kernel
theorem dX3_init_92 : decode cX3_init 92 = .ok (.aload_n 0, 1) := by decide +kernel
theorem dX3_init_93 : decode cX3_init 93 = .ok (.iconst 0, 1) := by decide +kernel
theorem dX3_init_94 : decode cX3_init 94 = .ok (.putfield 41, 3) := by decide +kernel
theorem dX3_init_97 : decode cX3_init 97 = .ok (.aload_n 0, 1) := by decide +kernel
theorem dX3_init_98 : decode cX3_init 98 = .ok (.iconst 0, 1) := by decide +kernel
theorem dX3_init_99 : decode cX3_init 99 = .ok (.putfield 44, 3) := by decide +kernel
theorem dX3_init_102 : decode cX3_init 102 = .ok (.return_, 1) := by decide +kernel
theorem dX3_setBells_0 : decode cX3_setBells 0 = .ok (.iload_n 1, 1) := by decide +kernel
theorem dX3_setBells_1 : decode cX3_setBells 1 = .ok (.iconst 2, 1) := by decide +kernel
theorem dX3_setBells_2 : decode cX3_setBells 2 = .ok (.if_icmp .lt 9, 3) := by decide +kernel
theorem dX3_setBells_5 : decode cX3_setBells 5 = .ok (.iload_n 1, 1) := by decide +kernel
theorem dX3_setBells_6 : decode cX3_setBells 6 = .ok (.bipush 8, 2) := by decide +kernel
theorem dX3_setBells_8 : decode cX3_setBells 8 = .ok (.if_icmp .le 13, 3) := by decide +kernel
theorem dX3_setBells_11 : decode cX3_setBells 11 = .ok (.new 47, 3) := by decide +kernel
theorem dX3_setBells_14 : decode cX3_setBells 14 = .ok (.dup, 1) := by decide +kernel
theorem dX3_setBells_15 : decode cX3_setBells 15 = .ok (.ldc 49, 2) := by decide +kernel
theorem dX3_setBells_17 : decode cX3_setBells 17 = .ok (.invokespecial 51, 3) := by decide +kernel
theorem dX3_setBells_20 : decode cX3_setBells 20 = .ok (.athrow, 1) := by decide +kernel
theorem dX3_setBells_21 : decode cX3_setBells 21 = .ok (.aload_n 0, 1) := by decide +kernel
theorem dX3_setBells_22 : decode cX3_setBells 22 = .ok (.getfield 37, 3) := by decide +kernel
theorem dX3_setBells_25 : decode cX3_setBells 25 = .ok (.istore_n 2, 1) := by decide +kernel
theorem dX3_setBells_26 : decode cX3_setBells 26 = .ok (.aload_n 0, 1) := by decide +kernel
theorem dX3_setBells_27 : decode cX3_setBells 27 = .ok (.iload_n 1, 1) := by decide +kernel
theorem dX3_setBells_28 : decode cX3_setBells 28 = .ok (.putfield 37, 3) := by decide +kernel
theorem dX3_setBells_31 : decode cX3_setBells 31 = .ok (.aload_n 0, 1) := by decide +kernel
theorem dX3_setBells_32 : decode cX3_setBells 32 = .ok (.iconst 0, 1) := by decide +kernel
theorem dX3_setBells_33 : decode cX3_setBells 33 = .ok (.putfield 41, 3) := by decide +kernel
theorem dX3_setBells_36 : decode cX3_setBells 36 = .ok (.aload_n 0, 1) := by decide +kernel
theorem dX3_setBells_37 : decode cX3_setBells 37 = .ok (.getfield 19, 3) := by decide +kernel
theorem dX3_setBells_40 : decode cX3_setBells 40 = .ok (.invokevirtual 54, 3) := by decide +kernel
theorem dX3_setBells_43 : decode cX3_setBells 43 = .ok (.iload_n 2, 1) := by decide +kernel
theorem dX3_setBells_44 : decode cX3_setBells 44 = .ok (.ireturn, 1) := by decide +kernel
theorem dX3_write_0 : decode cX3_write 0 = .ok (.iload_n 1, 1) := by decide +kernel
theorem dX3_write_1 : decode cX3_write 1 = .ok (.ifCond .lt 14, 3) := by decide +kernel
theorem dX3_write_4 : decode cX3_write 4 = .ok (.iload_n 1, 1) := by decide +kernel
theorem dX3_write_5 : decode cX3_write 5 = .ok (.aload_n 0, 1) := by decide +kernel
theorem dX3_write_6 : decode cX3_write 6 = .ok (.getfield 37, 3) := by decide +kernel
theorem dX3_write_9 : decode cX3_write 9 = .ok (.invokestatic 57, 3) := by decide +kernel
theorem dX3_write_12 : decode cX3_write 12 = .ok (.if_icmp .lt 13, 3) := by decide +kernel
theorem dX3_write_15 : decode cX3_write 15 = .ok (.new 61, 3) := by decide +kernel
theorem dX3_write_18 : decode cX3_write 18 = .ok (.dup, 1) := by decide +kernel
theorem dX3_write_19 : decode cX3_write 19 = .ok (.ldc 63, 2) := by decide +kernel
theorem dX3_write_21 : decode cX3_write 21 = .ok (.invokespecial 65, 3) := by decide +kernel
theorem dX3_write_24 : decode cX3_write 24 = .ok (.athrow, 1) := by decide +kernel
theorem dX3_write_25 : decode cX3_write 25 = .ok (.aload_n 0, 1) := by decide +kernel
theorem dX3_write_26 : decode cX3_write 26 = .ok (.invokevirtual 66, 3) := by decide +kernel
theorem dX3_write_29 : decode cX3_write 29 = .ok (.astore_n 2, 1) := by decide +kernel
theorem dX3_write_30 : decode cX3_write 30 = .ok (.aload_n 2, 1) := by decide +kernel
theorem dX3_write_31 : decode cX3_write 31 = .ok (.aload_n 0, 1) := by decide +kernel
theorem dX3_write_32 : decode cX3_write 32 = .ok (.getfield 37, 3) := by decide +kernel
theorem dX3_write_35 : decode cX3_write 35 = .ok (.iload_n 1, 1) := by decide +kernel
theorem dX3_write_36 : decode cX3_write 36 = .ok (.invokevirtual 70, 3) := by decide +kernel
theorem dX3_write_39 : decode cX3_write 39 = .ok (.aload_n 0, 1) := by decide +kernel
theorem dX3_write_40 : decode cX3_write 40 = .ok (.getfield 41, 3) := by decide +kernel
theorem dX3_write_43 : decode cX3_write 43 = .ok (.iconst 1, 1) := by decide +kernel
theorem dX3_write_44 : decode cX3_write 44 = .ok (.isub, 1) := by decide +kernel
theorem dX3_write_45 : decode cX3_write 45 = .ok (.ireturn, 1) := by decide +kernel
theorem dX3_swap_0 : decode cX3_swap 0 = .ok (.aload_n 0, 1) := by decide +kernel
theorem dX3_swap_1 : decode cX3_swap 1 = .ok (.iload_n 1, 1) := by decide +kernel
theorem dX3_swap_2 : decode cX3_swap 2 = .ok (.invokevirtual 74, 3) := by decide +kernel
theorem dX3_swap_5 : decode cX3_swap 5 = .ok (.astore_n 3, 1) := by decide +kernel
theorem dX3_swap_6 : decode cX3_swap 6 = .ok (.iload_n 2, 1) := by decide +kernel
theorem dX3_swap_7 : decode cX3_swap 7 = .ok (.ifCond .lt 13, 3) := by decide +kernel
theorem dX3_swap_10 : decode cX3_swap 10 = .ok (.iload_n 2, 1) := by decide +kernel
theorem dX3_swap_11 : decode cX3_swap 11 = .ok (.aload_n 0, 1) := by decide +kernel
theorem dX3_swap_12 : decode cX3_swap 12 = .ok (.getfield 37, 3) := by decide +kernel
theorem dX3_swap_15 : decode cX3_swap 15 = .ok (.iconst 2, 1) := by decide +kernel
theorem dX3_swap_16 : decode cX3_swap 16 = .ok (.isub, 1) := by decide +kernel
theorem dX3_swap_17 : decode cX3_swap 17 = .ok (.if_icmp .le 13, 3) := by decide +kernel
theorem dX3_swap_20 : decode cX3_swap 20 = .ok (.new 61, 3) := by decide +kernel
theorem dX3_swap_23 : decode cX3_swap 23 = .ok (.dup, 1) := by decide +kernel
theorem dX3_swap_24 : decode cX3_swap 24 = .ok (.ldc 78, 2) := by decide +kernel
theorem dX3_swap_26 : decode cX3_swap 26 = .ok (.invokespecial 65, 3) := by decide +kernel
theorem dX3_swap_29 : decode cX3_swap 29 = .ok (.athrow, 1) := by decide +kernel
theorem dX3_swap_30 : decode cX3_swap 30 = .ok (.aload_n 3, 1) := by decide +kernel
theorem dX3_swap_31 : decode cX3_swap 31 = .ok (.iload_n 2, 1) := by decide +kernel
theorem dX3_swap_32 : decode cX3_swap 32 = .ok (.invokevirtual 80, 3) := by decide +kernel
theorem dX3_swap_35 : decode cX3_swap 35 = .ok (.aload_n 3, 1) := by decide +kernel
theorem dX3_swap_36 : decode cX3_swap 36 = .ok (.invokevirtual 84, 3) := by decide +kernel
theorem dX3_swap_39 : decode cX3_swap 39 = .ok (.ireturn, 1) := by decide +kernel
theorem dX3_next_0 : decode cX3_next 0 = .ok (.aload_n 0, 1) := by decide +kernel
theorem dX3_next_1 : decode cX3_next 1 = .ok (.iload_n 1, 1) := by decide +kernel
theorem dX3_next_2 : decode cX3_next 2 = .ok (.invokevirtual 74, 3) := by decide +kernel
theorem dX3_next_5 : decode cX3_next 5 = .ok (.astore_n 2, 1) := by decide +kernel
theorem dX3_next_6 : decode cX3_next 6 = .ok (.aload_n 2, 1) := by decide +kernel
theorem dX3_next_7 : decode cX3_next 7 = .ok (.invokevirtual 84, 3) := by decide +kernel
theorem dX3_next_10 : decode cX3_next 10 = .ok (.iconst 1, 1) := by decide +kernel
theorem dX3_next_11 : decode cX3_next 11 = .ok (.iadd, 1) := by decide +kernel
theorem dX3_next_12 : decode cX3_next 12 = .ok (.istore_n 3, 1) := by decide +kernel
theorem dX3_next_13 : decode cX3_next 13 = .ok (.iload_n 3, 1) := by decide +kernel
theorem dX3_next_14 : decode cX3_next 14 = .ok (.aload_n 0, 1) := by decide +kernel
theorem dX3_next_15 : decode cX3_next 15 = .ok (.getfield 37, 3) := by decide +kernel
theorem dX3_next_18 : decode cX3_next 18 = .ok (.invokestatic 57, 3) := by decide +kernel
theorem dX3_next_21 : decode cX3_next 21 = .ok (.if_icmp .lt 5, 3) := by decide +kernel
theorem dX3_next_24 : decode cX3_next 24 = .ok (.iconst 0, 1) := by decide +kernel
theorem dX3_next_25 : decode cX3_next 25 = .ok (.istore_n 3, 1) := by decide +kernel
theorem dX3_next_26 : decode cX3_next 26 = .ok (.aload_n 2, 1) := by decide +kernel
theorem dX3_next_27 : decode cX3_next 27 = .ok (.aload_n 0, 1) := by decide +kernel
theorem dX3_next_28 : decode cX3_next 28 = .ok (.getfield 37, 3) := by decide +kernel
theorem dX3_next_31 : decode cX3_next 31 = .ok (.iload_n 3, 1) := by decide +kernel
theorem dX3_next_32 : decode cX3_next 32 = .ok (.invokevirtual 70, 3) := by decide +kernel
theorem dX3_next_35 : decode cX3_next 35 = .ok (.iload_n 3, 1) := by decide +kernel
theorem dX3_next_36 : decode cX3_next 36 = .ok (.ireturn, 1) := by decide +kernel
theorem dX3_behind_0 : decode cX3_behind 0 = .ok (.aload_n 0, 1) := by decide +kernel
theorem dX3_behind_1 : decode cX3_behind 1 = .ok (.iload_n 1, 1) := by decide +kernel
theorem dX3_behind_2 : decode cX3_behind 2 = .ok (.invokevirtual 74, 3) := by decide +kernel
theorem dX3_behind_5 : decode cX3_behind 5 = .ok (.astore_n 3, 1) := by decide +kernel
theorem dX3_behind_6 : decode cX3_behind 6 = .ok (.aload_n 0, 1) := by decide +kernel
theorem dX3_behind_7 : decode cX3_behind 7 = .ok (.iload_n 2, 1) := by decide +kernel
theorem dX3_behind_8 : decode cX3_behind 8 = .ok (.invokevirtual 74, 3) := by decide +kernel
theorem dX3_behind_11 : decode cX3_behind 11 = .ok (.astore 4, 2) := by decide +kernel
theorem dX3_behind_13 : decode cX3_behind 13 = .ok (.aload_n 0, 1) := by decide +kernel
theorem dX3_behind_14 : decode cX3_behind 14 = .ok (.invokevirtual 66, 3) := by decide +kernel
theorem dX3_behind_17 : decode cX3_behind 17 = .ok (.astore 5, 2) := by decide +kernel
theorem dX3_behind_19 : decode cX3_behind 19 = .ok (.aload 5, 2) := by decide +kernel
theorem dX3_behind_21 : decode cX3_behind 21 = .ok (.aload_n 3, 1) := by decide +kernel
theorem dX3_behind_22 : decode cX3_behind 22 = .ok (.aload 4, 2) := by decide +kernel
theorem dX3_behind_24 : decode cX3_behind 24 = .ok (.invokevirtual 88, 3) := by decide +kernel
theorem dX3_behind_27 : decode cX3_behind 27 = .ok (.aload_n 0, 1) := by decide +kernel
theorem dX3_behind_28 : decode cX3_behind 28 = .ok (.getfield 41, 3) := by decide +kernel
theorem dX3_behind_31 : decode cX3_behind 31 = .ok (.iconst 1, 1) := by decide +kernel
theorem dX3_behind_32 : decode cX3_behind 32 = .ok (.isub, 1) := by decide +kernel
theorem dX3_behind_33 : decode cX3_behind 33 = .ok (.ireturn, 1) := by decide +kernel
theorem dX3_back_0 : decode cX3_back 0 = .ok (.aload_n 0, 1) := by decide +kernel
theorem dX3_back_1 : decode cX3_back 1 = .ok (.iload_n 1, 1) := by decide +kernel
theorem dX3_back_2 : decode cX3_back 2 = .ok (.invokevirtual 74, 3) := by decide +kernel
theorem dX3_back_5 : decode cX3_back 5 = .ok (.astore_n 2, 1) := by decide +kernel
theorem dX3_back_6 : decode cX3_back 6 = .ok (.aload_n 0, 1) := by decide +kernel
theorem dX3_back_7 : decode cX3_back 7 = .ok (.getfield 27, 3) := by decide +kernel
theorem dX3_back_10 : decode cX3_back 10 = .ok (.aload_n 2, 1) := by decide +kernel
theorem dX3_back_11 : decode cX3_back 11 = .ok (.invokevirtual 92, 3) := by decide +kernel
theorem dX3_back_14 : decode cX3_back 14 = .ok (.aload_n 2, 1) := by decide +kernel
theorem dX3_back_15 : decode cX3_back 15 = .ok (.aload_n 0, 1) := by decide +kernel
theorem dX3_back_16 : decode cX3_back 16 = .ok (.getfield 27, 3) := by decide +kernel
theorem dX3_back_19 : decode cX3_back 19 = .ok (.invokevirtual 96, 3) := by decide +kernel
theorem dX3_back_22 : decode cX3_back 22 = .ok (.aload_n 2, 1) := by decide +kernel
theorem dX3_back_23 : decode cX3_back 23 = .ok (.invokevirtual 84, 3) := by decide +kernel
theorem dX3_back_26 : decode cX3_back 26 = .ok (.ireturn, 1) := by decide +kernel
theorem dX3_step_0 : decode cX3_step 0 = .ok (.iload_n 1, 1) := by decide +kernel
theorem dX3_step_1 : decode cX3_step 1 = .ok (.aload_n 0, 1) := by decide +kernel
theorem dX3_step_2 : decode cX3_step 2 = .ok (.getfield 37, 3) := by decide +kernel
theorem dX3_step_5 : decode cX3_step 5 = .ok (.invokestatic 105, 3) := by decide +kernel
theorem dX3_step_8 : decode cX3_step 8 = .ok (.ifCond .ne 13, 3) := by decide +kernel
theorem dX3_step_11 : decode cX3_step 11 = .ok (.new 47, 3) := by decide +kernel
theorem dX3_step_14 : decode cX3_step 14 = .ok (.dup, 1) := by decide +kernel
theorem dX3_step_15 : decode cX3_step 15 = .ok (.ldc 109, 2) := by decide +kernel
theorem dX3_step_17 : decode cX3_step 17 = .ok (.invokespecial 51, 3) := by decide +kernel
theorem dX3_step_20 : decode cX3_step 20 = .ok (.athrow, 1) := by decide +kernel
theorem dX3_step_21 : decode cX3_step 21 = .ok (.aload_n 0, 1) := by decide +kernel
theorem dX3_step_22 : decode cX3_step 22 = .ok (.getfield 19, 3) := by decide +kernel
theorem dX3_step_25 : decode cX3_step 25 = .ok (.invokevirtual 111, 3) := by decide +kernel
theorem dX3_step_28 : decode cX3_step 28 = .ok (.bipush 10, 2) := by decide +kernel
theorem dX3_step_30 : decode cX3_step 30 = .ok (.if_icmp .lt 13, 3) := by decide +kernel
theorem dX3_step_33 : decode cX3_step 33 = .ok (.new 114, 3) := by decide +kernel
theorem dX3_step_36 : decode cX3_step 36 = .ok (.dup, 1) := by decide +kernel
theorem dX3_step_37 : decode cX3_step 37 = .ok (.ldc 116, 2) := by decide +kernel
theorem dX3_step_39 : decode cX3_step 39 = .ok (.invokespecial 118, 3) := by decide +kernel
theorem dX3_step_42 : decode cX3_step 42 = .ok (.athrow, 1) := by decide +kernel
theorem dX3_step_43 : decode cX3_step 43 = .ok (.aload_n 0, 1) := by decide +kernel
theorem dX3_step_44 : decode cX3_step 44 = .ok (.getfield 19, 3) := by decide +kernel
theorem dX3_step_47 : decode cX3_step 47 = .ok (.iload_n 1, 1) := by decide +kernel
theorem dX3_step_48 : decode cX3_step 48 = .ok (.invokevirtual 119, 3) := by decide +kernel
theorem dX3_step_51 : decode cX3_step 51 = .ok (.aload_n 0, 1) := by decide +kernel
theorem dX3_step_52 : decode cX3_step 52 = .ok (.getfield 19, 3) := by decide +kernel
theorem dX3_step_55 : decode cX3_step 55 = .ok (.invokevirtual 111, 3) := by decide +kernel
theorem dX3_step_58 : decode cX3_step 58 = .ok (.ireturn, 1) := by decide +kernel
theorem dX3_ring_0 : decode cX3_ring 0 = .ok (.aload_n 0, 1) := by decide +kernel
theorem dX3_ring_1 : decode cX3_ring 1 = .ok (.iload_n 1, 1) := by decide +kernel
theorem dX3_ring_2 : decode cX3_ring 2 = .ok (.invokevirtual 74, 3) := by decide +kernel
theorem dX3_ring_5 : decode cX3_ring 5 = .ok (.astore_n 3, 1) := by decide +kernel
theorem dX3_ring_6 : decode cX3_ring 6 = .ok (.iload_n 2, 1) := by decide +kernel
theorem dX3_ring_7 : decode cX3_ring 7 = .ok (.invokestatic 122, 3) := by decide +kernel
theorem dX3_ring_10 : decode cX3_ring 10 = .ok (.aload_n 0, 1) := by decide +kernel
theorem dX3_ring_11 : decode cX3_ring 11 = .ok (.getfield 19, 3) := by decide +kernel
theorem dX3_ring_14 : decode cX3_ring 14 = .ok (.invokevirtual 111, 3) := by decide +kernel
theorem dX3_ring_17 : decode cX3_ring 17 = .ok (.ifCond .le 38, 3) := by decide +kernel
theorem dX3_ring_20 : decode cX3_ring 20 = .ok (.iconst 0, 1) := by decide +kernel
theorem dX3_ring_21 : decode cX3_ring 21 = .ok (.istore 4, 2) := by decide +kernel
theorem dX3_ring_23 : decode cX3_ring 23 = .ok (.iload 4, 2) := by decide +kernel
theorem dX3_ring_25 : decode cX3_ring 25 = .ok (.iload_n 2, 1) := by decide +kernel
theorem dX3_ring_26 : decode cX3_ring 26 = .ok (.if_icmp .ge 19, 3) := by decide +kernel
theorem dX3_ring_29 : decode cX3_ring 29 = .ok (.aload_n 0, 1) := by decide +kernel
theorem dX3_ring_30 : decode cX3_ring 30 = .ok (.getfield 19, 3) := by decide +kernel
theorem dX3_ring_33 : decode cX3_ring 33 = .ok (.aload_n 3, 1) := by decide +kernel
theorem dX3_ring_34 : decode cX3_ring 34 = .ok (.iload 4, 2) := by decide +kernel
theorem dX3_ring_36 : decode cX3_ring 36 = .ok (.invokevirtual 125, 3) := by decide +kernel
theorem dX3_ring_39 : decode cX3_ring 39 = .ok (.iinc 4 1, 3) := by decide +kernel
theorem dX3_ring_42 : decode cX3_ring 42 = .ok (.goto (-19), 3) := by decide +kernel
theorem dX3_ring_45 : decode cX3_ring 45 = .ok (.aload_n 0, 1) := by decide +kernel
theorem dX3_ring_46 : decode cX3_ring 46 = .ok (.dup, 1) := by decide +kernel
theorem dX3_ring_47 : decode cX3_ring 47 = .ok (.getfield 44, 3) := by decide +kernel
theorem dX3_ring_50 : decode cX3_ring 50 = .ok (.iload_n 2, 1) := by decide +kernel
theorem dX3_ring_51 : decode cX3_ring 51 = .ok (.iadd, 1) := by decide +kernel
theorem dX3_ring_52 : decode cX3_ring 52 = .ok (.putfield 44, 3) := by decide +kernel
theorem dX3_ring_55 : decode cX3_ring 55 = .ok (.aload_n 3, 1) := by decide +kernel
theorem dX3_ring_56 : decode cX3_ring 56 = .ok (.invokevirtual 84, 3) := by decide +kernel
theorem dX3_ring_59 : decode cX3_ring 59 = .ok (.ireturn, 1) := by decide +kernel
theorem dX3_bell_0 : decode cX3_bell 0 = .ok (.aload_n 0, 1) := by decide +kernel
theorem dX3_bell_1 : decode cX3_bell 1 = .ok (.iload_n 1, 1) := by decide +kernel
theorem dX3_bell_2 : decode cX3_bell 2 = .ok (.invokevirtual 74, 3) := by decide +kernel
theorem dX3_bell_5 : decode cX3_bell 5 = .ok (.astore_n 3, 1) := by decide +kernel
theorem dX3_bell_6 : decode cX3_bell 6 = .ok (.aload_n 0, 1) := by decide +kernel
theorem dX3_bell_7 : decode cX3_bell 7 = .ok (.iload_n 2, 1) := by decide +kernel
theorem dX3_bell_8 : decode cX3_bell 8 = .ok (.invokevirtual 128, 3) := by decide +kernel
theorem dX3_bell_11 : decode cX3_bell 11 = .ok (.aload_n 3, 1) := by decide +kernel
theorem dX3_bell_12 : decode cX3_bell 12 = .ok (.iload_n 2, 1) := by decide +kernel
theorem dX3_bell_13 : decode cX3_bell 13 = .ok (.invokevirtual 131, 3) := by decide +kernel
theorem dX3_bell_16 : decode cX3_bell 16 = .ok (.ireturn, 1) := by decide +kernel
theorem dX3_told_0 : decode cX3_told 0 = .ok (.aload_n 0, 1) := by decide +kernel
theorem dX3_told_1 : decode cX3_told 1 = .ok (.iload_n 1, 1) := by decide +kernel
theorem dX3_told_2 : decode cX3_told 2 = .ok (.invokevirtual 74, 3) := by decide +kernel
theorem dX3_told_5 : decode cX3_told 5 = .ok (.astore_n 3, 1) := by decide +kernel
theorem dX3_told_6 : decode cX3_told 6 = .ok (.iload_n 2, 1) := by decide +kernel
theorem dX3_told_7 : decode cX3_told 7 = .ok (.tableswitch 88 0 7 #[45, 50, 55, 62, 67, 72, 77, 82], 45) := by decide +kernel
theorem dX3_told_52 : decode cX3_told 52 = .ok (.aload_n 3, 1) := by decide +kernel
theorem dX3_told_53 : decode cX3_told 53 = .ok (.invokevirtual 84, 3) := by decide +kernel
theorem dX3_told_56 : decode cX3_told 56 = .ok (.ireturn, 1) := by decide +kernel
theorem dX3_told_57 : decode cX3_told 57 = .ok (.aload_n 3, 1) := by decide +kernel
theorem dX3_told_58 : decode cX3_told 58 = .ok (.invokevirtual 134, 3) := by decide +kernel
theorem dX3_told_61 : decode cX3_told 61 = .ok (.ireturn, 1) := by decide +kernel
theorem dX3_told_62 : decode cX3_told 62 = .ok (.aload_n 3, 1) := by decide +kernel
theorem dX3_told_63 : decode cX3_told 63 = .ok (.invokevirtual 134, 3) := by decide +kernel
theorem dX3_told_66 : decode cX3_told 66 = .ok (.iconst 1, 1) := by decide +kernel
theorem dX3_told_67 : decode cX3_told 67 = .ok (.iand, 1) := by decide +kernel
theorem dX3_told_68 : decode cX3_told 68 = .ok (.ireturn, 1) := by decide +kernel
theorem dX3_told_69 : decode cX3_told 69 = .ok (.aload_n 3, 1) := by decide +kernel
theorem dX3_told_70 : decode cX3_told 70 = .ok (.invokevirtual 137, 3) := by decide +kernel
theorem dX3_told_73 : decode cX3_told 73 = .ok (.ireturn, 1) := by decide +kernel
theorem dX3_told_74 : decode cX3_told 74 = .ok (.aload_n 3, 1) := by decide +kernel
theorem dX3_told_75 : decode cX3_told 75 = .ok (.invokevirtual 140, 3) := by decide +kernel
theorem dX3_told_78 : decode cX3_told 78 = .ok (.ireturn, 1) := by decide +kernel
theorem dX3_told_79 : decode cX3_told 79 = .ok (.aload_n 3, 1) := by decide +kernel
theorem dX3_told_80 : decode cX3_told 80 = .ok (.invokevirtual 143, 3) := by decide +kernel
theorem dX3_told_83 : decode cX3_told 83 = .ok (.ireturn, 1) := by decide +kernel
theorem dX3_told_84 : decode cX3_told 84 = .ok (.aload_n 3, 1) := by decide +kernel
theorem dX3_told_85 : decode cX3_told 85 = .ok (.invokevirtual 146, 3) := by decide +kernel
theorem dX3_told_88 : decode cX3_told 88 = .ok (.ireturn, 1) := by decide +kernel
theorem dX3_told_89 : decode cX3_told 89 = .ok (.aload_n 3, 1) := by decide +kernel
theorem dX3_told_90 : decode cX3_told 90 = .ok (.iconst 0, 1) := by decide +kernel
theorem dX3_told_91 : decode cX3_told 91 = .ok (.invokevirtual 149, 3) := by decide +kernel
theorem dX3_told_94 : decode cX3_told 94 = .ok (.ireturn, 1) := by decide +kernel
theorem dX3_told_95 : decode cX3_told 95 = .ok (.new 61, 3) := by decide +kernel
theorem dX3_told_98 : decode cX3_told 98 = .ok (.dup, 1) := by decide +kernel
theorem dX3_told_99 : decode cX3_told 99 = .ok (.ldc 152, 2) := by decide +kernel
theorem dX3_told_101 : decode cX3_told 101 = .ok (.invokespecial 65, 3) := by decide +kernel
theorem dX3_told_104 : decode cX3_told 104 = .ok (.athrow, 1) := by decide +kernel
theorem dX3_round_0 : decode cX3_round 0 = .ok (.aload_n 0, 1) := by decide +kernel
theorem dX3_round_1 : decode cX3_round 1 = .ok (.iload_n 1, 1) := by decide +kernel
theorem dX3_round_2 : decode cX3_round 2 = .ok (.invokevirtual 74, 3) := by decide +kernel
theorem dX3_round_5 : decode cX3_round 5 = .ok (.astore_n 3, 1) := by decide +kernel
theorem dX3_round_6 : decode cX3_round 6 = .ok (.aload_n 0, 1) := by decide +kernel
theorem dX3_round_7 : decode cX3_round 7 = .ok (.iload_n 2, 1) := by decide +kernel
theorem dX3_round_8 : decode cX3_round 8 = .ok (.invokevirtual 128, 3) := by decide +kernel
theorem dX3_round_11 : decode cX3_round 11 = .ok (.aload_n 3, 1) := by decide +kernel
theorem dX3_round_12 : decode cX3_round 12 = .ok (.iload_n 2, 1) := by decide +kernel
theorem dX3_round_13 : decode cX3_round 13 = .ok (.invokevirtual 154, 3) := by decide +kernel
theorem dX3_round_16 : decode cX3_round 16 = .ok (.ireturn, 1) := by decide +kernel
theorem dX3_apart_0 : decode cX3_apart 0 = .ok (.aload_n 0, 1) := by decide +kernel
theorem dX3_apart_1 : decode cX3_apart 1 = .ok (.iload_n 1, 1) := by decide +kernel
theorem dX3_apart_2 : decode cX3_apart 2 = .ok (.invokevirtual 74, 3) := by decide +kernel
theorem dX3_apart_5 : decode cX3_apart 5 = .ok (.astore_n 3, 1) := by decide +kernel
theorem dX3_apart_6 : decode cX3_apart 6 = .ok (.aload_n 0, 1) := by decide +kernel
theorem dX3_apart_7 : decode cX3_apart 7 = .ok (.iload_n 2, 1) := by decide +kernel
theorem dX3_apart_8 : decode cX3_apart 8 = .ok (.invokevirtual 74, 3) := by decide +kernel
theorem dX3_apart_11 : decode cX3_apart 11 = .ok (.astore 4, 2) := by decide +kernel
theorem dX3_apart_13 : decode cX3_apart 13 = .ok (.iconst 0, 1) := by decide +kernel
theorem dX3_apart_14 : decode cX3_apart 14 = .ok (.istore 5, 2) := by decide +kernel
theorem dX3_apart_16 : decode cX3_apart 16 = .ok (.iconst 0, 1) := by decide +kernel
theorem dX3_apart_17 : decode cX3_apart 17 = .ok (.istore 6, 2) := by decide +kernel
theorem dX3_apart_19 : decode cX3_apart 19 = .ok (.iload 6, 2) := by decide +kernel
theorem dX3_apart_21 : decode cX3_apart 21 = .ok (.aload_n 0, 1) := by decide +kernel
theorem dX3_apart_22 : decode cX3_apart 22 = .ok (.getfield 37, 3) := by decide +kernel
theorem dX3_apart_25 : decode cX3_apart 25 = .ok (.if_icmp .ge 58, 3) := by decide +kernel
theorem dX3_apart_28 : decode cX3_apart 28 = .ok (.iload 6, 2) := by decide +kernel
theorem dX3_apart_30 : decode cX3_apart 30 = .ok (.iconst 1, 1) := by decide +kernel
theorem dX3_apart_31 : decode cX3_apart 31 = .ok (.iadd, 1) := by decide +kernel
theorem dX3_apart_32 : decode cX3_apart 32 = .ok (.istore 7, 2) := by decide +kernel
theorem dX3_apart_34 : decode cX3_apart 34 = .ok (.iload 7, 2) := by decide +kernel
theorem dX3_apart_36 : decode cX3_apart 36 = .ok (.aload_n 0, 1) := by decide +kernel
theorem dX3_apart_37 : decode cX3_apart 37 = .ok (.getfield 37, 3) := by decide +kernel
theorem dX3_apart_40 : decode cX3_apart 40 = .ok (.if_icmp .ge 37, 3) := by decide +kernel
theorem dX3_apart_43 : decode cX3_apart 43 = .ok (.aload 4, 2) := by decide +kernel
theorem dX3_apart_45 : decode cX3_apart 45 = .ok (.aload_n 3, 1) := by decide +kernel
theorem dX3_apart_46 : decode cX3_apart 46 = .ok (.iload 6, 2) := by decide +kernel
theorem dX3_apart_48 : decode cX3_apart 48 = .ok (.invokevirtual 131, 3) := by decide +kernel
theorem dX3_apart_51 : decode cX3_apart 51 = .ok (.invokevirtual 149, 3) := by decide +kernel
theorem dX3_apart_54 : decode cX3_apart 54 = .ok (.aload 4, 2) := by decide +kernel
theorem dX3_apart_56 : decode cX3_apart 56 = .ok (.aload_n 3, 1) := by decide +kernel
theorem dX3_apart_57 : decode cX3_apart 57 = .ok (.iload 7, 2) := by decide +kernel
theorem dX3_apart_59 : decode cX3_apart 59 = .ok (.invokevirtual 131, 3) := by decide +kernel
theorem dX3_apart_62 : decode cX3_apart 62 = .ok (.invokevirtual 149, 3) := by decide +kernel
theorem dX3_apart_65 : decode cX3_apart 65 = .ok (.if_icmp .le 6, 3) := by decide +kernel
theorem dX3_apart_68 : decode cX3_apart 68 = .ok (.iinc 5 1, 3) := by decide +kernel
theorem dX3_apart_71 : decode cX3_apart 71 = .ok (.iinc 7 1, 3) := by decide +kernel
theorem dX3_apart_74 : decode cX3_apart 74 = .ok (.goto (-40), 3) := by decide +kernel
theorem dX3_apart_77 : decode cX3_apart 77 = .ok (.iinc 6 1, 3) := by decide +kernel
theorem dX3_apart_80 : decode cX3_apart 80 = .ok (.goto (-61), 3) := by decide +kernel
theorem dX3_apart_83 : decode cX3_apart 83 = .ok (.iload 5, 2) := by decide +kernel
theorem dX3_apart_85 : decode cX3_apart 85 = .ok (.ireturn, 1) := by decide +kernel
theorem dX3_count_0 : decode cX3_count 0 = .ok (.iload_n 1, 1) := by decide +kernel
theorem dX3_count_1 : decode cX3_count 1 = .ok (.tableswitch 75 0 5 #[39, 44, 52, 57, 62, 70], 39) := by decide +kernel
theorem dX3_count_40 : decode cX3_count 40 = .ok (.aload_n 0, 1) := by decide +kernel
theorem dX3_count_41 : decode cX3_count 41 = .ok (.getfield 37, 3) := by decide +kernel
theorem dX3_count_44 : decode cX3_count 44 = .ok (.ireturn, 1) := by decide +kernel
theorem dX3_count_45 : decode cX3_count 45 = .ok (.aload_n 0, 1) := by decide +kernel
theorem dX3_count_46 : decode cX3_count 46 = .ok (.getfield 37, 3) := by decide +kernel
theorem dX3_count_49 : decode cX3_count 49 = .ok (.invokestatic 57, 3) := by decide +kernel
theorem dX3_count_52 : decode cX3_count 52 = .ok (.ireturn, 1) := by decide +kernel
theorem dX3_count_53 : decode cX3_count 53 = .ok (.aload_n 0, 1) := by decide +kernel
theorem dX3_count_54 : decode cX3_count 54 = .ok (.getfield 41, 3) := by decide +kernel
theorem dX3_count_57 : decode cX3_count 57 = .ok (.ireturn, 1) := by decide +kernel
theorem dX3_count_58 : decode cX3_count 58 = .ok (.aload_n 0, 1) := by decide +kernel
theorem dX3_count_59 : decode cX3_count 59 = .ok (.invokevirtual 157, 3) := by decide +kernel
theorem dX3_count_62 : decode cX3_count 62 = .ok (.ireturn, 1) := by decide +kernel
theorem dX3_count_63 : decode cX3_count 63 = .ok (.aload_n 0, 1) := by decide +kernel
theorem dX3_count_64 : decode cX3_count 64 = .ok (.getfield 19, 3) := by decide +kernel
theorem dX3_count_67 : decode cX3_count 67 = .ok (.invokevirtual 111, 3) := by decide +kernel
theorem dX3_count_70 : decode cX3_count 70 = .ok (.ireturn, 1) := by decide +kernel
theorem dX3_count_71 : decode cX3_count 71 = .ok (.aload_n 0, 1) := by decide +kernel
theorem dX3_count_72 : decode cX3_count 72 = .ok (.getfield 44, 3) := by decide +kernel
theorem dX3_count_75 : decode cX3_count 75 = .ok (.ireturn, 1) := by decide +kernel
theorem dX3_count_76 : decode cX3_count 76 = .ok (.new 61, 3) := by decide +kernel
theorem dX3_count_79 : decode cX3_count 79 = .ok (.dup, 1) := by decide +kernel
theorem dX3_count_80 : decode cX3_count 80 = .ok (.ldc 160, 2) := by decide +kernel
theorem dX3_count_82 : decode cX3_count 82 = .ok (.invokespecial 65, 3) := by decide +kernel
theorem dX3_count_85 : decode cX3_count 85 = .ok (.athrow, 1) := by decide +kernel
theorem dX3_kept_0 : decode cX3_kept 0 = .ok (.iload_n 1, 1) := by decide +kernel
theorem dX3_kept_1 : decode cX3_kept 1 = .ok (.ifCond .lt 14, 3) := by decide +kernel
theorem dX3_kept_4 : decode cX3_kept 4 = .ok (.iload_n 1, 1) := by decide +kernel
theorem dX3_kept_5 : decode cX3_kept 5 = .ok (.aload_n 0, 1) := by decide +kernel
theorem dX3_kept_6 : decode cX3_kept 6 = .ok (.getfield 19, 3) := by decide +kernel
theorem dX3_kept_9 : decode cX3_kept 9 = .ok (.invokevirtual 111, 3) := by decide +kernel
theorem dX3_kept_12 : decode cX3_kept 12 = .ok (.if_icmp .lt 13, 3) := by decide +kernel
theorem dX3_kept_15 : decode cX3_kept 15 = .ok (.new 61, 3) := by decide +kernel
theorem dX3_kept_18 : decode cX3_kept 18 = .ok (.dup, 1) := by decide +kernel
theorem dX3_kept_19 : decode cX3_kept 19 = .ok (.ldc 162, 2) := by decide +kernel
theorem dX3_kept_21 : decode cX3_kept 21 = .ok (.invokespecial 65, 3) := by decide +kernel
theorem dX3_kept_24 : decode cX3_kept 24 = .ok (.athrow, 1) := by decide +kernel
theorem dX3_kept_25 : decode cX3_kept 25 = .ok (.aload_n 0, 1) := by decide +kernel
theorem dX3_kept_26 : decode cX3_kept 26 = .ok (.getfield 19, 3) := by decide +kernel
theorem dX3_kept_29 : decode cX3_kept 29 = .ok (.iload_n 1, 1) := by decide +kernel
theorem dX3_kept_30 : decode cX3_kept 30 = .ok (.invokevirtual 164, 3) := by decide +kernel
theorem dX3_kept_33 : decode cX3_kept 33 = .ok (.ireturn, 1) := by decide +kernel
theorem dX3_comes_0 : decode cX3_comes 0 = .ok (.aload_n 0, 1) := by decide +kernel
theorem dX3_comes_1 : decode cX3_comes 1 = .ok (.iload_n 1, 1) := by decide +kernel
theorem dX3_comes_2 : decode cX3_comes 2 = .ok (.invokevirtual 74, 3) := by decide +kernel
theorem dX3_comes_5 : decode cX3_comes 5 = .ok (.astore_n 2, 1) := by decide +kernel
theorem dX3_comes_6 : decode cX3_comes 6 = .ok (.aload_n 0, 1) := by decide +kernel
theorem dX3_comes_7 : decode cX3_comes 7 = .ok (.getfield 19, 3) := by decide +kernel
theorem dX3_comes_10 : decode cX3_comes 10 = .ok (.invokevirtual 111, 3) := by decide +kernel
theorem dX3_comes_13 : decode cX3_comes 13 = .ok (.ifCond .ne 5, 3) := by decide +kernel
theorem dX3_comes_16 : decode cX3_comes 16 = .ok (.iconst (-1), 1) := by decide +kernel
theorem dX3_comes_17 : decode cX3_comes 17 = .ok (.ireturn, 1) := by decide +kernel
theorem dX3_comes_18 : decode cX3_comes 18 = .ok (.aload_n 0, 1) := by decide +kernel
theorem dX3_comes_19 : decode cX3_comes 19 = .ok (.getfield 23, 3) := by decide +kernel
theorem dX3_comes_22 : decode cX3_comes 22 = .ok (.aload_n 2, 1) := by decide +kernel
theorem dX3_comes_23 : decode cX3_comes 23 = .ok (.invokevirtual 96, 3) := by decide +kernel
theorem dX3_comes_26 : decode cX3_comes 26 = .ok (.iconst 1, 1) := by decide +kernel
theorem dX3_comes_27 : decode cX3_comes 27 = .ok (.istore_n 3, 1) := by decide +kernel
theorem dX3_comes_28 : decode cX3_comes 28 = .ok (.iload_n 3, 1) := by decide +kernel
theorem dX3_comes_29 : decode cX3_comes 29 = .ok (.sipush 400, 3) := by decide +kernel
theorem dX3_comes_32 : decode cX3_comes 32 = .ok (.if_icmp .gt 36, 3) := by decide +kernel
theorem dX3_comes_35 : decode cX3_comes 35 = .ok (.aload_n 0, 1) := by decide +kernel
theorem dX3_comes_36 : decode cX3_comes 36 = .ok (.getfield 19, 3) := by decide +kernel
theorem dX3_comes_39 : decode cX3_comes 39 = .ok (.aload_n 0, 1) := by decide +kernel
theorem dX3_comes_40 : decode cX3_comes 40 = .ok (.getfield 23, 3) := by decide +kernel
theorem dX3_comes_43 : decode cX3_comes 43 = .ok (.iload_n 3, 1) := by decide +kernel
theorem dX3_comes_44 : decode cX3_comes 44 = .ok (.iconst 1, 1) := by decide +kernel
theorem dX3_comes_45 : decode cX3_comes 45 = .ok (.isub, 1) := by decide +kernel
theorem dX3_comes_46 : decode cX3_comes 46 = .ok (.invokevirtual 125, 3) := by decide +kernel
theorem dX3_comes_49 : decode cX3_comes 49 = .ok (.aload_n 0, 1) := by decide +kernel
theorem dX3_comes_50 : decode cX3_comes 50 = .ok (.getfield 23, 3) := by decide +kernel
theorem dX3_comes_53 : decode cX3_comes 53 = .ok (.aload_n 2, 1) := by decide +kernel
theorem dX3_comes_54 : decode cX3_comes 54 = .ok (.invokevirtual 167, 3) := by decide +kernel
theorem dX3_comes_57 : decode cX3_comes 57 = .ok (.ifCond .eq 5, 3) := by decide +kernel
theorem dX3_comes_60 : decode cX3_comes 60 = .ok (.iload_n 3, 1) := by decide +kernel
theorem dX3_comes_61 : decode cX3_comes 61 = .ok (.ireturn, 1) := by decide +kernel
theorem dX3_comes_62 : decode cX3_comes 62 = .ok (.iinc 3 1, 3) := by decide +kernel
theorem dX3_comes_65 : decode cX3_comes 65 = .ok (.goto (-37), 3) := by decide +kernel
theorem dX3_comes_68 : decode cX3_comes 68 = .ok (.iconst (-1), 1) := by decide +kernel
theorem dX3_comes_69 : decode cX3_comes 69 = .ok (.ireturn, 1) := by decide +kernel
theorem dX3_differ_0 : decode cX3_differ 0 = .ok (.iload_n 1, 1) := by decide +kernel
theorem dX3_differ_1 : decode cX3_differ 1 = .ok (.invokestatic 122, 3) := by decide +kernel
theorem dX3_differ_4 : decode cX3_differ 4 = .ok (.aload_n 0, 1) := by decide +kernel
theorem dX3_differ_5 : decode cX3_differ 5 = .ok (.getfield 23, 3) := by decide +kernel
theorem dX3_differ_8 : decode cX3_differ 8 = .ok (.aload_n 0, 1) := by decide +kernel
theorem dX3_differ_9 : decode cX3_differ 9 = .ok (.getfield 37, 3) := by decide +kernel
theorem dX3_differ_12 : decode cX3_differ 12 = .ok (.iconst 0, 1) := by decide +kernel
theorem dX3_differ_13 : decode cX3_differ 13 = .ok (.invokevirtual 70, 3) := by decide +kernel
theorem dX3_differ_16 : decode cX3_differ 16 = .ok (.aload_n 0, 1) := by decide +kernel
theorem dX3_differ_17 : decode cX3_differ 17 = .ok (.getfield 33, 3) := by decide +kernel
theorem dX3_differ_20 : decode cX3_differ 20 = .ok (.invokevirtual 171, 3) := by decide +kernel
theorem dX3_differ_23 : decode cX3_differ 23 = .ok (.aload_n 0, 1) := by decide +kernel
theorem dX3_differ_24 : decode cX3_differ 24 = .ok (.getfield 33, 3) := by decide +kernel
theorem dX3_differ_27 : decode cX3_differ 27 = .ok (.aload_n 0, 1) := by decide +kernel
theorem dX3_differ_28 : decode cX3_differ 28 = .ok (.getfield 23, 3) := by decide +kernel
theorem dX3_differ_31 : decode cX3_differ 31 = .ok (.invokevirtual 84, 3) := by decide +kernel
theorem dX3_differ_34 : decode cX3_differ 34 = .ok (.invokevirtual 172, 3) := by decide +kernel
theorem dX3_differ_37 : decode cX3_differ 37 = .ok (.aload_n 0, 1) := by decide +kernel
theorem dX3_differ_38 : decode cX3_differ 38 = .ok (.getfield 19, 3) := by decide +kernel
theorem dX3_differ_41 : decode cX3_differ 41 = .ok (.invokevirtual 111, 3) := by decide +kernel
theorem dX3_differ_44 : decode cX3_differ 44 = .ok (.ifCond .le 42, 3) := by decide +kernel
theorem dX3_differ_47 : decode cX3_differ 47 = .ok (.iconst 0, 1) := by decide +kernel
theorem dX3_differ_48 : decode cX3_differ 48 = .ok (.istore_n 2, 1) := by decide +kernel
theorem dX3_differ_49 : decode cX3_differ 49 = .ok (.iload_n 2, 1) := by decide +kernel
theorem dX3_differ_50 : decode cX3_differ 50 = .ok (.iload_n 1, 1) := by decide +kernel
theorem dX3_differ_51 : decode cX3_differ 51 = .ok (.if_icmp .ge 35, 3) := by decide +kernel
theorem dX3_differ_54 : decode cX3_differ 54 = .ok (.aload_n 0, 1) := by decide +kernel
theorem dX3_differ_55 : decode cX3_differ 55 = .ok (.getfield 19, 3) := by decide +kernel
theorem dX3_differ_58 : decode cX3_differ 58 = .ok (.aload_n 0, 1) := by decide +kernel
theorem dX3_differ_59 : decode cX3_differ 59 = .ok (.getfield 23, 3) := by decide +kernel
theorem dX3_differ_62 : decode cX3_differ 62 = .ok (.iload_n 2, 1) := by decide +kernel
theorem dX3_differ_63 : decode cX3_differ 63 = .ok (.invokevirtual 125, 3) := by decide +kernel
theorem dX3_differ_66 : decode cX3_differ 66 = .ok (.aload_n 0, 1) := by decide +kernel
theorem dX3_differ_67 : decode cX3_differ 67 = .ok (.getfield 33, 3) := by decide +kernel
theorem dX3_differ_70 : decode cX3_differ 70 = .ok (.aload_n 0, 1) := by decide +kernel
theorem dX3_differ_71 : decode cX3_differ 71 = .ok (.getfield 23, 3) := by decide +kernel
theorem dX3_differ_74 : decode cX3_differ 74 = .ok (.invokevirtual 84, 3) := by decide +kernel
theorem dX3_differ_77 : decode cX3_differ 77 = .ok (.invokevirtual 172, 3) := by decide +kernel
theorem dX3_differ_80 : decode cX3_differ 80 = .ok (.iinc 2 1, 3) := by decide +kernel
theorem dX3_differ_83 : decode cX3_differ 83 = .ok (.goto (-34), 3) := by decide +kernel
theorem dX3_differ_86 : decode cX3_differ 86 = .ok (.aload_n 0, 1) := by decide +kernel
theorem dX3_differ_87 : decode cX3_differ 87 = .ok (.getfield 33, 3) := by decide +kernel
theorem dX3_differ_90 : decode cX3_differ 90 = .ok (.invokevirtual 173, 3) := by decide +kernel
theorem dX3_differ_93 : decode cX3_differ 93 = .ok (.ireturn, 1) := by decide +kernel
theorem dX3_advise_0 : decode cX3_advise 0 = .ok (.aload_n 0, 1) := by decide +kernel
theorem dX3_advise_1 : decode cX3_advise 1 = .ok (.iload_n 1, 1) := by decide +kernel
theorem dX3_advise_2 : decode cX3_advise 2 = .ok (.invokevirtual 74, 3) := by decide +kernel
theorem dX3_advise_5 : decode cX3_advise 5 = .ok (.astore_n 2, 1) := by decide +kernel
theorem dX3_advise_6 : decode cX3_advise 6 = .ok (.iconst 0, 1) := by decide +kernel
theorem dX3_advise_7 : decode cX3_advise 7 = .ok (.istore_n 3, 1) := by decide +kernel
theorem dX3_advise_8 : decode cX3_advise 8 = .ok (.iconst 0, 1) := by decide +kernel
theorem dX3_advise_9 : decode cX3_advise 9 = .ok (.istore 4, 2) := by decide +kernel
theorem dX3_advise_11 : decode cX3_advise 11 = .ok (.iconst 0, 1) := by decide +kernel
theorem dX3_advise_12 : decode cX3_advise 12 = .ok (.istore 5, 2) := by decide +kernel
theorem dX3_advise_14 : decode cX3_advise 14 = .ok (.iload 5, 2) := by decide +kernel
theorem dX3_advise_16 : decode cX3_advise 16 = .ok (.aload_n 0, 1) := by decide +kernel
theorem dX3_advise_17 : decode cX3_advise 17 = .ok (.getfield 41, 3) := by decide +kernel
theorem dX3_advise_20 : decode cX3_advise 20 = .ok (.if_icmp .ge 52, 3) := by decide +kernel
theorem dX3_advise_23 : decode cX3_advise 23 = .ok (.aload_n 0, 1) := by decide +kernel
theorem dX3_advise_24 : decode cX3_advise 24 = .ok (.getfield 27, 3) := by decide +kernel
theorem dX3_advise_27 : decode cX3_advise 27 = .ok (.aload_n 2, 1) := by decide +kernel
theorem dX3_advise_28 : decode cX3_advise 28 = .ok (.aload_n 0, 1) := by decide +kernel
theorem dX3_advise_29 : decode cX3_advise 29 = .ok (.getfield 11, 3) := by decide +kernel
theorem dX3_advise_32 : decode cX3_advise 32 = .ok (.iload 5, 2) := by decide +kernel
theorem dX3_advise_34 : decode cX3_advise 34 = .ok (.aaload, 1) := by decide +kernel
theorem dX3_advise_35 : decode cX3_advise 35 = .ok (.invokevirtual 88, 3) := by decide +kernel
theorem dX3_advise_38 : decode cX3_advise 38 = .ok (.aload_n 0, 1) := by decide +kernel
theorem dX3_advise_39 : decode cX3_advise 39 = .ok (.getfield 27, 3) := by decide +kernel
theorem dX3_advise_42 : decode cX3_advise 42 = .ok (.invokevirtual 134, 3) := by decide +kernel
theorem dX3_advise_45 : decode cX3_advise 45 = .ok (.istore 6, 2) := by decide +kernel
theorem dX3_advise_47 : decode cX3_advise 47 = .ok (.iload 5, 2) := by decide +kernel
theorem dX3_advise_49 : decode cX3_advise 49 = .ok (.ifCond .eq 10, 3) := by decide +kernel
theorem dX3_advise_52 : decode cX3_advise 52 = .ok (.iload 6, 2) := by decide +kernel
theorem dX3_advise_54 : decode cX3_advise 54 = .ok (.iload 4, 2) := by decide +kernel
theorem dX3_advise_56 : decode cX3_advise 56 = .ok (.if_icmp .ge 10, 3) := by decide +kernel
theorem dX3_advise_59 : decode cX3_advise 59 = .ok (.iload 6, 2) := by decide +kernel
theorem dX3_advise_61 : decode cX3_advise 61 = .ok (.istore 4, 2) := by decide +kernel
theorem dX3_advise_63 : decode cX3_advise 63 = .ok (.iload 5, 2) := by decide +kernel
theorem dX3_advise_65 : decode cX3_advise 65 = .ok (.istore_n 3, 1) := by decide +kernel
theorem dX3_advise_66 : decode cX3_advise 66 = .ok (.iinc 5 1, 3) := by decide +kernel
theorem dX3_advise_69 : decode cX3_advise 69 = .ok (.goto (-55), 3) := by decide +kernel
theorem dX3_advise_72 : decode cX3_advise 72 = .ok (.iload_n 3, 1) := by decide +kernel
theorem dX3_advise_73 : decode cX3_advise 73 = .ok (.ireturn, 1) := by decide +kernel
theorem dX3_digest_0 : decode cX3_digest 0 = .ok (.ldc2_w 176, 3) := by decide +kernel
theorem dX3_digest_3 : decode cX3_digest 3 = .ok (.lstore_n 1, 1) := by decide +kernel
theorem dX3_digest_4 : decode cX3_digest 4 = .ok (.iconst 0, 1) := by decide +kernel
theorem dX3_digest_5 : decode cX3_digest 5 = .ok (.istore_n 3, 1) := by decide +kernel
theorem dX3_digest_6 : decode cX3_digest 6 = .ok (.iload_n 3, 1) := by decide +kernel
theorem dX3_digest_7 : decode cX3_digest 7 = .ok (.bipush 6, 2) := by decide +kernel
theorem dX3_digest_9 : decode cX3_digest 9 = .ok (.if_icmp .ge 22, 3) := by decide +kernel
theorem dX3_digest_12 : decode cX3_digest 12 = .ok (.lload_n 1, 1) := by decide +kernel
theorem dX3_digest_13 : decode cX3_digest 13 = .ok (.ldc2_w 178, 3) := by decide +kernel
theorem dX3_digest_16 : decode cX3_digest 16 = .ok (.lmul, 1) := by decide +kernel
theorem dX3_digest_17 : decode cX3_digest 17 = .ok (.aload_n 0, 1) := by decide +kernel
theorem dX3_digest_18 : decode cX3_digest 18 = .ok (.iload_n 3, 1) := by decide +kernel
theorem dX3_digest_19 : decode cX3_digest 19 = .ok (.invokevirtual 180, 3) := by decide +kernel
theorem dX3_digest_22 : decode cX3_digest 22 = .ok (.i2l, 1) := by decide +kernel
theorem dX3_digest_23 : decode cX3_digest 23 = .ok (.ladd, 1) := by decide +kernel
theorem dX3_digest_24 : decode cX3_digest 24 = .ok (.lstore_n 1, 1) := by decide +kernel
theorem dX3_digest_25 : decode cX3_digest 25 = .ok (.iinc 3 1, 3) := by decide +kernel
theorem dX3_digest_28 : decode cX3_digest 28 = .ok (.goto (-22), 3) := by decide +kernel
theorem dX3_digest_31 : decode cX3_digest 31 = .ok (.iconst 0, 1) := by decide +kernel
theorem dX3_digest_32 : decode cX3_digest 32 = .ok (.istore_n 3, 1) := by decide +kernel
theorem dX3_digest_33 : decode cX3_digest 33 = .ok (.iload_n 3, 1) := by decide +kernel
theorem dX3_digest_34 : decode cX3_digest 34 = .ok (.aload_n 0, 1) := by decide +kernel
theorem dX3_digest_35 : decode cX3_digest 35 = .ok (.getfield 41, 3) := by decide +kernel
theorem dX3_digest_38 : decode cX3_digest 38 = .ok (.if_icmp .ge 73, 3) := by decide +kernel
theorem dX3_digest_41 : decode cX3_digest 41 = .ok (.iconst 0, 1) := by decide +kernel
theorem dX3_digest_42 : decode cX3_digest 42 = .ok (.istore 4, 2) := by decide +kernel
theorem dX3_digest_44 : decode cX3_digest 44 = .ok (.iload 4, 2) := by decide +kernel
theorem dX3_digest_46 : decode cX3_digest 46 = .ok (.bipush 8, 2) := by decide +kernel
theorem dX3_digest_48 : decode cX3_digest 48 = .ok (.if_icmp .ge 24, 3) := by decide +kernel
theorem dX3_digest_51 : decode cX3_digest 51 = .ok (.lload_n 1, 1) := by decide +kernel
theorem dX3_digest_52 : decode cX3_digest 52 = .ok (.ldc2_w 178, 3) := by decide +kernel
theorem dX3_digest_55 : decode cX3_digest 55 = .ok (.lmul, 1) := by decide +kernel
theorem dX3_digest_56 : decode cX3_digest 56 = .ok (.aload_n 0, 1) := by decide +kernel
theorem dX3_digest_57 : decode cX3_digest 57 = .ok (.iload_n 3, 1) := by decide +kernel
theorem dX3_digest_58 : decode cX3_digest 58 = .ok (.iload 4, 2) := by decide +kernel
theorem dX3_digest_60 : decode cX3_digest 60 = .ok (.invokevirtual 183, 3) := by decide +kernel
theorem dX3_digest_63 : decode cX3_digest 63 = .ok (.i2l, 1) := by decide +kernel
theorem dX3_digest_64 : decode cX3_digest 64 = .ok (.ladd, 1) := by decide +kernel
theorem dX3_digest_65 : decode cX3_digest 65 = .ok (.lstore_n 1, 1) := by decide +kernel
theorem dX3_digest_66 : decode cX3_digest 66 = .ok (.iinc 4 1, 3) := by decide +kernel
theorem dX3_digest_69 : decode cX3_digest 69 = .ok (.goto (-25), 3) := by decide +kernel
theorem dX3_digest_72 : decode cX3_digest 72 = .ok (.iconst 0, 1) := by decide +kernel
theorem dX3_digest_73 : decode cX3_digest 73 = .ok (.istore 4, 2) := by decide +kernel
theorem dX3_digest_75 : decode cX3_digest 75 = .ok (.iload 4, 2) := by decide +kernel
theorem dX3_digest_77 : decode cX3_digest 77 = .ok (.aload_n 0, 1) := by decide +kernel
theorem dX3_digest_78 : decode cX3_digest 78 = .ok (.getfield 37, 3) := by decide +kernel
theorem dX3_digest_81 : decode cX3_digest 81 = .ok (.if_icmp .ge 24, 3) := by decide +kernel
theorem dX3_digest_84 : decode cX3_digest 84 = .ok (.lload_n 1, 1) := by decide +kernel
theorem dX3_digest_85 : decode cX3_digest 85 = .ok (.ldc2_w 178, 3) := by decide +kernel
theorem dX3_digest_88 : decode cX3_digest 88 = .ok (.lmul, 1) := by decide +kernel
theorem dX3_digest_89 : decode cX3_digest 89 = .ok (.aload_n 0, 1) := by decide +kernel
theorem dX3_digest_90 : decode cX3_digest 90 = .ok (.iload_n 3, 1) := by decide +kernel
theorem dX3_digest_91 : decode cX3_digest 91 = .ok (.iload 4, 2) := by decide +kernel
theorem dX3_digest_93 : decode cX3_digest 93 = .ok (.invokevirtual 187, 3) := by decide +kernel
theorem dX3_digest_96 : decode cX3_digest 96 = .ok (.i2l, 1) := by decide +kernel
theorem dX3_digest_97 : decode cX3_digest 97 = .ok (.ladd, 1) := by decide +kernel
theorem dX3_digest_98 : decode cX3_digest 98 = .ok (.lstore_n 1, 1) := by decide +kernel
theorem dX3_digest_99 : decode cX3_digest 99 = .ok (.iinc 4 1, 3) := by decide +kernel
theorem dX3_digest_102 : decode cX3_digest 102 = .ok (.goto (-27), 3) := by decide +kernel
theorem dX3_digest_105 : decode cX3_digest 105 = .ok (.iinc 3 1, 3) := by decide +kernel
theorem dX3_digest_108 : decode cX3_digest 108 = .ok (.goto (-75), 3) := by decide +kernel
theorem dX3_digest_111 : decode cX3_digest 111 = .ok (.iconst 0, 1) := by decide +kernel
theorem dX3_digest_112 : decode cX3_digest 112 = .ok (.istore_n 3, 1) := by decide +kernel
theorem dX3_digest_113 : decode cX3_digest 113 = .ok (.iload_n 3, 1) := by decide +kernel
theorem dX3_digest_114 : decode cX3_digest 114 = .ok (.aload_n 0, 1) := by decide +kernel
theorem dX3_digest_115 : decode cX3_digest 115 = .ok (.getfield 19, 3) := by decide +kernel
theorem dX3_digest_118 : decode cX3_digest 118 = .ok (.invokevirtual 111, 3) := by decide +kernel
theorem dX3_digest_121 : decode cX3_digest 121 = .ok (.if_icmp .ge 22, 3) := by decide +kernel
theorem dX3_digest_124 : decode cX3_digest 124 = .ok (.lload_n 1, 1) := by decide +kernel
theorem dX3_digest_125 : decode cX3_digest 125 = .ok (.ldc2_w 178, 3) := by decide +kernel
theorem dX3_digest_128 : decode cX3_digest 128 = .ok (.lmul, 1) := by decide +kernel
theorem dX3_digest_129 : decode cX3_digest 129 = .ok (.aload_n 0, 1) := by decide +kernel
theorem dX3_digest_130 : decode cX3_digest 130 = .ok (.iload_n 3, 1) := by decide +kernel
theorem dX3_digest_131 : decode cX3_digest 131 = .ok (.invokevirtual 190, 3) := by decide +kernel
theorem dX3_digest_134 : decode cX3_digest 134 = .ok (.i2l, 1) := by decide +kernel
theorem dX3_digest_135 : decode cX3_digest 135 = .ok (.ladd, 1) := by decide +kernel
theorem dX3_digest_136 : decode cX3_digest 136 = .ok (.lstore_n 1, 1) := by decide +kernel
theorem dX3_digest_137 : decode cX3_digest 137 = .ok (.iinc 3 1, 3) := by decide +kernel
theorem dX3_digest_140 : decode cX3_digest 140 = .ok (.goto (-27), 3) := by decide +kernel
theorem dX3_digest_143 : decode cX3_digest 143 = .ok (.lload_n 1, 1) := by decide +kernel
theorem dX3_digest_144 : decode cX3_digest 144 = .ok (.lreturn, 1) := by decide +kernel
theorem dX3_find_0 : decode cX3_find 0 = .ok (.iload_n 1, 1) := by decide +kernel
theorem dX3_find_1 : decode cX3_find 1 = .ok (.ifCond .lt 11, 3) := by decide +kernel
theorem dX3_find_4 : decode cX3_find 4 = .ok (.iload_n 1, 1) := by decide +kernel
theorem dX3_find_5 : decode cX3_find 5 = .ok (.aload_n 0, 1) := by decide +kernel
theorem dX3_find_6 : decode cX3_find 6 = .ok (.getfield 41, 3) := by decide +kernel
theorem dX3_find_9 : decode cX3_find 9 = .ok (.if_icmp .lt 13, 3) := by decide +kernel
theorem dX3_find_12 : decode cX3_find 12 = .ok (.new 61, 3) := by decide +kernel
theorem dX3_find_15 : decode cX3_find 15 = .ok (.dup, 1) := by decide +kernel
theorem dX3_find_16 : decode cX3_find 16 = .ok (.ldc 193, 2) := by decide +kernel
theorem dX3_find_18 : decode cX3_find 18 = .ok (.invokespecial 65, 3) := by decide +kernel
theorem dX3_find_21 : decode cX3_find 21 = .ok (.athrow, 1) := by decide +kernel
theorem dX3_find_22 : decode cX3_find 22 = .ok (.aload_n 0, 1) := by decide +kernel
theorem dX3_find_23 : decode cX3_find 23 = .ok (.getfield 11, 3) := by decide +kernel
theorem dX3_find_26 : decode cX3_find 26 = .ok (.iload_n 1, 1) := by decide +kernel
theorem dX3_find_27 : decode cX3_find 27 = .ok (.aaload, 1) := by decide +kernel
theorem dX3_find_28 : decode cX3_find 28 = .ok (.areturn, 1) := by decide +kernel
theorem dX3_openPage_0 : decode cX3_openPage 0 = .ok (.aload_n 0, 1) := by decide +kernel
theorem dX3_openPage_1 : decode cX3_openPage 1 = .ok (.getfield 41, 3) := by decide +kernel
theorem dX3_openPage_4 : decode cX3_openPage 4 = .ok (.aload_n 0, 1) := by decide +kernel
theorem dX3_openPage_5 : decode cX3_openPage 5 = .ok (.getfield 11, 3) := by decide +kernel
theorem dX3_openPage_8 : decode cX3_openPage 8 = .ok (.arraylength, 1) := by decide +kernel
theorem dX3_openPage_9 : decode cX3_openPage 9 = .ok (.if_icmp .lt 13, 3) := by decide +kernel
theorem dX3_openPage_12 : decode cX3_openPage 12 = .ok (.new 114, 3) := by decide +kernel
theorem dX3_openPage_15 : decode cX3_openPage 15 = .ok (.dup, 1) := by decide +kernel
theorem dX3_openPage_16 : decode cX3_openPage 16 = .ok (.ldc 195, 2) := by decide +kernel
theorem dX3_openPage_18 : decode cX3_openPage 18 = .ok (.invokespecial 118, 3) := by decide +kernel
theorem dX3_openPage_21 : decode cX3_openPage 21 = .ok (.athrow, 1) := by decide +kernel
theorem dX3_openPage_22 : decode cX3_openPage 22 = .ok (.aload_n 0, 1) := by decide +kernel
theorem dX3_openPage_23 : decode cX3_openPage 23 = .ok (.getfield 11, 3) := by decide +kernel
theorem dX3_openPage_26 : decode cX3_openPage 26 = .ok (.aload_n 0, 1) := by decide +kernel
theorem dX3_openPage_27 : decode cX3_openPage 27 = .ok (.getfield 41, 3) := by decide +kernel
theorem dX3_openPage_30 : decode cX3_openPage 30 = .ok (.aaload, 1) := by decide +kernel
theorem dX3_openPage_31 : decode cX3_openPage 31 = .ok (.astore_n 1, 1) := by decide +kernel
theorem dX3_openPage_32 : decode cX3_openPage 32 = .ok (.aload_n 0, 1) := by decide +kernel
theorem dX3_openPage_33 : decode cX3_openPage 33 = .ok (.dup, 1) := by decide +kernel
theorem dX3_openPage_34 : decode cX3_openPage 34 = .ok (.getfield 41, 3) := by decide +kernel
theorem dX3_openPage_37 : decode cX3_openPage 37 = .ok (.iconst 1, 1) := by decide +kernel
theorem dX3_openPage_38 : decode cX3_openPage 38 = .ok (.iadd, 1) := by decide +kernel
theorem dX3_openPage_39 : decode cX3_openPage 39 = .ok (.putfield 41, 3) := by decide +kernel
theorem dX3_openPage_42 : decode cX3_openPage 42 = .ok (.aload_n 1, 1) := by decide +kernel
theorem dX3_openPage_43 : decode cX3_openPage 43 = .ok (.areturn, 1) := by decide +kernel
theorem dX3_checkPlace_0 : decode cX3_checkPlace 0 = .ok (.iload_n 1, 1) := by decide +kernel
theorem dX3_checkPlace_1 : decode cX3_checkPlace 1 = .ok (.ifCond .lt 11, 3) := by decide +kernel
theorem dX3_checkPlace_4 : decode cX3_checkPlace 4 = .ok (.iload_n 1, 1) := by decide +kernel
theorem dX3_checkPlace_5 : decode cX3_checkPlace 5 = .ok (.aload_n 0, 1) := by decide +kernel
theorem dX3_checkPlace_6 : decode cX3_checkPlace 6 = .ok (.getfield 37, 3) := by decide +kernel
theorem dX3_checkPlace_9 : decode cX3_checkPlace 9 = .ok (.if_icmp .lt 13, 3) := by decide +kernel
theorem dX3_checkPlace_12 : decode cX3_checkPlace 12 = .ok (.new 61, 3) := by decide +kernel
theorem dX3_checkPlace_15 : decode cX3_checkPlace 15 = .ok (.dup, 1) := by decide +kernel
theorem dX3_checkPlace_16 : decode cX3_checkPlace 16 = .ok (.ldc 197, 2) := by decide +kernel
theorem dX3_checkPlace_18 : decode cX3_checkPlace 18 = .ok (.invokespecial 65, 3) := by decide +kernel
theorem dX3_checkPlace_21 : decode cX3_checkPlace 21 = .ok (.athrow, 1) := by decide +kernel
theorem dX3_checkPlace_22 : decode cX3_checkPlace 22 = .ok (.return_, 1) := by decide +kernel
theorem dX3_checkSteps_0 : decode cX3_checkSteps 0 = .ok (.iload_n 0, 1) := by decide +kernel
theorem dX3_checkSteps_1 : decode cX3_checkSteps 1 = .ok (.iconst 1, 1) := by decide +kernel
theorem dX3_checkSteps_2 : decode cX3_checkSteps 2 = .ok (.if_icmp .lt 10, 3) := by decide +kernel
theorem dX3_checkSteps_5 : decode cX3_checkSteps 5 = .ok (.iload_n 0, 1) := by decide +kernel
theorem dX3_checkSteps_6 : decode cX3_checkSteps 6 = .ok (.sipush 200, 3) := by decide +kernel
theorem dX3_checkSteps_9 : decode cX3_checkSteps 9 = .ok (.if_icmp .le 13, 3) := by decide +kernel
theorem dX3_checkSteps_12 : decode cX3_checkSteps 12 = .ok (.new 47, 3) := by decide +kernel
theorem dX3_checkSteps_15 : decode cX3_checkSteps 15 = .ok (.dup, 1) := by decide +kernel
theorem dX3_checkSteps_16 : decode cX3_checkSteps 16 = .ok (.ldc 199, 2) := by decide +kernel
theorem dX3_checkSteps_18 : decode cX3_checkSteps 18 = .ok (.invokespecial 51, 3) := by decide +kernel
theorem dX3_checkSteps_21 : decode cX3_checkSteps 21 = .ok (.athrow, 1) := by decide +kernel
theorem dX3_checkSteps_22 : decode cX3_checkSteps 22 = .ok (.return_, 1) := by decide +kernel
theorem dX3_differentInBook_0 : decode cX3_differentInBook 0 = .ok (.aload_n 0, 1) := by decide +kernel
theorem dX3_differentInBook_1 : decode cX3_differentInBook 1 = .ok (.getfield 33, 3) := by decide +kernel
theorem dX3_differentInBook_4 : decode cX3_differentInBook 4 = .ok (.invokevirtual 171, 3) := by decide +kernel
theorem dX3_differentInBook_7 : decode cX3_differentInBook 7 = .ok (.iconst 0, 1) := by decide +kernel
theorem dX3_differentInBook_8 : decode cX3_differentInBook 8 = .ok (.istore_n 1, 1) := by decide +kernel
theorem dX3_differentInBook_9 : decode cX3_differentInBook 9 = .ok (.iload_n 1, 1) := by decide +kernel
theorem dX3_differentInBook_10 : decode cX3_differentInBook 10 = .ok (.aload_n 0, 1) := by decide +kernel
theorem dX3_differentInBook_11 : decode cX3_differentInBook 11 = .ok (.getfield 41, 3) := by decide +kernel
theorem dX3_differentInBook_14 : decode cX3_differentInBook 14 = .ok (.if_icmp .ge 25, 3) := by decide +kernel
theorem dX3_differentInBook_17 : decode cX3_differentInBook 17 = .ok (.aload_n 0, 1) := by decide +kernel
theorem dX3_differentInBook_18 : decode cX3_differentInBook 18 = .ok (.getfield 33, 3) := by decide +kernel
theorem dX3_differentInBook_21 : decode cX3_differentInBook 21 = .ok (.aload_n 0, 1) := by decide +kernel
theorem dX3_differentInBook_22 : decode cX3_differentInBook 22 = .ok (.getfield 11, 3) := by decide +kernel
theorem dX3_differentInBook_25 : decode cX3_differentInBook 25 = .ok (.iload_n 1, 1) := by decide +kernel
theorem dX3_differentInBook_26 : decode cX3_differentInBook 26 = .ok (.aaload, 1) := by decide +kernel
theorem dX3_differentInBook_27 : decode cX3_differentInBook 27 = .ok (.invokevirtual 84, 3) := by decide +kernel
theorem dX3_differentInBook_30 : decode cX3_differentInBook 30 = .ok (.invokevirtual 172, 3) := by decide +kernel
theorem dX3_differentInBook_33 : decode cX3_differentInBook 33 = .ok (.iinc 1 1, 3) := by decide +kernel
theorem dX3_differentInBook_36 : decode cX3_differentInBook 36 = .ok (.goto (-27), 3) := by decide +kernel
theorem dX3_differentInBook_39 : decode cX3_differentInBook 39 = .ok (.aload_n 0, 1) := by decide +kernel
theorem dX3_differentInBook_40 : decode cX3_differentInBook 40 = .ok (.getfield 33, 3) := by decide +kernel
theorem dX3_differentInBook_43 : decode cX3_differentInBook 43 = .ok (.invokevirtual 173, 3) := by decide +kernel
theorem dX3_differentInBook_46 : decode cX3_differentInBook 46 = .ok (.ireturn, 1) := by decide +kernel
theorem dX3_changesOf_0 : decode cX3_changesOf 0 = .ok (.iconst 1, 1) := by decide +kernel
theorem dX3_changesOf_1 : decode cX3_changesOf 1 = .ok (.istore_n 1, 1) := by decide +kernel
theorem dX3_changesOf_2 : decode cX3_changesOf 2 = .ok (.iconst 2, 1) := by decide +kernel
theorem dX3_changesOf_3 : decode cX3_changesOf 3 = .ok (.istore_n 2, 1) := by decide +kernel
theorem dX3_changesOf_4 : decode cX3_changesOf 4 = .ok (.iload_n 2, 1) := by decide +kernel
theorem dX3_changesOf_5 : decode cX3_changesOf 5 = .ok (.iload_n 0, 1) := by decide +kernel
theorem dX3_changesOf_6 : decode cX3_changesOf 6 = .ok (.if_icmp .gt 13, 3) := by decide +kernel
theorem dX3_changesOf_9 : decode cX3_changesOf 9 = .ok (.iload_n 1, 1) := by decide +kernel
theorem dX3_changesOf_10 : decode cX3_changesOf 10 = .ok (.iload_n 2, 1) := by decide +kernel
theorem dX3_changesOf_11 : decode cX3_changesOf 11 = .ok (.imul, 1) := by decide +kernel
theorem dX3_changesOf_12 : decode cX3_changesOf 12 = .ok (.istore_n 1, 1) := by decide +kernel
theorem dX3_changesOf_13 : decode cX3_changesOf 13 = .ok (.iinc 2 1, 3) := by decide +kernel
theorem dX3_changesOf_16 : decode cX3_changesOf 16 = .ok (.goto (-12), 3) := by decide +kernel
theorem dX3_changesOf_19 : decode cX3_changesOf 19 = .ok (.iload_n 1, 1) := by decide +kernel
theorem dX3_changesOf_20 : decode cX3_changesOf 20 = .ok (.ireturn, 1) := by decide +kernel
