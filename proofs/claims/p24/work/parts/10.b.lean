theorem dJ9_max_7cf53_0 : decode cJ9_max_7cf53 0 = .ok (.iload_n 0, 1) := by decide +kernel
theorem dJ9_max_7cf53_1 : decode cJ9_max_7cf53 1 = .ok (.iload_n 1, 1) := by decide +kernel
theorem dJ9_max_7cf53_2 : decode cJ9_max_7cf53 2 = .ok (.if_icmp .lt 7, 3) := by decide +kernel
theorem dJ9_max_7cf53_5 : decode cJ9_max_7cf53 5 = .ok (.iload_n 0, 1) := by decide +kernel
theorem dJ9_max_7cf53_6 : decode cJ9_max_7cf53 6 = .ok (.goto 4, 3) := by decide +kernel
theorem dJ9_max_7cf53_9 : decode cJ9_max_7cf53 9 = .ok (.iload_n 1, 1) := by decide +kernel
theorem dJ9_max_7cf53_10 : decode cJ9_max_7cf53 10 = .ok (.ireturn, 1) := by decide +kernel
theorem dL_below_0 : decode cL_below 0 = .ok (.iload_n 0, 1) := by decide +kernel
theorem dL_below_1 : decode cL_below 1 = .ok (.ldc 7, 2) := by decide +kernel
theorem dL_below_3 : decode cL_below 3 = .ok (.iand, 1) := by decide +kernel
theorem dL_below_4 : decode cL_below 4 = .ok (.iload_n 1, 1) := by decide +kernel
theorem dL_below_5 : decode cL_below 5 = .ok (.irem, 1) := by decide +kernel
theorem dL_below_6 : decode cL_below 6 = .ok (.ireturn, 1) := by decide +kernel
theorem dL_cell_0 : decode cL_cell 0 = .ok (.iload_n 1, 1) := by decide +kernel
theorem dL_cell_1 : decode cL_cell 1 = .ok (.aload_n 0, 1) := by decide +kernel
theorem dL_cell_2 : decode cL_cell 2 = .ok (.arraylength, 1) := by decide +kernel
theorem dL_cell_3 : decode cL_cell 3 = .ok (.if_icmp .ge 9, 3) := by decide +kernel
theorem dL_cell_6 : decode cL_cell 6 = .ok (.aload_n 0, 1) := by decide +kernel
theorem dL_cell_7 : decode cL_cell 7 = .ok (.iload_n 1, 1) := by decide +kernel
theorem dL_cell_8 : decode cL_cell 8 = .ok (.iaload, 1) := by decide +kernel
theorem dL_cell_9 : decode cL_cell 9 = .ok (.goto 9, 3) := by decide +kernel
theorem dL_cell_12 : decode cL_cell 12 = .ok (.ldc 8, 2) := by decide +kernel
theorem dL_cell_14 : decode cL_cell 14 = .ok (.iload_n 1, 1) := by decide +kernel
theorem dL_cell_15 : decode cL_cell 15 = .ok (.iconst 3, 1) := by decide +kernel
theorem dL_cell_16 : decode cL_cell 16 = .ok (.iadd, 1) := by decide +kernel
theorem dL_cell_17 : decode cL_cell 17 = .ok (.imul, 1) := by decide +kernel
theorem dL_cell_18 : decode cL_cell 18 = .ok (.ireturn, 1) := by decide +kernel
theorem dL_product_0 : decode cL_product 0 = .ok (.iload_n 0, 1) := by decide +kernel
theorem dL_product_1 : decode cL_product 1 = .ok (.iconst 2, 1) := by decide +kernel
theorem dL_product_2 : decode cL_product 2 = .ok (.if_icmp .ge 7, 3) := by decide +kernel
theorem dL_product_5 : decode cL_product 5 = .ok (.iconst 1, 1) := by decide +kernel
theorem dL_product_6 : decode cL_product 6 = .ok (.goto 11, 3) := by decide +kernel
theorem dL_product_9 : decode cL_product 9 = .ok (.iload_n 0, 1) := by decide +kernel
theorem dL_product_10 : decode cL_product 10 = .ok (.iload_n 0, 1) := by decide +kernel
theorem dL_product_11 : decode cL_product 11 = .ok (.iconst 1, 1) := by decide +kernel
theorem dL_product_12 : decode cL_product 12 = .ok (.isub, 1) := by decide +kernel
theorem dL_product_13 : decode cL_product 13 = .ok (.invokestatic 9, 3) := by decide +kernel
theorem dL_product_16 : decode cL_product 16 = .ok (.imul, 1) := by decide +kernel
theorem dL_product_17 : decode cL_product 17 = .ok (.ireturn, 1) := by decide +kernel
theorem dL_bellsOf_0 : decode cL_bellsOf 0 = .ok (.iconst 2, 1) := by decide +kernel
theorem dL_bellsOf_1 : decode cL_bellsOf 1 = .ok (.aload_n 0, 1) := by decide +kernel
theorem dL_bellsOf_2 : decode cL_bellsOf 2 = .ok (.iconst 0, 1) := by decide +kernel
theorem dL_bellsOf_3 : decode cL_bellsOf 3 = .ok (.invokestatic 15, 3) := by decide +kernel
theorem dL_bellsOf_6 : decode cL_bellsOf 6 = .ok (.bipush 7, 2) := by decide +kernel
theorem dL_bellsOf_8 : decode cL_bellsOf 8 = .ok (.invokestatic 19, 3) := by decide +kernel
theorem dL_bellsOf_11 : decode cL_bellsOf 11 = .ok (.iadd, 1) := by decide +kernel
theorem dL_bellsOf_12 : decode cL_bellsOf 12 = .ok (.ireturn, 1) := by decide +kernel
theorem dL_tower_0 : decode cL_tower 0 = .ok (.new 23, 3) := by decide +kernel
theorem dL_tower_3 : decode cL_tower 3 = .ok (.dup, 1) := by decide +kernel
theorem dL_tower_4 : decode cL_tower 4 = .ok (.invokespecial 25, 3) := by decide +kernel
theorem dL_tower_7 : decode cL_tower 7 = .ok (.astore_n 1, 1) := by decide +kernel
theorem dL_tower_8 : decode cL_tower 8 = .ok (.aload_n 1, 1) := by decide +kernel
theorem dL_tower_9 : decode cL_tower 9 = .ok (.aload_n 0, 1) := by decide +kernel
theorem dL_tower_10 : decode cL_tower 10 = .ok (.invokestatic 26, 3) := by decide +kernel
theorem dL_tower_13 : decode cL_tower 13 = .ok (.invokevirtual 30, 3) := by decide +kernel
theorem dL_tower_16 : decode cL_tower 16 = .ok (.pop, 1) := by decide +kernel
theorem dL_tower_17 : decode cL_tower 17 = .ok (.iconst 0, 1) := by decide +kernel
theorem dL_tower_18 : decode cL_tower 18 = .ok (.istore_n 2, 1) := by decide +kernel
theorem dL_tower_19 : decode cL_tower 19 = .ok (.iload_n 2, 1) := by decide +kernel
theorem dL_tower_20 : decode cL_tower 20 = .ok (.iconst 5, 1) := by decide +kernel
theorem dL_tower_21 : decode cL_tower 21 = .ok (.if_icmp .ge 31, 3) := by decide +kernel
theorem dL_tower_24 : decode cL_tower 24 = .ok (.aload_n 1, 1) := by decide +kernel
theorem dL_tower_25 : decode cL_tower 25 = .ok (.aload_n 0, 1) := by decide +kernel
theorem dL_tower_26 : decode cL_tower 26 = .ok (.iconst 1, 1) := by decide +kernel
theorem dL_tower_27 : decode cL_tower 27 = .ok (.iload_n 2, 1) := by decide +kernel
theorem dL_tower_28 : decode cL_tower 28 = .ok (.iadd, 1) := by decide +kernel
theorem dL_tower_29 : decode cL_tower 29 = .ok (.invokestatic 15, 3) := by decide +kernel
theorem dL_tower_32 : decode cL_tower 32 = .ok (.aload_n 0, 1) := by decide +kernel
theorem dL_tower_33 : decode cL_tower 33 = .ok (.invokestatic 26, 3) := by decide +kernel
theorem dL_tower_36 : decode cL_tower 36 = .ok (.invokestatic 9, 3) := by decide +kernel
theorem dL_tower_39 : decode cL_tower 39 = .ok (.invokestatic 19, 3) := by decide +kernel
theorem dL_tower_42 : decode cL_tower 42 = .ok (.invokevirtual 33, 3) := by decide +kernel
theorem dL_tower_45 : decode cL_tower 45 = .ok (.pop, 1) := by decide +kernel
theorem dL_tower_46 : decode cL_tower 46 = .ok (.iinc 2 1, 3) := by decide +kernel
theorem dL_tower_49 : decode cL_tower 49 = .ok (.goto (-30), 3) := by decide +kernel
theorem dL_tower_52 : decode cL_tower 52 = .ok (.aload_n 1, 1) := by decide +kernel
theorem dL_tower_53 : decode cL_tower 53 = .ok (.areturn, 1) := by decide +kernel
theorem dL_steps_0 : decode cL_steps 0 = .ok (.iconst 1, 1) := by decide +kernel
theorem dL_steps_1 : decode cL_steps 1 = .ok (.aload_n 1, 1) := by decide +kernel
theorem dL_steps_2 : decode cL_steps 2 = .ok (.bipush 6, 2) := by decide +kernel
theorem dL_steps_4 : decode cL_steps 4 = .ok (.invokestatic 15, 3) := by decide +kernel
theorem dL_steps_7 : decode cL_steps 7 = .ok (.bipush 10, 2) := by decide +kernel
theorem dL_steps_9 : decode cL_steps 9 = .ok (.invokestatic 19, 3) := by decide +kernel
theorem dL_steps_12 : decode cL_steps 12 = .ok (.iadd, 1) := by decide +kernel
theorem dL_steps_13 : decode cL_steps 13 = .ok (.istore_n 3, 1) := by decide +kernel
theorem dL_steps_14 : decode cL_steps 14 = .ok (.iconst 0, 1) := by decide +kernel
theorem dL_steps_15 : decode cL_steps 15 = .ok (.istore 4, 2) := by decide +kernel
theorem dL_steps_17 : decode cL_steps 17 = .ok (.iload 4, 2) := by decide +kernel
theorem dL_steps_19 : decode cL_steps 19 = .ok (.iload_n 3, 1) := by decide +kernel
theorem dL_steps_20 : decode cL_steps 20 = .ok (.if_icmp .ge 21, 3) := by decide +kernel
theorem dL_steps_23 : decode cL_steps 23 = .ok (.aload_n 0, 1) := by decide +kernel
theorem dL_steps_24 : decode cL_steps 24 = .ok (.aload_n 1, 1) := by decide +kernel
theorem dL_steps_25 : decode cL_steps 25 = .ok (.iload_n 2, 1) := by decide +kernel
theorem dL_steps_26 : decode cL_steps 26 = .ok (.iload 4, 2) := by decide +kernel
theorem dL_steps_28 : decode cL_steps 28 = .ok (.invokestatic 36, 3) := by decide +kernel
theorem dL_steps_31 : decode cL_steps 31 = .ok (.invokevirtual 40, 3) := by decide +kernel
theorem dL_steps_34 : decode cL_steps 34 = .ok (.pop, 1) := by decide +kernel
theorem dL_steps_35 : decode cL_steps 35 = .ok (.iinc 4 1, 3) := by decide +kernel
theorem dL_steps_38 : decode cL_steps 38 = .ok (.goto (-21), 3) := by decide +kernel
theorem dL_steps_41 : decode cL_steps 41 = .ok (.iload_n 3, 1) := by decide +kernel
theorem dL_steps_42 : decode cL_steps 42 = .ok (.ireturn, 1) := by decide +kernel
theorem dL_keptOf_0 : decode cL_keptOf 0 = .ok (.iconst 0, 1) := by decide +kernel
theorem dL_keptOf_1 : decode cL_keptOf 1 = .ok (.istore_n 3, 1) := by decide +kernel
theorem dL_keptOf_2 : decode cL_keptOf 2 = .ok (.aload_n 0, 1) := by decide +kernel
theorem dL_keptOf_3 : decode cL_keptOf 3 = .ok (.bipush 7, 2) := by decide +kernel
theorem dL_keptOf_5 : decode cL_keptOf 5 = .ok (.iload_n 2, 1) := by decide +kernel
theorem dL_keptOf_6 : decode cL_keptOf 6 = .ok (.bipush 9, 2) := by decide +kernel
theorem dL_keptOf_8 : decode cL_keptOf 8 = .ok (.irem, 1) := by decide +kernel
theorem dL_keptOf_9 : decode cL_keptOf 9 = .ok (.iadd, 1) := by decide +kernel
theorem dL_keptOf_10 : decode cL_keptOf 10 = .ok (.invokestatic 15, 3) := by decide +kernel
theorem dL_keptOf_13 : decode cL_keptOf 13 = .ok (.iload_n 2, 1) := by decide +kernel
theorem dL_keptOf_14 : decode cL_keptOf 14 = .ok (.bipush 9, 2) := by decide +kernel
theorem dL_keptOf_16 : decode cL_keptOf 16 = .ok (.idiv, 1) := by decide +kernel
theorem dL_keptOf_17 : decode cL_keptOf 17 = .ok (.ishr, 1) := by decide +kernel
theorem dL_keptOf_18 : decode cL_keptOf 18 = .ok (.istore 4, 2) := by decide +kernel
theorem dL_keptOf_20 : decode cL_keptOf 20 = .ok (.iconst 0, 1) := by decide +kernel
theorem dL_keptOf_21 : decode cL_keptOf 21 = .ok (.istore 5, 2) := by decide +kernel
theorem dL_keptOf_23 : decode cL_keptOf 23 = .ok (.iload 5, 2) := by decide +kernel
theorem dL_keptOf_25 : decode cL_keptOf 25 = .ok (.iload_n 1, 1) := by decide +kernel
theorem dL_keptOf_26 : decode cL_keptOf 26 = .ok (.if_icmp .ge 62, 3) := by decide +kernel
theorem dL_keptOf_29 : decode cL_keptOf 29 = .ok (.iload 5, 2) := by decide +kernel
theorem dL_keptOf_31 : decode cL_keptOf 31 = .ok (.iconst 1, 1) := by decide +kernel
theorem dL_keptOf_32 : decode cL_keptOf 32 = .ok (.iadd, 1) := by decide +kernel
theorem dL_keptOf_33 : decode cL_keptOf 33 = .ok (.iload_n 1, 1) := by decide +kernel
theorem dL_keptOf_34 : decode cL_keptOf 34 = .ok (.if_icmp .ge 17, 3) := by decide +kernel
theorem dL_keptOf_37 : decode cL_keptOf 37 = .ok (.iload 4, 2) := by decide +kernel
theorem dL_keptOf_39 : decode cL_keptOf 39 = .ok (.iload 5, 2) := by decide +kernel
theorem dL_keptOf_41 : decode cL_keptOf 41 = .ok (.ishr, 1) := by decide +kernel
theorem dL_keptOf_42 : decode cL_keptOf 42 = .ok (.iconst 3, 1) := by decide +kernel
theorem dL_keptOf_43 : decode cL_keptOf 43 = .ok (.iand, 1) := by decide +kernel
theorem dL_keptOf_44 : decode cL_keptOf 44 = .ok (.ifCond .eq 7, 3) := by decide +kernel
theorem dL_keptOf_47 : decode cL_keptOf 47 = .ok (.iconst 1, 1) := by decide +kernel
theorem dL_keptOf_48 : decode cL_keptOf 48 = .ok (.goto 4, 3) := by decide +kernel
theorem dL_keptOf_51 : decode cL_keptOf 51 = .ok (.iconst 0, 1) := by decide +kernel
theorem dL_keptOf_52 : decode cL_keptOf 52 = .ok (.istore 6, 2) := by decide +kernel
theorem dL_keptOf_54 : decode cL_keptOf 54 = .ok (.iload_n 3, 1) := by decide +kernel
theorem dL_keptOf_55 : decode cL_keptOf 55 = .ok (.iload 6, 2) := by decide +kernel
theorem dL_keptOf_57 : decode cL_keptOf 57 = .ok (.ifCond .eq 7, 3) := by decide +kernel
theorem dL_keptOf_60 : decode cL_keptOf 60 = .ok (.iconst 0, 1) := by decide +kernel
theorem dL_keptOf_61 : decode cL_keptOf 61 = .ok (.goto 7, 3) := by decide +kernel
theorem dL_keptOf_64 : decode cL_keptOf 64 = .ok (.iconst 1, 1) := by decide +kernel
theorem dL_keptOf_65 : decode cL_keptOf 65 = .ok (.iload 5, 2) := by decide +kernel
theorem dL_keptOf_67 : decode cL_keptOf 67 = .ok (.ishl, 1) := by decide +kernel
theorem dL_keptOf_68 : decode cL_keptOf 68 = .ok (.ior, 1) := by decide +kernel
theorem dL_keptOf_69 : decode cL_keptOf 69 = .ok (.istore_n 3, 1) := by decide +kernel
theorem dL_keptOf_70 : decode cL_keptOf 70 = .ok (.iload 5, 2) := by decide +kernel
theorem dL_keptOf_72 : decode cL_keptOf 72 = .ok (.iload 6, 2) := by decide +kernel
theorem dL_keptOf_74 : decode cL_keptOf 74 = .ok (.ifCond .eq 7, 3) := by decide +kernel
theorem dL_keptOf_77 : decode cL_keptOf 77 = .ok (.iconst 2, 1) := by decide +kernel
theorem dL_keptOf_78 : decode cL_keptOf 78 = .ok (.goto 4, 3) := by decide +kernel
theorem dL_keptOf_81 : decode cL_keptOf 81 = .ok (.iconst 1, 1) := by decide +kernel
theorem dL_keptOf_82 : decode cL_keptOf 82 = .ok (.iadd, 1) := by decide +kernel
theorem dL_keptOf_83 : decode cL_keptOf 83 = .ok (.istore 5, 2) := by decide +kernel
theorem dL_keptOf_85 : decode cL_keptOf 85 = .ok (.goto (-62), 3) := by decide +kernel
theorem dL_keptOf_88 : decode cL_keptOf 88 = .ok (.iload_n 3, 1) := by decide +kernel
theorem dL_keptOf_89 : decode cL_keptOf 89 = .ok (.ireturn, 1) := by decide +kernel
theorem dL_law_0 : decode cL_law 0 = .ok (.aload_n 0, 1) := by decide +kernel
theorem dL_law_1 : decode cL_law 1 = .ok (.invokestatic 43, 3) := by decide +kernel
theorem dL_law_4 : decode cL_law 4 = .ok (.astore_n 1, 1) := by decide +kernel
theorem dL_law_5 : decode cL_law 5 = .ok (.aload_n 0, 1) := by decide +kernel
theorem dL_law_6 : decode cL_law 6 = .ok (.invokestatic 26, 3) := by decide +kernel
theorem dL_law_9 : decode cL_law 9 = .ok (.istore_n 2, 1) := by decide +kernel
theorem dL_law_10 : decode cL_law 10 = .ok (.aload_n 1, 1) := by decide +kernel
theorem dL_law_11 : decode cL_law 11 = .ok (.aload_n 0, 1) := by decide +kernel
theorem dL_law_12 : decode cL_law 12 = .ok (.iload_n 2, 1) := by decide +kernel
theorem dL_law_13 : decode cL_law 13 = .ok (.invokestatic 47, 3) := by decide +kernel
theorem dL_law_16 : decode cL_law 16 = .ok (.istore_n 3, 1) := by decide +kernel
theorem dL_law_17 : decode cL_law 17 = .ok (.iconst 0, 1) := by decide +kernel
theorem dL_law_18 : decode cL_law 18 = .ok (.istore 4, 2) := by decide +kernel
theorem dL_law_20 : decode cL_law 20 = .ok (.iconst 5, 1) := by decide +kernel
theorem dL_law_21 : decode cL_law 21 = .ok (.istore 5, 2) := by decide +kernel
theorem dL_law_23 : decode cL_law 23 = .ok (.iconst 0, 1) := by decide +kernel
theorem dL_law_24 : decode cL_law 24 = .ok (.istore 6, 2) := by decide +kernel
theorem dL_law_26 : decode cL_law 26 = .ok (.iload 6, 2) := by decide +kernel
theorem dL_law_28 : decode cL_law 28 = .ok (.bipush 30, 2) := by decide +kernel
theorem dL_law_30 : decode cL_law 30 = .ok (.if_icmp .ge 710, 3) := by decide +kernel
theorem dL_law_33 : decode cL_law 33 = .ok (.aload_n 0, 1) := by decide +kernel
theorem dL_law_34 : decode cL_law 34 = .ok (.iload 6, 2) := by decide +kernel
theorem dL_law_36 : decode cL_law 36 = .ok (.bipush 16, 2) := by decide +kernel
theorem dL_law_38 : decode cL_law 38 = .ok (.irem, 1) := by decide +kernel
theorem dL_law_39 : decode cL_law 39 = .ok (.invokestatic 15, 3) := by decide +kernel
theorem dL_law_42 : decode cL_law 42 = .ok (.iload 6, 2) := by decide +kernel
theorem dL_law_44 : decode cL_law 44 = .ok (.bipush 16, 2) := by decide +kernel
theorem dL_law_46 : decode cL_law 46 = .ok (.idiv, 1) := by decide +kernel
theorem dL_law_47 : decode cL_law 47 = .ok (.iconst 4, 1) := by decide +kernel
theorem dL_law_48 : decode cL_law 48 = .ok (.imul, 1) := by decide +kernel
theorem dL_law_49 : decode cL_law 49 = .ok (.ishr, 1) := by decide +kernel
theorem dL_law_50 : decode cL_law 50 = .ok (.istore 7, 2) := by decide +kernel
theorem dL_law_52 : decode cL_law 52 = .ok (.iload 7, 2) := by decide +kernel
theorem dL_law_54 : decode cL_law 54 = .ok (.iconst 2, 1) := by decide +kernel
theorem dL_law_55 : decode cL_law 55 = .ok (.ishr, 1) := by decide +kernel
theorem dL_law_56 : decode cL_law 56 = .ok (.iload 5, 2) := by decide +kernel
theorem dL_law_58 : decode cL_law 58 = .ok (.invokestatic 19, 3) := by decide +kernel
theorem dL_law_61 : decode cL_law 61 = .ok (.istore 8, 2) := by decide +kernel
theorem dL_law_63 : decode cL_law 63 = .ok (.iload 7, 2) := by decide +kernel
theorem dL_law_65 : decode cL_law 65 = .ok (.iconst 5, 1) := by decide +kernel
theorem dL_law_66 : decode cL_law 66 = .ok (.ishr, 1) := by decide +kernel
theorem dL_law_67 : decode cL_law 67 = .ok (.iload 5, 2) := by decide +kernel
theorem dL_law_69 : decode cL_law 69 = .ok (.invokestatic 19, 3) := by decide +kernel
theorem dL_law_72 : decode cL_law 72 = .ok (.istore 9, 2) := by decide +kernel
theorem dL_law_74 : decode cL_law 74 = .ok (.aload_n 1, 1) := by decide +kernel
theorem dL_law_75 : decode cL_law 75 = .ok (.iload 8, 2) := by decide +kernel
theorem dL_law_77 : decode cL_law 77 = .ok (.iconst 0, 1) := by decide +kernel
theorem dL_law_78 : decode cL_law 78 = .ok (.invokevirtual 51, 3) := by decide +kernel
theorem dL_law_81 : decode cL_law 81 = .ok (.istore 10, 2) := by decide +kernel
theorem dL_law_83 : decode cL_law 83 = .ok (.aload_n 1, 1) := by decide +kernel
theorem dL_law_84 : decode cL_law 84 = .ok (.iload 8, 2) := by decide +kernel
theorem dL_law_86 : decode cL_law 86 = .ok (.iconst 2, 1) := by decide +kernel
theorem dL_law_87 : decode cL_law 87 = .ok (.invokevirtual 51, 3) := by decide +kernel
theorem dL_law_90 : decode cL_law 90 = .ok (.istore 11, 2) := by decide +kernel
theorem dL_law_92 : decode cL_law 92 = .ok (.iload 10, 2) := by decide +kernel
theorem dL_law_94 : decode cL_law 94 = .ok (.istore 12, 2) := by decide +kernel
theorem dL_law_96 : decode cL_law 96 = .ok (.iload 7, 2) := by decide +kernel
theorem dL_law_98 : decode cL_law 98 = .ok (.bipush 7, 2) := by decide +kernel
theorem dL_law_100 : decode cL_law 100 = .ok (.invokestatic 19, 3) := by decide +kernel
theorem dL_law_103 : decode cL_law 103 = .ok (.tableswitch 203 0 4 #[33, 72, 96, 127, 170], 33) := by decide +kernel
theorem dL_law_136 : decode cL_law 136 = .ok (.aload_n 1, 1) := by decide +kernel
theorem dL_law_137 : decode cL_law 137 = .ok (.iload 8, 2) := by decide +kernel
theorem dL_law_139 : decode cL_law 139 = .ok (.iload 7, 2) := by decide +kernel
theorem dL_law_141 : decode cL_law 141 = .ok (.iconst 3, 1) := by decide +kernel
theorem dL_law_142 : decode cL_law 142 = .ok (.ishr, 1) := by decide +kernel
theorem dL_law_143 : decode cL_law 143 = .ok (.iload_n 2, 1) := by decide +kernel
theorem dL_law_144 : decode cL_law 144 = .ok (.iconst 1, 1) := by decide +kernel
theorem dL_law_145 : decode cL_law 145 = .ok (.isub, 1) := by decide +kernel
theorem dL_law_146 : decode cL_law 146 = .ok (.invokestatic 19, 3) := by decide +kernel
theorem dL_law_149 : decode cL_law 149 = .ok (.invokevirtual 54, 3) := by decide +kernel
theorem dL_law_152 : decode cL_law 152 = .ok (.istore 12, 2) := by decide +kernel
theorem dL_law_154 : decode cL_law 154 = .ok (.aload_n 1, 1) := by decide +kernel
theorem dL_law_155 : decode cL_law 155 = .ok (.iload 8, 2) := by decide +kernel
theorem dL_law_157 : decode cL_law 157 = .ok (.iconst 2, 1) := by decide +kernel
theorem dL_law_158 : decode cL_law 158 = .ok (.invokevirtual 51, 3) := by decide +kernel
theorem dL_law_161 : decode cL_law 161 = .ok (.iload 11, 2) := by decide +kernel
theorem dL_law_163 : decode cL_law 163 = .ok (.if_icmp .eq 10, 3) := by decide +kernel
theorem dL_law_166 : decode cL_law 166 = .ok (.iload 12, 2) := by decide +kernel
theorem dL_law_168 : decode cL_law 168 = .ok (.iload 10, 2) := by decide +kernel
theorem dL_law_170 : decode cL_law 170 = .ok (.if_icmp .ne 277, 3) := by decide +kernel
theorem dL_law_173 : decode cL_law 173 = .ok (.iconst 0, 1) := by decide +kernel
theorem dL_law_174 : decode cL_law 174 = .ok (.ireturn, 1) := by decide +kernel
theorem dL_law_175 : decode cL_law 175 = .ok (.aload_n 1, 1) := by decide +kernel
theorem dL_law_176 : decode cL_law 176 = .ok (.iload 8, 2) := by decide +kernel
theorem dL_law_178 : decode cL_law 178 = .ok (.invokevirtual 57, 3) := by decide +kernel
theorem dL_law_181 : decode cL_law 181 = .ok (.istore 12, 2) := by decide +kernel
theorem dL_law_183 : decode cL_law 183 = .ok (.iload 12, 2) := by decide +kernel
theorem dL_law_185 : decode cL_law 185 = .ok (.iload 10, 2) := by decide +kernel
theorem dL_law_187 : decode cL_law 187 = .ok (.iconst 1, 1) := by decide +kernel
theorem dL_law_188 : decode cL_law 188 = .ok (.iadd, 1) := by decide +kernel
theorem dL_law_189 : decode cL_law 189 = .ok (.iload_n 2, 1) := by decide +kernel
theorem dL_law_190 : decode cL_law 190 = .ok (.invokestatic 9, 3) := by decide +kernel
theorem dL_law_193 : decode cL_law 193 = .ok (.irem, 1) := by decide +kernel
theorem dL_law_194 : decode cL_law 194 = .ok (.if_icmp .eq 253, 3) := by decide +kernel
theorem dL_law_197 : decode cL_law 197 = .ok (.iconst 0, 1) := by decide +kernel
theorem dL_law_198 : decode cL_law 198 = .ok (.ireturn, 1) := by decide +kernel
theorem dL_law_199 : decode cL_law 199 = .ok (.iload 5, 2) := by decide +kernel
theorem dL_law_201 : decode cL_law 201 = .ok (.bipush 16, 2) := by decide +kernel
theorem dL_law_203 : decode cL_law 203 = .ok (.if_icmp .ne 6, 3) := by decide +kernel
theorem dL_law_206 : decode cL_law 206 = .ok (.goto 241, 3) := by decide +kernel
theorem dL_law_209 : decode cL_law 209 = .ok (.aload_n 1, 1) := by decide +kernel
theorem dL_law_210 : decode cL_law 210 = .ok (.iload 8, 2) := by decide +kernel
theorem dL_law_212 : decode cL_law 212 = .ok (.iload 9, 2) := by decide +kernel
theorem dL_law_214 : decode cL_law 214 = .ok (.invokevirtual 60, 3) := by decide +kernel
theorem dL_law_217 : decode cL_law 217 = .ok (.iload 5, 2) := by decide +kernel
theorem dL_law_219 : decode cL_law 219 = .ok (.if_icmp .eq 5, 3) := by decide +kernel
theorem dL_law_222 : decode cL_law 222 = .ok (.iconst 0, 1) := by decide +kernel
theorem dL_law_223 : decode cL_law 223 = .ok (.ireturn, 1) := by decide +kernel
theorem dL_law_224 : decode cL_law 224 = .ok (.iinc 5 1, 3) := by decide +kernel
theorem dL_law_227 : decode cL_law 227 = .ok (.goto 220, 3) := by decide +kernel
theorem dL_law_230 : decode cL_law 230 = .ok (.aload_n 1, 1) := by decide +kernel
theorem dL_law_231 : decode cL_law 231 = .ok (.iload 8, 2) := by decide +kernel
theorem dL_law_233 : decode cL_law 233 = .ok (.iconst 5, 1) := by decide +kernel
theorem dL_law_234 : decode cL_law 234 = .ok (.invokevirtual 51, 3) := by decide +kernel
theorem dL_law_237 : decode cL_law 237 = .ok (.istore 13, 2) := by decide +kernel
theorem dL_law_239 : decode cL_law 239 = .ok (.aload_n 1, 1) := by decide +kernel
theorem dL_law_240 : decode cL_law 240 = .ok (.iload 8, 2) := by decide +kernel
theorem dL_law_242 : decode cL_law 242 = .ok (.invokevirtual 63, 3) := by decide +kernel
theorem dL_law_245 : decode cL_law 245 = .ok (.istore 12, 2) := by decide +kernel
theorem dL_law_247 : decode cL_law 247 = .ok (.aload_n 1, 1) := by decide +kernel
theorem dL_law_248 : decode cL_law 248 = .ok (.iload 8, 2) := by decide +kernel
theorem dL_law_250 : decode cL_law 250 = .ok (.iconst 5, 1) := by decide +kernel
theorem dL_law_251 : decode cL_law 251 = .ok (.invokevirtual 51, 3) := by decide +kernel
theorem dL_law_254 : decode cL_law 254 = .ok (.iload 13, 2) := by decide +kernel
theorem dL_law_256 : decode cL_law 256 = .ok (.if_icmp .ne 15, 3) := by decide +kernel
theorem dL_law_259 : decode cL_law 259 = .ok (.aload_n 1, 1) := by decide +kernel
theorem dL_law_260 : decode cL_law 260 = .ok (.iload 8, 2) := by decide +kernel
theorem dL_law_262 : decode cL_law 262 = .ok (.iconst 2, 1) := by decide +kernel
theorem dL_law_263 : decode cL_law 263 = .ok (.invokevirtual 51, 3) := by decide +kernel
theorem dL_law_266 : decode cL_law 266 = .ok (.iload 11, 2) := by decide +kernel
theorem dL_law_268 : decode cL_law 268 = .ok (.if_icmp .eq 179, 3) := by decide +kernel
theorem dL_law_271 : decode cL_law 271 = .ok (.iconst 0, 1) := by decide +kernel
theorem dL_law_272 : decode cL_law 272 = .ok (.ireturn, 1) := by decide +kernel
theorem dL_law_273 : decode cL_law 273 = .ok (.iconst 1, 1) := by decide +kernel
theorem dL_law_274 : decode cL_law 274 = .ok (.iload 7, 2) := by decide +kernel
theorem dL_law_276 : decode cL_law 276 = .ok (.iconst 4, 1) := by decide +kernel
theorem dL_law_277 : decode cL_law 277 = .ok (.ishr, 1) := by decide +kernel
theorem dL_law_278 : decode cL_law 278 = .ok (.bipush 60, 2) := by decide +kernel
theorem dL_law_280 : decode cL_law 280 = .ok (.invokestatic 19, 3) := by decide +kernel
theorem dL_law_283 : decode cL_law 283 = .ok (.iadd, 1) := by decide +kernel
theorem dL_law_284 : decode cL_law 284 = .ok (.istore 13, 2) := by decide +kernel
theorem dL_law_286 : decode cL_law 286 = .ok (.aload_n 1, 1) := by decide +kernel
theorem dL_law_287 : decode cL_law 287 = .ok (.iload 8, 2) := by decide +kernel
theorem dL_law_289 : decode cL_law 289 = .ok (.iload 13, 2) := by decide +kernel
theorem dL_law_291 : decode cL_law 291 = .ok (.invokevirtual 66, 3) := by decide +kernel
theorem dL_law_294 : decode cL_law 294 = .ok (.istore 12, 2) := by decide +kernel
theorem dL_law_296 : decode cL_law 296 = .ok (.iload 4, 2) := by decide +kernel
theorem dL_law_298 : decode cL_law 298 = .ok (.iload 13, 2) := by decide +kernel
theorem dL_law_300 : decode cL_law 300 = .ok (.iadd, 1) := by decide +kernel
theorem dL_law_301 : decode cL_law 301 = .ok (.istore 4, 2) := by decide +kernel
theorem dL_law_303 : decode cL_law 303 = .ok (.goto 144, 3) := by decide +kernel
theorem dL_law_306 : decode cL_law 306 = .ok (.aload_n 1, 1) := by decide +kernel
theorem dL_law_307 : decode cL_law 307 = .ok (.invokevirtual 69, 3) := by decide +kernel
theorem dL_law_310 : decode cL_law 310 = .ok (.lstore 13, 2) := by decide +kernel
theorem dL_law_312 : decode cL_law 312 = .ok (.aload_n 1, 1) := by decide +kernel
theorem dL_law_313 : decode cL_law 313 = .ok (.iload 8, 2) := by decide +kernel
theorem dL_law_315 : decode cL_law 315 = .ok (.invokevirtual 73, 3) := by decide +kernel
theorem dL_law_318 : decode cL_law 318 = .ok (.istore 15, 2) := by decide +kernel
theorem dL_law_320 : decode cL_law 320 = .ok (.aload_n 1, 1) := by decide +kernel
theorem dL_law_321 : decode cL_law 321 = .ok (.bipush 40, 2) := by decide +kernel
theorem dL_law_323 : decode cL_law 323 = .ok (.invokevirtual 76, 3) := by decide +kernel
theorem dL_law_326 : decode cL_law 326 = .ok (.istore 16, 2) := by decide +kernel
theorem dL_law_328 : decode cL_law 328 = .ok (.aload_n 1, 1) := by decide +kernel
theorem dL_law_329 : decode cL_law 329 = .ok (.iload 8, 2) := by decide +kernel
theorem dL_law_331 : decode cL_law 331 = .ok (.invokevirtual 79, 3) := by decide +kernel
theorem dL_law_334 : decode cL_law 334 = .ok (.istore 17, 2) := by decide +kernel
theorem dL_law_336 : decode cL_law 336 = .ok (.aload_n 1, 1) := by decide +kernel
theorem dL_law_337 : decode cL_law 337 = .ok (.invokevirtual 69, 3) := by decide +kernel
theorem dL_law_340 : decode cL_law 340 = .ok (.lload 13, 2) := by decide +kernel
theorem dL_law_342 : decode cL_law 342 = .ok (.lcmp, 1) := by decide +kernel
theorem dL_law_343 : decode cL_law 343 = .ok (.ifCond .ne 67, 3) := by decide +kernel
theorem dL_law_346 : decode cL_law 346 = .ok (.iload 15, 2) := by decide +kernel
theorem dL_law_348 : decode cL_law 348 = .ok (.ifCond .eq 62, 3) := by decide +kernel
theorem dL_law_351 : decode cL_law 351 = .ok (.iload 15, 2) := by decide +kernel
theorem dL_law_353 : decode cL_law 353 = .ok (.sipush 400, 3) := by decide +kernel
theorem dL_law_356 : decode cL_law 356 = .ok (.if_icmp .gt 54, 3) := by decide +kernel
theorem dL_law_359 : decode cL_law 359 = .ok (.iload 16, 2) := by decide +kernel
theorem dL_law_361 : decode cL_law 361 = .ok (.iconst 1, 1) := by decide +kernel
theorem dL_law_362 : decode cL_law 362 = .ok (.if_icmp .lt 48, 3) := by decide +kernel
theorem dL_law_365 : decode cL_law 365 = .ok (.iload 16, 2) := by decide +kernel
theorem dL_law_367 : decode cL_law 367 = .ok (.bipush 41, 2) := by decide +kernel
theorem dL_law_369 : decode cL_law 369 = .ok (.if_icmp .gt 41, 3) := by decide +kernel
theorem dL_law_372 : decode cL_law 372 = .ok (.iload 15, 2) := by decide +kernel
theorem dL_law_374 : decode cL_law 374 = .ok (.ifCond .le 24, 3) := by decide +kernel
theorem dL_law_377 : decode cL_law 377 = .ok (.iload 15, 2) := by decide +kernel
theorem dL_law_379 : decode cL_law 379 = .ok (.bipush 40, 2) := by decide +kernel
theorem dL_law_381 : decode cL_law 381 = .ok (.if_icmp .gt 17, 3) := by decide +kernel
theorem dL_law_384 : decode cL_law 384 = .ok (.iload 15, 2) := by decide +kernel
theorem dL_law_386 : decode cL_law 386 = .ok (.iload_n 3, 1) := by decide +kernel
theorem dL_law_387 : decode cL_law 387 = .ok (.irem, 1) := by decide +kernel
theorem dL_law_388 : decode cL_law 388 = .ok (.ifCond .ne 10, 3) := by decide +kernel
theorem dL_law_391 : decode cL_law 391 = .ok (.iload 16, 2) := by decide +kernel
theorem dL_law_393 : decode cL_law 393 = .ok (.iload 15, 2) := by decide +kernel
theorem dL_law_395 : decode cL_law 395 = .ok (.if_icmp .gt 15, 3) := by decide +kernel
theorem dL_law_398 : decode cL_law 398 = .ok (.iload 17, 2) := by decide +kernel
theorem dL_law_400 : decode cL_law 400 = .ok (.ifCond .lt 10, 3) := by decide +kernel
theorem dL_law_403 : decode cL_law 403 = .ok (.iload 17, 2) := by decide +kernel
theorem dL_law_405 : decode cL_law 405 = .ok (.iload 5, 2) := by decide +kernel
theorem dL_law_407 : decode cL_law 407 = .ok (.if_icmp .lt 5, 3) := by decide +kernel
theorem dL_law_410 : decode cL_law 410 = .ok (.iconst 0, 1) := by decide +kernel
theorem dL_law_411 : decode cL_law 411 = .ok (.ireturn, 1) := by decide +kernel
theorem dL_law_412 : decode cL_law 412 = .ok (.iload 15, 2) := by decide +kernel
theorem dL_law_414 : decode cL_law 414 = .ok (.ifCond .le 33, 3) := by decide +kernel
theorem dL_law_417 : decode cL_law 417 = .ok (.iload 15, 2) := by decide +kernel
theorem dL_law_419 : decode cL_law 419 = .ok (.sipush 200, 3) := by decide +kernel
theorem dL_law_422 : decode cL_law 422 = .ok (.if_icmp .gt 25, 3) := by decide +kernel
theorem dL_law_425 : decode cL_law 425 = .ok (.aload_n 1, 1) := by decide +kernel
theorem dL_law_426 : decode cL_law 426 = .ok (.iload 8, 2) := by decide +kernel
theorem dL_law_428 : decode cL_law 428 = .ok (.iload 15, 2) := by decide +kernel
theorem dL_law_430 : decode cL_law 430 = .ok (.invokevirtual 66, 3) := by decide +kernel
theorem dL_law_433 : decode cL_law 433 = .ok (.iload 10, 2) := by decide +kernel
theorem dL_law_435 : decode cL_law 435 = .ok (.if_icmp .eq 5, 3) := by decide +kernel
theorem dL_law_438 : decode cL_law 438 = .ok (.iconst 0, 1) := by decide +kernel
theorem dL_law_439 : decode cL_law 439 = .ok (.ireturn, 1) := by decide +kernel
theorem dL_law_440 : decode cL_law 440 = .ok (.iload 4, 2) := by decide +kernel
theorem dL_law_442 : decode cL_law 442 = .ok (.iload 15, 2) := by decide +kernel
theorem dL_law_444 : decode cL_law 444 = .ok (.iadd, 1) := by decide +kernel
theorem dL_law_445 : decode cL_law 445 = .ok (.istore 4, 2) := by decide +kernel
theorem dL_law_447 : decode cL_law 447 = .ok (.aload_n 1, 1) := by decide +kernel
theorem dL_law_448 : decode cL_law 448 = .ok (.iload 8, 2) := by decide +kernel
theorem dL_law_450 : decode cL_law 450 = .ok (.iconst 0, 1) := by decide +kernel
theorem dL_law_451 : decode cL_law 451 = .ok (.invokevirtual 51, 3) := by decide +kernel
theorem dL_law_454 : decode cL_law 454 = .ok (.iload 12, 2) := by decide +kernel
theorem dL_law_456 : decode cL_law 456 = .ok (.if_icmp .ne 55, 3) := by decide +kernel
theorem dL_law_459 : decode cL_law 459 = .ok (.iload 12, 2) := by decide +kernel
theorem dL_law_461 : decode cL_law 461 = .ok (.ifCond .lt 50, 3) := by decide +kernel
theorem dL_law_464 : decode cL_law 464 = .ok (.iload 12, 2) := by decide +kernel
theorem dL_law_466 : decode cL_law 466 = .ok (.iload_n 2, 1) := by decide +kernel
theorem dL_law_467 : decode cL_law 467 = .ok (.invokestatic 9, 3) := by decide +kernel
theorem dL_law_470 : decode cL_law 470 = .ok (.if_icmp .ge 41, 3) := by decide +kernel
theorem dL_law_473 : decode cL_law 473 = .ok (.aload_n 1, 1) := by decide +kernel
theorem dL_law_474 : decode cL_law 474 = .ok (.iconst 2, 1) := by decide +kernel
theorem dL_law_475 : decode cL_law 475 = .ok (.invokevirtual 82, 3) := by decide +kernel
theorem dL_law_478 : decode cL_law 478 = .ok (.iload 5, 2) := by decide +kernel
theorem dL_law_480 : decode cL_law 480 = .ok (.if_icmp .ne 31, 3) := by decide +kernel
theorem dL_law_483 : decode cL_law 483 = .ok (.aload_n 1, 1) := by decide +kernel
theorem dL_law_484 : decode cL_law 484 = .ok (.iconst 4, 1) := by decide +kernel
theorem dL_law_485 : decode cL_law 485 = .ok (.invokevirtual 82, 3) := by decide +kernel
theorem dL_law_488 : decode cL_law 488 = .ok (.iload_n 3, 1) := by decide +kernel
theorem dL_law_489 : decode cL_law 489 = .ok (.if_icmp .ne 22, 3) := by decide +kernel
theorem dL_law_492 : decode cL_law 492 = .ok (.aload_n 1, 1) := by decide +kernel
theorem dL_law_493 : decode cL_law 493 = .ok (.iconst 5, 1) := by decide +kernel
theorem dL_law_494 : decode cL_law 494 = .ok (.invokevirtual 82, 3) := by decide +kernel
theorem dL_law_497 : decode cL_law 497 = .ok (.iload 4, 2) := by decide +kernel
theorem dL_law_499 : decode cL_law 499 = .ok (.if_icmp .ne 12, 3) := by decide +kernel
theorem dL_law_502 : decode cL_law 502 = .ok (.aload_n 1, 1) := by decide +kernel
theorem dL_law_503 : decode cL_law 503 = .ok (.iconst 0, 1) := by decide +kernel
theorem dL_law_504 : decode cL_law 504 = .ok (.invokevirtual 82, 3) := by decide +kernel
theorem dL_law_507 : decode cL_law 507 = .ok (.iload_n 2, 1) := by decide +kernel
theorem dL_law_508 : decode cL_law 508 = .ok (.if_icmp .eq 5, 3) := by decide +kernel
theorem dL_law_511 : decode cL_law 511 = .ok (.iconst 0, 1) := by decide +kernel
theorem dL_law_512 : decode cL_law 512 = .ok (.ireturn, 1) := by decide +kernel
theorem dL_law_513 : decode cL_law 513 = .ok (.iconst 0, 1) := by decide +kernel
theorem dL_law_514 : decode cL_law 514 = .ok (.istore 13, 2) := by decide +kernel
theorem dL_law_516 : decode cL_law 516 = .ok (.iload 13, 2) := by decide +kernel
theorem dL_law_518 : decode cL_law 518 = .ok (.iload 5, 2) := by decide +kernel
theorem dL_law_520 : decode cL_law 520 = .ok (.if_icmp .ge 214, 3) := by decide +kernel
theorem dL_law_523 : decode cL_law 523 = .ok (.iconst 0, 1) := by decide +kernel
theorem dL_law_524 : decode cL_law 524 = .ok (.istore 14, 2) := by decide +kernel
theorem dL_law_526 : decode cL_law 526 = .ok (.iconst 0, 1) := by decide +kernel
theorem dL_law_527 : decode cL_law 527 = .ok (.istore 15, 2) := by decide +kernel
theorem dL_law_529 : decode cL_law 529 = .ok (.iconst 0, 1) := by decide +kernel
theorem dL_law_530 : decode cL_law 530 = .ok (.istore 16, 2) := by decide +kernel
theorem dL_law_532 : decode cL_law 532 = .ok (.iload 16, 2) := by decide +kernel
theorem dL_law_534 : decode cL_law 534 = .ok (.iload_n 2, 1) := by decide +kernel
theorem dL_law_535 : decode cL_law 535 = .ok (.if_icmp .ge 67, 3) := by decide +kernel
theorem dL_law_538 : decode cL_law 538 = .ok (.iload 14, 2) := by decide +kernel
theorem dL_law_540 : decode cL_law 540 = .ok (.iconst 1, 1) := by decide +kernel
theorem dL_law_541 : decode cL_law 541 = .ok (.aload_n 1, 1) := by decide +kernel
theorem dL_law_542 : decode cL_law 542 = .ok (.iload 13, 2) := by decide +kernel
theorem dL_law_544 : decode cL_law 544 = .ok (.iload 16, 2) := by decide +kernel
theorem dL_law_546 : decode cL_law 546 = .ok (.invokevirtual 85, 3) := by decide +kernel
theorem dL_law_549 : decode cL_law 549 = .ok (.ishl, 1) := by decide +kernel
theorem dL_law_550 : decode cL_law 550 = .ok (.ior, 1) := by decide +kernel
theorem dL_law_551 : decode cL_law 551 = .ok (.istore 14, 2) := by decide +kernel
theorem dL_law_553 : decode cL_law 553 = .ok (.iload 15, 2) := by decide +kernel
theorem dL_law_555 : decode cL_law 555 = .ok (.aload_n 1, 1) := by decide +kernel
theorem dL_law_556 : decode cL_law 556 = .ok (.iload 13, 2) := by decide +kernel
theorem dL_law_558 : decode cL_law 558 = .ok (.iload 16, 2) := by decide +kernel
theorem dL_law_560 : decode cL_law 560 = .ok (.invokevirtual 88, 3) := by decide +kernel
theorem dL_law_563 : decode cL_law 563 = .ok (.iconst 1, 1) := by decide +kernel
theorem dL_law_564 : decode cL_law 564 = .ok (.if_icmp .ne 7, 3) := by decide +kernel
theorem dL_law_567 : decode cL_law 567 = .ok (.iconst 1, 1) := by decide +kernel
theorem dL_law_568 : decode cL_law 568 = .ok (.goto 4, 3) := by decide +kernel
theorem dL_law_571 : decode cL_law 571 = .ok (.iconst 0, 1) := by decide +kernel
theorem dL_law_572 : decode cL_law 572 = .ok (.iadd, 1) := by decide +kernel
theorem dL_law_573 : decode cL_law 573 = .ok (.istore 15, 2) := by decide +kernel
theorem dL_law_575 : decode cL_law 575 = .ok (.aload_n 1, 1) := by decide +kernel
theorem dL_law_576 : decode cL_law 576 = .ok (.iload 13, 2) := by decide +kernel
theorem dL_law_578 : decode cL_law 578 = .ok (.iconst 5, 1) := by decide +kernel
theorem dL_law_579 : decode cL_law 579 = .ok (.invokevirtual 51, 3) := by decide +kernel
theorem dL_law_582 : decode cL_law 582 = .ok (.aload_n 1, 1) := by decide +kernel
theorem dL_law_583 : decode cL_law 583 = .ok (.iload 13, 2) := by decide +kernel
theorem dL_law_585 : decode cL_law 585 = .ok (.iload 16, 2) := by decide +kernel
theorem dL_law_587 : decode cL_law 587 = .ok (.invokevirtual 88, 3) := by decide +kernel
theorem dL_law_590 : decode cL_law 590 = .ok (.irem, 1) := by decide +kernel
theorem dL_law_591 : decode cL_law 591 = .ok (.ifCond .eq 5, 3) := by decide +kernel
theorem dL_law_594 : decode cL_law 594 = .ok (.iconst 0, 1) := by decide +kernel
theorem dL_law_595 : decode cL_law 595 = .ok (.ireturn, 1) := by decide +kernel
theorem dL_law_596 : decode cL_law 596 = .ok (.iinc 16 1, 3) := by decide +kernel
theorem dL_law_599 : decode cL_law 599 = .ok (.goto (-67), 3) := by decide +kernel
theorem dL_law_602 : decode cL_law 602 = .ok (.iload 14, 2) := by decide +kernel
theorem dL_law_604 : decode cL_law 604 = .ok (.iconst 1, 1) := by decide +kernel
theorem dL_law_605 : decode cL_law 605 = .ok (.iload_n 2, 1) := by decide +kernel
theorem dL_law_606 : decode cL_law 606 = .ok (.ishl, 1) := by decide +kernel
theorem dL_law_607 : decode cL_law 607 = .ok (.iconst 1, 1) := by decide +kernel
theorem dL_law_608 : decode cL_law 608 = .ok (.isub, 1) := by decide +kernel
theorem dL_law_609 : decode cL_law 609 = .ok (.if_icmp .ne 117, 3) := by decide +kernel
theorem dL_law_612 : decode cL_law 612 = .ok (.iload 15, 2) := by decide +kernel
theorem dL_law_614 : decode cL_law 614 = .ok (.aload_n 1, 1) := by decide +kernel
theorem dL_law_615 : decode cL_law 615 = .ok (.iload 13, 2) := by decide +kernel
theorem dL_law_617 : decode cL_law 617 = .ok (.bipush 6, 2) := by decide +kernel
theorem dL_law_619 : decode cL_law 619 = .ok (.invokevirtual 51, 3) := by decide +kernel
theorem dL_law_622 : decode cL_law 622 = .ok (.if_icmp .ne 104, 3) := by decide +kernel
theorem dL_law_625 : decode cL_law 625 = .ok (.aload_n 1, 1) := by decide +kernel
theorem dL_law_626 : decode cL_law 626 = .ok (.iload 13, 2) := by decide +kernel
theorem dL_law_628 : decode cL_law 628 = .ok (.aload_n 1, 1) := by decide +kernel
theorem dL_law_629 : decode cL_law 629 = .ok (.iload 13, 2) := by decide +kernel
theorem dL_law_631 : decode cL_law 631 = .ok (.bipush 7, 2) := by decide +kernel
theorem dL_law_633 : decode cL_law 633 = .ok (.invokevirtual 51, 3) := by decide +kernel
theorem dL_law_636 : decode cL_law 636 = .ok (.invokevirtual 85, 3) := by decide +kernel
theorem dL_law_639 : decode cL_law 639 = .ok (.ifCond .ne 87, 3) := by decide +kernel
theorem dL_law_642 : decode cL_law 642 = .ok (.aload_n 1, 1) := by decide +kernel
theorem dL_law_643 : decode cL_law 643 = .ok (.iload 13, 2) := by decide +kernel
theorem dL_law_645 : decode cL_law 645 = .ok (.iload 13, 2) := by decide +kernel
theorem dL_law_647 : decode cL_law 647 = .ok (.invokevirtual 91, 3) := by decide +kernel
theorem dL_law_650 : decode cL_law 650 = .ok (.ifCond .ne 76, 3) := by decide +kernel
theorem dL_law_653 : decode cL_law 653 = .ok (.aload_n 1, 1) := by decide +kernel
theorem dL_law_654 : decode cL_law 654 = .ok (.iload 13, 2) := by decide +kernel
theorem dL_law_656 : decode cL_law 656 = .ok (.iconst 2, 1) := by decide +kernel
theorem dL_law_657 : decode cL_law 657 = .ok (.invokevirtual 51, 3) := by decide +kernel
theorem dL_law_660 : decode cL_law 660 = .ok (.aload_n 1, 1) := by decide +kernel
theorem dL_law_661 : decode cL_law 661 = .ok (.iload 13, 2) := by decide +kernel
theorem dL_law_663 : decode cL_law 663 = .ok (.iconst 1, 1) := by decide +kernel
theorem dL_law_664 : decode cL_law 664 = .ok (.invokevirtual 51, 3) := by decide +kernel
theorem dL_law_667 : decode cL_law 667 = .ok (.iconst 2, 1) := by decide +kernel
theorem dL_law_668 : decode cL_law 668 = .ok (.irem, 1) := by decide +kernel
theorem dL_law_669 : decode cL_law 669 = .ok (.if_icmp .ne 57, 3) := by decide +kernel
theorem dL_law_672 : decode cL_law 672 = .ok (.iload_n 2, 1) := by decide +kernel
theorem dL_law_673 : decode cL_law 673 = .ok (.aload_n 1, 1) := by decide +kernel
theorem dL_law_674 : decode cL_law 674 = .ok (.iload 13, 2) := by decide +kernel
theorem dL_law_676 : decode cL_law 676 = .ok (.iconst 3, 1) := by decide +kernel
theorem dL_law_677 : decode cL_law 677 = .ok (.invokevirtual 51, 3) := by decide +kernel
theorem dL_law_680 : decode cL_law 680 = .ok (.isub, 1) := by decide +kernel
theorem dL_law_681 : decode cL_law 681 = .ok (.iconst 2, 1) := by decide +kernel
theorem dL_law_682 : decode cL_law 682 = .ok (.irem, 1) := by decide +kernel
theorem dL_law_683 : decode cL_law 683 = .ok (.aload_n 1, 1) := by decide +kernel
theorem dL_law_684 : decode cL_law 684 = .ok (.iload 13, 2) := by decide +kernel
theorem dL_law_686 : decode cL_law 686 = .ok (.iconst 2, 1) := by decide +kernel
theorem dL_law_687 : decode cL_law 687 = .ok (.invokevirtual 51, 3) := by decide +kernel
theorem dL_law_690 : decode cL_law 690 = .ok (.if_icmp .ne 36, 3) := by decide +kernel
theorem dL_law_693 : decode cL_law 693 = .ok (.aload_n 1, 1) := by decide +kernel
theorem dL_law_694 : decode cL_law 694 = .ok (.iload 13, 2) := by decide +kernel
theorem dL_law_696 : decode cL_law 696 = .ok (.iconst 0, 1) := by decide +kernel
theorem dL_law_697 : decode cL_law 697 = .ok (.invokevirtual 51, 3) := by decide +kernel
theorem dL_law_700 : decode cL_law 700 = .ok (.ifCond .ne 7, 3) := by decide +kernel
theorem dL_law_703 : decode cL_law 703 = .ok (.iconst 1, 1) := by decide +kernel
theorem dL_law_704 : decode cL_law 704 = .ok (.goto 4, 3) := by decide +kernel
theorem dL_law_707 : decode cL_law 707 = .ok (.iconst 0, 1) := by decide +kernel
theorem dL_law_708 : decode cL_law 708 = .ok (.aload_n 1, 1) := by decide +kernel
theorem dL_law_709 : decode cL_law 709 = .ok (.iload 13, 2) := by decide +kernel
theorem dL_law_711 : decode cL_law 711 = .ok (.iconst 1, 1) := by decide +kernel
theorem dL_law_712 : decode cL_law 712 = .ok (.invokevirtual 51, 3) := by decide +kernel
theorem dL_law_715 : decode cL_law 715 = .ok (.ifCond .ne 7, 3) := by decide +kernel
theorem dL_law_718 : decode cL_law 718 = .ok (.iconst 1, 1) := by decide +kernel
theorem dL_law_719 : decode cL_law 719 = .ok (.goto 4, 3) := by decide +kernel
theorem dL_law_722 : decode cL_law 722 = .ok (.iconst 0, 1) := by decide +kernel
theorem dL_law_723 : decode cL_law 723 = .ok (.if_icmp .eq 5, 3) := by decide +kernel
theorem dL_law_726 : decode cL_law 726 = .ok (.iconst 0, 1) := by decide +kernel
theorem dL_law_727 : decode cL_law 727 = .ok (.ireturn, 1) := by decide +kernel
theorem dL_law_728 : decode cL_law 728 = .ok (.iinc 13 1, 3) := by decide +kernel
theorem dL_law_731 : decode cL_law 731 = .ok (.goto (-215), 3) := by decide +kernel
theorem dL_law_734 : decode cL_law 734 = .ok (.iinc 6 1, 3) := by decide +kernel
theorem dL_law_737 : decode cL_law 737 = .ok (.goto (-711), 3) := by decide +kernel
theorem dL_law_740 : decode cL_law 740 = .ok (.iconst 1, 1) := by decide +kernel
theorem dL_law_741 : decode cL_law 741 = .ok (.ireturn, 1) := by decide +kernel
