theorem dX1_init_0 : decode cX1_init 0 = .ok (.aload_n 0, 1) := by decide +kernel
theorem dX1_init_1 : decode cX1_init 1 = .ok (.invokespecial 1, 3) := by decide +kernel
theorem dX1_init_4 : decode cX1_init 4 = .ok (.aload_n 0, 1) := by decide +kernel
theorem dX1_init_5 : decode cX1_init 5 = .ok (.new 7, 3) := by decide +kernel
theorem dX1_init_8 : decode cX1_init 8 = .ok (.dup, 1) := by decide +kernel
theorem dX1_init_9 : decode cX1_init 9 = .ok (.invokespecial 9, 3) := by decide +kernel
theorem dX1_init_12 : decode cX1_init 12 = .ok (.putfield 10, 3) := by decide +kernel
theorem dX1_init_15 : decode cX1_init 15 = .ok (.aload_n 0, 1) := by decide +kernel
theorem dX1_init_16 : decode cX1_init 16 = .ok (.iload_n 1, 1) := by decide +kernel
theorem dX1_init_17 : decode cX1_init 17 = .ok (.putfield 16, 3) := by decide +kernel
theorem dX1_init_20 : decode cX1_init 20 = .ok (.aload_n 0, 1) := by decide +kernel
theorem dX1_init_21 : decode cX1_init 21 = .ok (.iload_n 2, 1) := by decide +kernel
theorem dX1_init_22 : decode cX1_init 22 = .ok (.putfield 20, 3) := by decide +kernel
theorem dX1_init_25 : decode cX1_init 25 = .ok (.aload_n 0, 1) := by decide +kernel
theorem dX1_init_26 : decode cX1_init 26 = .ok (.iload_n 3, 1) := by decide +kernel
theorem dX1_init_27 : decode cX1_init 27 = .ok (.putfield 23, 3) := by decide +kernel
theorem dX1_init_30 : decode cX1_init 30 = .ok (.return_, 1) := by decide +kernel
theorem dX1_reaches_0 : decode cX1_reaches 0 = .ok (.aload_n 0, 1) := by decide +kernel
theorem dX1_reaches_1 : decode cX1_reaches 1 = .ok (.aload_n 1, 1) := by decide +kernel
theorem dX1_reaches_2 : decode cX1_reaches 2 = .ok (.getfield 26, 3) := by decide +kernel
theorem dX1_reaches_5 : decode cX1_reaches 5 = .ok (.invokevirtual 31, 3) := by decide +kernel
theorem dX1_reaches_8 : decode cX1_reaches 8 = .ok (.ifCond .eq 18, 3) := by decide +kernel
theorem dX1_reaches_11 : decode cX1_reaches 11 = .ok (.aload_n 0, 1) := by decide +kernel
theorem dX1_reaches_12 : decode cX1_reaches 12 = .ok (.aload_n 1, 1) := by decide +kernel
theorem dX1_reaches_13 : decode cX1_reaches 13 = .ok (.getfield 35, 3) := by decide +kernel
theorem dX1_reaches_16 : decode cX1_reaches 16 = .ok (.invokevirtual 31, 3) := by decide +kernel
theorem dX1_reaches_19 : decode cX1_reaches 19 = .ok (.ifCond .eq 7, 3) := by decide +kernel
theorem dX1_reaches_22 : decode cX1_reaches 22 = .ok (.iconst 1, 1) := by decide +kernel
theorem dX1_reaches_23 : decode cX1_reaches 23 = .ok (.goto 4, 3) := by decide +kernel
theorem dX1_reaches_26 : decode cX1_reaches 26 = .ok (.iconst 0, 1) := by decide +kernel
theorem dX1_reaches_27 : decode cX1_reaches 27 = .ok (.ireturn, 1) := by decide +kernel
theorem dX1_within_0 : decode cX1_within 0 = .ok (.iload_n 1, 1) := by decide +kernel
theorem dX1_within_1 : decode cX1_within 1 = .ok (.aload_n 0, 1) := by decide +kernel
theorem dX1_within_2 : decode cX1_within 2 = .ok (.getfield 38, 3) := by decide +kernel
theorem dX1_within_5 : decode cX1_within 5 = .ok (.if_icmp .lt 15, 3) := by decide +kernel
theorem dX1_within_8 : decode cX1_within 8 = .ok (.iload_n 1, 1) := by decide +kernel
theorem dX1_within_9 : decode cX1_within 9 = .ok (.aload_n 0, 1) := by decide +kernel
theorem dX1_within_10 : decode cX1_within 10 = .ok (.getfield 23, 3) := by decide +kernel
theorem dX1_within_13 : decode cX1_within 13 = .ok (.if_icmp .gt 7, 3) := by decide +kernel
theorem dX1_within_16 : decode cX1_within 16 = .ok (.iconst 1, 1) := by decide +kernel
theorem dX1_within_17 : decode cX1_within 17 = .ok (.goto 4, 3) := by decide +kernel
theorem dX1_within_20 : decode cX1_within 20 = .ok (.iconst 0, 1) := by decide +kernel
theorem dX1_within_21 : decode cX1_within 21 = .ok (.ireturn, 1) := by decide +kernel
theorem dX2_init_0 : decode cX2_init 0 = .ok (.aload_n 0, 1) := by decide +kernel
theorem dX2_init_1 : decode cX2_init 1 = .ok (.invokespecial 3, 3) := by decide +kernel
theorem dX2_init_4 : decode cX2_init 4 = .ok (.aload_n 0, 1) := by decide +kernel
theorem dX2_init_5 : decode cX2_init 5 = .ok (.iconst (-1), 1) := by decide +kernel
theorem dX2_init_6 : decode cX2_init 6 = .ok (.putfield 9, 3) := by decide +kernel
theorem dX2_init_9 : decode cX2_init 9 = .ok (.aload_n 0, 1) := by decide +kernel
theorem dX2_init_10 : decode cX2_init 10 = .ok (.iload_n 1, 1) := by decide +kernel
theorem dX2_init_11 : decode cX2_init 11 = .ok (.putfield 15, 3) := by decide +kernel
theorem dX2_init_14 : decode cX2_init 14 = .ok (.aload_n 0, 1) := by decide +kernel
theorem dX2_init_15 : decode cX2_init 15 = .ok (.iload_n 2, 1) := by decide +kernel
theorem dX2_init_16 : decode cX2_init 16 = .ok (.putfield 18, 3) := by decide +kernel
theorem dX2_init_19 : decode cX2_init 19 = .ok (.aload_n 0, 1) := by decide +kernel
theorem dX2_init_20 : decode cX2_init 20 = .ok (.iload_n 3, 1) := by decide +kernel
theorem dX2_init_21 : decode cX2_init 21 = .ok (.putfield 21, 3) := by decide +kernel
theorem dX2_init_24 : decode cX2_init 24 = .ok (.aload_n 0, 1) := by decide +kernel
theorem dX2_init_25 : decode cX2_init 25 = .ok (.iload 4, 2) := by decide +kernel
theorem dX2_init_27 : decode cX2_init 27 = .ok (.putfield 24, 3) := by decide +kernel
theorem dX2_init_30 : decode cX2_init 30 = .ok (.return_, 1) := by decide +kernel
theorem dX3_init_0 : decode cX3_init 0 = .ok (.aload_n 0, 1) := by decide +kernel
theorem dX3_init_1 : decode cX3_init 1 = .ok (.invokespecial 3, 3) := by decide +kernel
theorem dX3_init_4 : decode cX3_init 4 = .ok (.aload_n 0, 1) := by decide +kernel
theorem dX3_init_5 : decode cX3_init 5 = .ok (.sipush 448, 3) := by decide +kernel
theorem dX3_init_8 : decode cX3_init 8 = .ok (.newarray .long, 2) := by decide +kernel
theorem dX3_init_10 : decode cX3_init 10 = .ok (.putfield 11, 3) := by decide +kernel
theorem dX3_init_13 : decode cX3_init 13 = .ok (.aload_n 0, 1) := by decide +kernel
theorem dX3_init_14 : decode cX3_init 14 = .ok (.sipush 448, 3) := by decide +kernel
theorem dX3_init_17 : decode cX3_init 17 = .ok (.newarray .int, 2) := by decide +kernel
theorem dX3_init_19 : decode cX3_init 19 = .ok (.putfield 15, 3) := by decide +kernel
theorem dX3_init_22 : decode cX3_init 22 = .ok (.return_, 1) := by decide +kernel
theorem dX3_cell_0 : decode cX3_cell 0 = .ok (.iload_n 0, 1) := by decide +kernel
theorem dX3_cell_1 : decode cX3_cell 1 = .ok (.ifCond .lt 28, 3) := by decide +kernel
theorem dX3_cell_4 : decode cX3_cell 4 = .ok (.iload_n 0, 1) := by decide +kernel
theorem dX3_cell_5 : decode cX3_cell 5 = .ok (.bipush 64, 2) := by decide +kernel
theorem dX3_cell_7 : decode cX3_cell 7 = .ok (.if_icmp .ge 22, 3) := by decide +kernel
theorem dX3_cell_10 : decode cX3_cell 10 = .ok (.iload_n 1, 1) := by decide +kernel
theorem dX3_cell_11 : decode cX3_cell 11 = .ok (.ifCond .lt 18, 3) := by decide +kernel
theorem dX3_cell_14 : decode cX3_cell 14 = .ok (.iload_n 1, 1) := by decide +kernel
theorem dX3_cell_15 : decode cX3_cell 15 = .ok (.bipush 7, 2) := by decide +kernel
theorem dX3_cell_17 : decode cX3_cell 17 = .ok (.if_icmp .ge 12, 3) := by decide +kernel
theorem dX3_cell_20 : decode cX3_cell 20 = .ok (.iload_n 0, 1) := by decide +kernel
theorem dX3_cell_21 : decode cX3_cell 21 = .ok (.bipush 7, 2) := by decide +kernel
theorem dX3_cell_23 : decode cX3_cell 23 = .ok (.imul, 1) := by decide +kernel
theorem dX3_cell_24 : decode cX3_cell 24 = .ok (.iload_n 1, 1) := by decide +kernel
theorem dX3_cell_25 : decode cX3_cell 25 = .ok (.iadd, 1) := by decide +kernel
theorem dX3_cell_26 : decode cX3_cell 26 = .ok (.goto 4, 3) := by decide +kernel
theorem dX3_cell_29 : decode cX3_cell 29 = .ok (.iconst 0, 1) := by decide +kernel
theorem dX3_cell_30 : decode cX3_cell 30 = .ok (.ireturn, 1) := by decide +kernel
theorem dX3_costOf_0 : decode cX3_costOf 0 = .ok (.aload_n 0, 1) := by decide +kernel
theorem dX3_costOf_1 : decode cX3_costOf 1 = .ok (.getfield 11, 3) := by decide +kernel
theorem dX3_costOf_4 : decode cX3_costOf 4 = .ok (.iload_n 1, 1) := by decide +kernel
theorem dX3_costOf_5 : decode cX3_costOf 5 = .ok (.bipush 6, 2) := by decide +kernel
theorem dX3_costOf_7 : decode cX3_costOf 7 = .ok (.invokestatic 19, 3) := by decide +kernel
theorem dX3_costOf_10 : decode cX3_costOf 10 = .ok (.laload, 1) := by decide +kernel
theorem dX3_costOf_11 : decode cX3_costOf 11 = .ok (.lreturn, 1) := by decide +kernel
theorem dX3_firstOf_0 : decode cX3_firstOf 0 = .ok (.aload_n 0, 1) := by decide +kernel
theorem dX3_firstOf_1 : decode cX3_firstOf 1 = .ok (.getfield 15, 3) := by decide +kernel
theorem dX3_firstOf_4 : decode cX3_firstOf 4 = .ok (.iload_n 1, 1) := by decide +kernel
theorem dX3_firstOf_5 : decode cX3_firstOf 5 = .ok (.iload_n 2, 1) := by decide +kernel
theorem dX3_firstOf_6 : decode cX3_firstOf 6 = .ok (.invokestatic 19, 3) := by decide +kernel
theorem dX3_firstOf_9 : decode cX3_firstOf 9 = .ok (.iaload, 1) := by decide +kernel
theorem dX3_firstOf_10 : decode cX3_firstOf 10 = .ok (.ireturn, 1) := by decide +kernel
theorem dX3_weigh_0 : decode cX3_weigh 0 = .ok (.aload_n 0, 1) := by decide +kernel
theorem dX3_weigh_1 : decode cX3_weigh 1 = .ok (.aload_n 2, 1) := by decide +kernel
theorem dX3_weigh_2 : decode cX3_weigh 2 = .ok (.getfield 23, 3) := by decide +kernel
theorem dX3_weigh_5 : decode cX3_weigh 5 = .ok (.putfield 29, 3) := by decide +kernel
theorem dX3_weigh_8 : decode cX3_weigh 8 = .ok (.aload_n 0, 1) := by decide +kernel
theorem dX3_weigh_9 : decode cX3_weigh 9 = .ok (.aload_n 2, 1) := by decide +kernel
theorem dX3_weigh_10 : decode cX3_weigh 10 = .ok (.getfield 30, 3) := by decide +kernel
theorem dX3_weigh_13 : decode cX3_weigh 13 = .ok (.putfield 33, 3) := by decide +kernel
theorem dX3_weigh_16 : decode cX3_weigh 16 = .ok (.aload_n 0, 1) := by decide +kernel
theorem dX3_weigh_17 : decode cX3_weigh 17 = .ok (.iload 4, 2) := by decide +kernel
theorem dX3_weigh_19 : decode cX3_weigh 19 = .ok (.putfield 34, 3) := by decide +kernel
theorem dX3_weigh_22 : decode cX3_weigh 22 = .ok (.aload_n 0, 1) := by decide +kernel
theorem dX3_weigh_23 : decode cX3_weigh 23 = .ok (.aload_n 1, 1) := by decide +kernel
theorem dX3_weigh_24 : decode cX3_weigh 24 = .ok (.iload_n 3, 1) := by decide +kernel
theorem dX3_weigh_25 : decode cX3_weigh 25 = .ok (.invokevirtual 37, 3) := by decide +kernel
theorem dX3_weigh_28 : decode cX3_weigh 28 = .ok (.putfield 43, 3) := by decide +kernel
theorem dX3_weigh_31 : decode cX3_weigh 31 = .ok (.aload_n 1, 1) := by decide +kernel
theorem dX3_weigh_32 : decode cX3_weigh 32 = .ok (.iload_n 3, 1) := by decide +kernel
theorem dX3_weigh_33 : decode cX3_weigh 33 = .ok (.invokevirtual 46, 3) := by decide +kernel
theorem dX3_weigh_36 : decode cX3_weigh 36 = .ok (.istore 5, 2) := by decide +kernel
theorem dX3_weigh_38 : decode cX3_weigh 38 = .ok (.iconst 1, 1) := by decide +kernel
theorem dX3_weigh_39 : decode cX3_weigh 39 = .ok (.istore 6, 2) := by decide +kernel
theorem dX3_weigh_41 : decode cX3_weigh 41 = .ok (.iload 6, 2) := by decide +kernel
theorem dX3_weigh_43 : decode cX3_weigh 43 = .ok (.bipush 64, 2) := by decide +kernel
theorem dX3_weigh_45 : decode cX3_weigh 45 = .ok (.if_icmp .ge 81, 3) := by decide +kernel
theorem dX3_weigh_48 : decode cX3_weigh 48 = .ok (.iload 6, 2) := by decide +kernel
theorem dX3_weigh_50 : decode cX3_weigh 50 = .ok (.iload 5, 2) := by decide +kernel
theorem dX3_weigh_52 : decode cX3_weigh 52 = .ok (.iconst (-1), 1) := by decide +kernel
theorem dX3_weigh_53 : decode cX3_weigh 53 = .ok (.ixor, 1) := by decide +kernel
theorem dX3_weigh_54 : decode cX3_weigh 54 = .ok (.iand, 1) := by decide +kernel
theorem dX3_weigh_55 : decode cX3_weigh 55 = .ok (.ifCond .ne 65, 3) := by decide +kernel
theorem dX3_weigh_58 : decode cX3_weigh 58 = .ok (.iconst 0, 1) := by decide +kernel
theorem dX3_weigh_59 : decode cX3_weigh 59 = .ok (.istore 7, 2) := by decide +kernel
theorem dX3_weigh_61 : decode cX3_weigh 61 = .ok (.iload 7, 2) := by decide +kernel
theorem dX3_weigh_63 : decode cX3_weigh 63 = .ok (.bipush 6, 2) := by decide +kernel
theorem dX3_weigh_65 : decode cX3_weigh 65 = .ok (.if_icmp .ge 40, 3) := by decide +kernel
theorem dX3_weigh_68 : decode cX3_weigh 68 = .ok (.iload 5, 2) := by decide +kernel
theorem dX3_weigh_70 : decode cX3_weigh 70 = .ok (.iload 7, 2) := by decide +kernel
theorem dX3_weigh_72 : decode cX3_weigh 72 = .ok (.ishr, 1) := by decide +kernel
theorem dX3_weigh_73 : decode cX3_weigh 73 = .ok (.iconst 1, 1) := by decide +kernel
theorem dX3_weigh_74 : decode cX3_weigh 74 = .ok (.iand, 1) := by decide +kernel
theorem dX3_weigh_75 : decode cX3_weigh 75 = .ok (.ifCond .eq 24, 3) := by decide +kernel
theorem dX3_weigh_78 : decode cX3_weigh 78 = .ok (.iload 6, 2) := by decide +kernel
theorem dX3_weigh_80 : decode cX3_weigh 80 = .ok (.iload 7, 2) := by decide +kernel
theorem dX3_weigh_82 : decode cX3_weigh 82 = .ok (.ishr, 1) := by decide +kernel
theorem dX3_weigh_83 : decode cX3_weigh 83 = .ok (.iconst 1, 1) := by decide +kernel
theorem dX3_weigh_84 : decode cX3_weigh 84 = .ok (.iand, 1) := by decide +kernel
theorem dX3_weigh_85 : decode cX3_weigh 85 = .ok (.ifCond .ne 14, 3) := by decide +kernel
theorem dX3_weigh_88 : decode cX3_weigh 88 = .ok (.aload_n 0, 1) := by decide +kernel
theorem dX3_weigh_89 : decode cX3_weigh 89 = .ok (.aload_n 1, 1) := by decide +kernel
theorem dX3_weigh_90 : decode cX3_weigh 90 = .ok (.iload 6, 2) := by decide +kernel
theorem dX3_weigh_92 : decode cX3_weigh 92 = .ok (.iload 7, 2) := by decide +kernel
theorem dX3_weigh_94 : decode cX3_weigh 94 = .ok (.iload 6, 2) := by decide +kernel
theorem dX3_weigh_96 : decode cX3_weigh 96 = .ok (.invokevirtual 49, 3) := by decide +kernel
theorem dX3_weigh_99 : decode cX3_weigh 99 = .ok (.iinc 7 1, 3) := by decide +kernel
theorem dX3_weigh_102 : decode cX3_weigh 102 = .ok (.goto (-41), 3) := by decide +kernel
theorem dX3_weigh_105 : decode cX3_weigh 105 = .ok (.aload_n 0, 1) := by decide +kernel
theorem dX3_weigh_106 : decode cX3_weigh 106 = .ok (.aload_n 1, 1) := by decide +kernel
theorem dX3_weigh_107 : decode cX3_weigh 107 = .ok (.iload 6, 2) := by decide +kernel
theorem dX3_weigh_109 : decode cX3_weigh 109 = .ok (.bipush 6, 2) := by decide +kernel
theorem dX3_weigh_111 : decode cX3_weigh 111 = .ok (.aload_n 0, 1) := by decide +kernel
theorem dX3_weigh_112 : decode cX3_weigh 112 = .ok (.iload 6, 2) := by decide +kernel
theorem dX3_weigh_114 : decode cX3_weigh 114 = .ok (.invokevirtual 53, 3) := by decide +kernel
theorem dX3_weigh_117 : decode cX3_weigh 117 = .ok (.invokevirtual 49, 3) := by decide +kernel
theorem dX3_weigh_120 : decode cX3_weigh 120 = .ok (.iinc 6 1, 3) := by decide +kernel
theorem dX3_weigh_123 : decode cX3_weigh 123 = .ok (.goto (-82), 3) := by decide +kernel
theorem dX3_weigh_126 : decode cX3_weigh 126 = .ok (.return_, 1) := by decide +kernel
theorem dX3_firsts_0 : decode cX3_firsts 0 = .ok (.aload_n 0, 1) := by decide +kernel
theorem dX3_firsts_1 : decode cX3_firsts 1 = .ok (.getfield 43, 3) := by decide +kernel
theorem dX3_firsts_4 : decode cX3_firsts 4 = .ok (.iconst (-1), 1) := by decide +kernel
theorem dX3_firsts_5 : decode cX3_firsts 5 = .ok (.if_icmp .eq 23, 3) := by decide +kernel
theorem dX3_firsts_8 : decode cX3_firsts 8 = .ok (.iload_n 1, 1) := by decide +kernel
theorem dX3_firsts_9 : decode cX3_firsts 9 = .ok (.aload_n 0, 1) := by decide +kernel
theorem dX3_firsts_10 : decode cX3_firsts 10 = .ok (.getfield 43, 3) := by decide +kernel
theorem dX3_firsts_13 : decode cX3_firsts 13 = .ok (.ishr, 1) := by decide +kernel
theorem dX3_firsts_14 : decode cX3_firsts 14 = .ok (.iconst 1, 1) := by decide +kernel
theorem dX3_firsts_15 : decode cX3_firsts 15 = .ok (.iand, 1) := by decide +kernel
theorem dX3_firsts_16 : decode cX3_firsts 16 = .ok (.ifCond .eq 12, 3) := by decide +kernel
theorem dX3_firsts_19 : decode cX3_firsts 19 = .ok (.iconst 1, 1) := by decide +kernel
theorem dX3_firsts_20 : decode cX3_firsts 20 = .ok (.aload_n 0, 1) := by decide +kernel
theorem dX3_firsts_21 : decode cX3_firsts 21 = .ok (.getfield 43, 3) := by decide +kernel
theorem dX3_firsts_24 : decode cX3_firsts 24 = .ok (.ishl, 1) := by decide +kernel
theorem dX3_firsts_25 : decode cX3_firsts 25 = .ok (.goto 4, 3) := by decide +kernel
theorem dX3_firsts_28 : decode cX3_firsts 28 = .ok (.iload_n 1, 1) := by decide +kernel
theorem dX3_firsts_29 : decode cX3_firsts 29 = .ok (.ireturn, 1) := by decide +kernel
theorem dX3_choose_0 : decode cX3_choose 0 = .ok (.iload_n 2, 1) := by decide +kernel
theorem dX3_choose_1 : decode cX3_choose 1 = .ok (.iload_n 3, 1) := by decide +kernel
theorem dX3_choose_2 : decode cX3_choose 2 = .ok (.invokestatic 19, 3) := by decide +kernel
theorem dX3_choose_5 : decode cX3_choose 5 = .ok (.istore 5, 2) := by decide +kernel
theorem dX3_choose_7 : decode cX3_choose 7 = .ok (.aload_n 0, 1) := by decide +kernel
theorem dX3_choose_8 : decode cX3_choose 8 = .ok (.getfield 11, 3) := by decide +kernel
theorem dX3_choose_11 : decode cX3_choose 11 = .ok (.iload 5, 2) := by decide +kernel
theorem dX3_choose_13 : decode cX3_choose 13 = .ok (.ldc2_w 56, 3) := by decide +kernel
theorem dX3_choose_16 : decode cX3_choose 16 = .ok (.lastore, 1) := by decide +kernel
theorem dX3_choose_17 : decode cX3_choose 17 = .ok (.iconst 0, 1) := by decide +kernel
theorem dX3_choose_18 : decode cX3_choose 18 = .ok (.istore 6, 2) := by decide +kernel
theorem dX3_choose_20 : decode cX3_choose 20 = .ok (.iload 6, 2) := by decide +kernel
theorem dX3_choose_22 : decode cX3_choose 22 = .ok (.bipush 6, 2) := by decide +kernel
theorem dX3_choose_24 : decode cX3_choose 24 = .ok (.if_icmp .ge 128, 3) := by decide +kernel
theorem dX3_choose_27 : decode cX3_choose 27 = .ok (.iload 4, 2) := by decide +kernel
theorem dX3_choose_29 : decode cX3_choose 29 = .ok (.iload 6, 2) := by decide +kernel
theorem dX3_choose_31 : decode cX3_choose 31 = .ok (.ishr, 1) := by decide +kernel
theorem dX3_choose_32 : decode cX3_choose 32 = .ok (.iconst 1, 1) := by decide +kernel
theorem dX3_choose_33 : decode cX3_choose 33 = .ok (.iand, 1) := by decide +kernel
theorem dX3_choose_34 : decode cX3_choose 34 = .ok (.ifCond .eq 112, 3) := by decide +kernel
theorem dX3_choose_37 : decode cX3_choose 37 = .ok (.aload_n 0, 1) := by decide +kernel
theorem dX3_choose_38 : decode cX3_choose 38 = .ok (.aload_n 1, 1) := by decide +kernel
theorem dX3_choose_39 : decode cX3_choose 39 = .ok (.iload_n 3, 1) := by decide +kernel
theorem dX3_choose_40 : decode cX3_choose 40 = .ok (.iload 6, 2) := by decide +kernel
theorem dX3_choose_42 : decode cX3_choose 42 = .ok (.invokevirtual 58, 3) := by decide +kernel
theorem dX3_choose_45 : decode cX3_choose 45 = .ok (.istore 7, 2) := by decide +kernel
theorem dX3_choose_47 : decode cX3_choose 47 = .ok (.iload 7, 2) := by decide +kernel
theorem dX3_choose_49 : decode cX3_choose 49 = .ok (.aload_n 0, 1) := by decide +kernel
theorem dX3_choose_50 : decode cX3_choose 50 = .ok (.aload_n 1, 1) := by decide +kernel
theorem dX3_choose_51 : decode cX3_choose 51 = .ok (.iload 6, 2) := by decide +kernel
theorem dX3_choose_53 : decode cX3_choose 53 = .ok (.invokevirtual 62, 3) := by decide +kernel
theorem dX3_choose_56 : decode cX3_choose 56 = .ok (.iadd, 1) := by decide +kernel
theorem dX3_choose_57 : decode cX3_choose 57 = .ok (.istore 8, 2) := by decide +kernel
theorem dX3_choose_59 : decode cX3_choose 59 = .ok (.iload_n 2, 1) := by decide +kernel
theorem dX3_choose_60 : decode cX3_choose 60 = .ok (.iconst 1, 1) := by decide +kernel
theorem dX3_choose_61 : decode cX3_choose 61 = .ok (.iload 6, 2) := by decide +kernel
theorem dX3_choose_63 : decode cX3_choose 63 = .ok (.ishl, 1) := by decide +kernel
theorem dX3_choose_64 : decode cX3_choose 64 = .ok (.iconst (-1), 1) := by decide +kernel
theorem dX3_choose_65 : decode cX3_choose 65 = .ok (.ixor, 1) := by decide +kernel
theorem dX3_choose_66 : decode cX3_choose 66 = .ok (.iand, 1) := by decide +kernel
theorem dX3_choose_67 : decode cX3_choose 67 = .ok (.istore 9, 2) := by decide +kernel
theorem dX3_choose_69 : decode cX3_choose 69 = .ok (.aload_n 1, 1) := by decide +kernel
theorem dX3_choose_70 : decode cX3_choose 70 = .ok (.getfield 66, 3) := by decide +kernel
theorem dX3_choose_73 : decode cX3_choose 73 = .ok (.iload 6, 2) := by decide +kernel
theorem dX3_choose_75 : decode cX3_choose 75 = .ok (.iaload, 1) := by decide +kernel
theorem dX3_choose_76 : decode cX3_choose 76 = .ok (.i2l, 1) := by decide +kernel
theorem dX3_choose_77 : decode cX3_choose 77 = .ok (.iload 7, 2) := by decide +kernel
theorem dX3_choose_79 : decode cX3_choose 79 = .ok (.i2l, 1) := by decide +kernel
theorem dX3_choose_80 : decode cX3_choose 80 = .ok (.lmul, 1) := by decide +kernel
theorem dX3_choose_81 : decode cX3_choose 81 = .ok (.iload 8, 2) := by decide +kernel
theorem dX3_choose_83 : decode cX3_choose 83 = .ok (.i2l, 1) := by decide +kernel
theorem dX3_choose_84 : decode cX3_choose 84 = .ok (.ladd, 1) := by decide +kernel
theorem dX3_choose_85 : decode cX3_choose 85 = .ok (.iload 8, 2) := by decide +kernel
theorem dX3_choose_87 : decode cX3_choose 87 = .ok (.iconst 3, 1) := by decide +kernel
theorem dX3_choose_88 : decode cX3_choose 88 = .ok (.iadd, 1) := by decide +kernel
theorem dX3_choose_89 : decode cX3_choose 89 = .ok (.i2l, 1) := by decide +kernel
theorem dX3_choose_90 : decode cX3_choose 90 = .ok (.aload_n 1, 1) := by decide +kernel
theorem dX3_choose_91 : decode cX3_choose 91 = .ok (.getfield 69, 3) := by decide +kernel
theorem dX3_choose_94 : decode cX3_choose 94 = .ok (.iload 9, 2) := by decide +kernel
theorem dX3_choose_96 : decode cX3_choose 96 = .ok (.iaload, 1) := by decide +kernel
theorem dX3_choose_97 : decode cX3_choose 97 = .ok (.i2l, 1) := by decide +kernel
theorem dX3_choose_98 : decode cX3_choose 98 = .ok (.lmul, 1) := by decide +kernel
theorem dX3_choose_99 : decode cX3_choose 99 = .ok (.ladd, 1) := by decide +kernel
theorem dX3_choose_100 : decode cX3_choose 100 = .ok (.aload_n 0, 1) := by decide +kernel
theorem dX3_choose_101 : decode cX3_choose 101 = .ok (.getfield 11, 3) := by decide +kernel
theorem dX3_choose_104 : decode cX3_choose 104 = .ok (.iload 9, 2) := by decide +kernel
theorem dX3_choose_106 : decode cX3_choose 106 = .ok (.iload 6, 2) := by decide +kernel
theorem dX3_choose_108 : decode cX3_choose 108 = .ok (.invokestatic 19, 3) := by decide +kernel
theorem dX3_choose_111 : decode cX3_choose 111 = .ok (.laload, 1) := by decide +kernel
theorem dX3_choose_112 : decode cX3_choose 112 = .ok (.ladd, 1) := by decide +kernel
theorem dX3_choose_113 : decode cX3_choose 113 = .ok (.lstore 10, 2) := by decide +kernel
theorem dX3_choose_115 : decode cX3_choose 115 = .ok (.lload 10, 2) := by decide +kernel
theorem dX3_choose_117 : decode cX3_choose 117 = .ok (.aload_n 0, 1) := by decide +kernel
theorem dX3_choose_118 : decode cX3_choose 118 = .ok (.getfield 11, 3) := by decide +kernel
theorem dX3_choose_121 : decode cX3_choose 121 = .ok (.iload 5, 2) := by decide +kernel
theorem dX3_choose_123 : decode cX3_choose 123 = .ok (.laload, 1) := by decide +kernel
theorem dX3_choose_124 : decode cX3_choose 124 = .ok (.lcmp, 1) := by decide +kernel
theorem dX3_choose_125 : decode cX3_choose 125 = .ok (.ifCond .ge 21, 3) := by decide +kernel
theorem dX3_choose_128 : decode cX3_choose 128 = .ok (.aload_n 0, 1) := by decide +kernel
theorem dX3_choose_129 : decode cX3_choose 129 = .ok (.getfield 11, 3) := by decide +kernel
theorem dX3_choose_132 : decode cX3_choose 132 = .ok (.iload 5, 2) := by decide +kernel
theorem dX3_choose_134 : decode cX3_choose 134 = .ok (.lload 10, 2) := by decide +kernel
theorem dX3_choose_136 : decode cX3_choose 136 = .ok (.lastore, 1) := by decide +kernel
theorem dX3_choose_137 : decode cX3_choose 137 = .ok (.aload_n 0, 1) := by decide +kernel
theorem dX3_choose_138 : decode cX3_choose 138 = .ok (.getfield 15, 3) := by decide +kernel
theorem dX3_choose_141 : decode cX3_choose 141 = .ok (.iload 5, 2) := by decide +kernel
theorem dX3_choose_143 : decode cX3_choose 143 = .ok (.iload 6, 2) := by decide +kernel
theorem dX3_choose_145 : decode cX3_choose 145 = .ok (.iastore, 1) := by decide +kernel
theorem dX3_choose_146 : decode cX3_choose 146 = .ok (.iinc 6 1, 3) := by decide +kernel
theorem dX3_choose_149 : decode cX3_choose 149 = .ok (.goto (-129), 3) := by decide +kernel
theorem dX3_choose_152 : decode cX3_choose 152 = .ok (.return_, 1) := by decide +kernel
theorem dX3_secondsTo_0 : decode cX3_secondsTo 0 = .ok (.iload_n 2, 1) := by decide +kernel
theorem dX3_secondsTo_1 : decode cX3_secondsTo 1 = .ok (.ifCond .lt 31, 3) := by decide +kernel
theorem dX3_secondsTo_4 : decode cX3_secondsTo 4 = .ok (.iload_n 2, 1) := by decide +kernel
theorem dX3_secondsTo_5 : decode cX3_secondsTo 5 = .ok (.bipush 6, 2) := by decide +kernel
theorem dX3_secondsTo_7 : decode cX3_secondsTo 7 = .ok (.if_icmp .ge 25, 3) := by decide +kernel
theorem dX3_secondsTo_10 : decode cX3_secondsTo 10 = .ok (.aload_n 0, 1) := by decide +kernel
theorem dX3_secondsTo_11 : decode cX3_secondsTo 11 = .ok (.getfield 29, 3) := by decide +kernel
theorem dX3_secondsTo_14 : decode cX3_secondsTo 14 = .ok (.aload_n 1, 1) := by decide +kernel
theorem dX3_secondsTo_15 : decode cX3_secondsTo 15 = .ok (.getfield 72, 3) := by decide +kernel
theorem dX3_secondsTo_18 : decode cX3_secondsTo 18 = .ok (.iload_n 2, 1) := by decide +kernel
theorem dX3_secondsTo_19 : decode cX3_secondsTo 19 = .ok (.iaload, 1) := by decide +kernel
theorem dX3_secondsTo_20 : decode cX3_secondsTo 20 = .ok (.aload_n 1, 1) := by decide +kernel
theorem dX3_secondsTo_21 : decode cX3_secondsTo 21 = .ok (.getfield 75, 3) := by decide +kernel
theorem dX3_secondsTo_24 : decode cX3_secondsTo 24 = .ok (.iload_n 3, 1) := by decide +kernel
theorem dX3_secondsTo_25 : decode cX3_secondsTo 25 = .ok (.iaload, 1) := by decide +kernel
theorem dX3_secondsTo_26 : decode cX3_secondsTo 26 = .ok (.isub, 1) := by decide +kernel
theorem dX3_secondsTo_27 : decode cX3_secondsTo 27 = .ok (.invokestatic 78, 3) := by decide +kernel
theorem dX3_secondsTo_30 : decode cX3_secondsTo 30 = .ok (.imul, 1) := by decide +kernel
theorem dX3_secondsTo_31 : decode cX3_secondsTo 31 = .ok (.ireturn, 1) := by decide +kernel
theorem dX3_secondsTo_32 : decode cX3_secondsTo 32 = .ok (.aload_n 0, 1) := by decide +kernel
theorem dX3_secondsTo_33 : decode cX3_secondsTo 33 = .ok (.getfield 34, 3) := by decide +kernel
theorem dX3_secondsTo_36 : decode cX3_secondsTo 36 = .ok (.aload_n 0, 1) := by decide +kernel
theorem dX3_secondsTo_37 : decode cX3_secondsTo 37 = .ok (.getfield 29, 3) := by decide +kernel
theorem dX3_secondsTo_40 : decode cX3_secondsTo 40 = .ok (.aload_n 0, 1) := by decide +kernel
theorem dX3_secondsTo_41 : decode cX3_secondsTo 41 = .ok (.getfield 33, 3) := by decide +kernel
theorem dX3_secondsTo_44 : decode cX3_secondsTo 44 = .ok (.aload_n 1, 1) := by decide +kernel
theorem dX3_secondsTo_45 : decode cX3_secondsTo 45 = .ok (.getfield 75, 3) := by decide +kernel
theorem dX3_secondsTo_48 : decode cX3_secondsTo 48 = .ok (.iload_n 3, 1) := by decide +kernel
theorem dX3_secondsTo_49 : decode cX3_secondsTo 49 = .ok (.iaload, 1) := by decide +kernel
theorem dX3_secondsTo_50 : decode cX3_secondsTo 50 = .ok (.isub, 1) := by decide +kernel
theorem dX3_secondsTo_51 : decode cX3_secondsTo 51 = .ok (.invokestatic 78, 3) := by decide +kernel
theorem dX3_secondsTo_54 : decode cX3_secondsTo 54 = .ok (.imul, 1) := by decide +kernel
theorem dX3_secondsTo_55 : decode cX3_secondsTo 55 = .ok (.iadd, 1) := by decide +kernel
theorem dX3_secondsTo_56 : decode cX3_secondsTo 56 = .ok (.ireturn, 1) := by decide +kernel
theorem dX3_secondsWith_0 : decode cX3_secondsWith 0 = .ok (.iconst 3, 1) := by decide +kernel
theorem dX3_secondsWith_1 : decode cX3_secondsWith 1 = .ok (.aload_n 0, 1) := by decide +kernel
theorem dX3_secondsWith_2 : decode cX3_secondsWith 2 = .ok (.getfield 29, 3) := by decide +kernel
theorem dX3_secondsWith_5 : decode cX3_secondsWith 5 = .ok (.aload_n 1, 1) := by decide +kernel
theorem dX3_secondsWith_6 : decode cX3_secondsWith 6 = .ok (.getfield 75, 3) := by decide +kernel
theorem dX3_secondsWith_9 : decode cX3_secondsWith 9 = .ok (.iload_n 2, 1) := by decide +kernel
theorem dX3_secondsWith_10 : decode cX3_secondsWith 10 = .ok (.iaload, 1) := by decide +kernel
theorem dX3_secondsWith_11 : decode cX3_secondsWith 11 = .ok (.aload_n 1, 1) := by decide +kernel
theorem dX3_secondsWith_12 : decode cX3_secondsWith 12 = .ok (.getfield 72, 3) := by decide +kernel
theorem dX3_secondsWith_15 : decode cX3_secondsWith 15 = .ok (.iload_n 2, 1) := by decide +kernel
theorem dX3_secondsWith_16 : decode cX3_secondsWith 16 = .ok (.iaload, 1) := by decide +kernel
theorem dX3_secondsWith_17 : decode cX3_secondsWith 17 = .ok (.isub, 1) := by decide +kernel
theorem dX3_secondsWith_18 : decode cX3_secondsWith 18 = .ok (.invokestatic 78, 3) := by decide +kernel
theorem dX3_secondsWith_21 : decode cX3_secondsWith 21 = .ok (.imul, 1) := by decide +kernel
theorem dX3_secondsWith_22 : decode cX3_secondsWith 22 = .ok (.iadd, 1) := by decide +kernel
theorem dX3_secondsWith_23 : decode cX3_secondsWith 23 = .ok (.ireturn, 1) := by decide +kernel
