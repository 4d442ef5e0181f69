theorem dX0_init_0 : decode cX0_init 0 = .ok (.aload_n 0, 1) := by decide +kernel
theorem dX0_init_1 : decode cX0_init 1 = .ok (.invokespecial 3, 3) := by decide +kernel
theorem dX0_init_4 : decode cX0_init 4 = .ok (.aload_n 0, 1) := by decide +kernel
theorem dX0_init_5 : decode cX0_init 5 = .ok (.bipush 6, 2) := by decide +kernel
theorem dX0_init_7 : decode cX0_init 7 = .ok (.newarray .int, 2) := by decide +kernel
theorem dX0_init_9 : decode cX0_init 9 = .ok (.putfield 9, 3) := by decide +kernel
theorem dX0_init_12 : decode cX0_init 12 = .ok (.aload_n 0, 1) := by decide +kernel
theorem dX0_init_13 : decode cX0_init 13 = .ok (.bipush 6, 2) := by decide +kernel
theorem dX0_init_15 : decode cX0_init 15 = .ok (.newarray .int, 2) := by decide +kernel
theorem dX0_init_17 : decode cX0_init 17 = .ok (.putfield 15, 3) := by decide +kernel
theorem dX0_init_20 : decode cX0_init 20 = .ok (.aload_n 0, 1) := by decide +kernel
theorem dX0_init_21 : decode cX0_init 21 = .ok (.bipush 6, 2) := by decide +kernel
theorem dX0_init_23 : decode cX0_init 23 = .ok (.newarray .int, 2) := by decide +kernel
theorem dX0_init_25 : decode cX0_init 25 = .ok (.putfield 18, 3) := by decide +kernel
theorem dX0_init_28 : decode cX0_init 28 = .ok (.aload_n 0, 1) := by decide +kernel
theorem dX0_init_29 : decode cX0_init 29 = .ok (.bipush 6, 2) := by decide +kernel
theorem dX0_init_31 : decode cX0_init 31 = .ok (.newarray .int, 2) := by decide +kernel
theorem dX0_init_33 : decode cX0_init 33 = .ok (.putfield 21, 3) := by decide +kernel
theorem dX0_init_36 : decode cX0_init 36 = .ok (.aload_n 0, 1) := by decide +kernel
theorem dX0_init_37 : decode cX0_init 37 = .ok (.bipush 6, 2) := by decide +kernel
theorem dX0_init_39 : decode cX0_init 39 = .ok (.newarray .int, 2) := by decide +kernel
theorem dX0_init_41 : decode cX0_init 41 = .ok (.putfield 24, 3) := by decide +kernel
theorem dX0_init_44 : decode cX0_init 44 = .ok (.aload_n 0, 1) := by decide +kernel
theorem dX0_init_45 : decode cX0_init 45 = .ok (.bipush 6, 2) := by decide +kernel
theorem dX0_init_47 : decode cX0_init 47 = .ok (.newarray .int, 2) := by decide +kernel
theorem dX0_init_49 : decode cX0_init 49 = .ok (.putfield 27, 3) := by decide +kernel
theorem dX0_init_52 : decode cX0_init 52 = .ok (.aload_n 0, 1) := by decide +kernel
theorem dX0_init_53 : decode cX0_init 53 = .ok (.bipush 64, 2) := by decide +kernel
theorem dX0_init_55 : decode cX0_init 55 = .ok (.newarray .int, 2) := by decide +kernel
theorem dX0_init_57 : decode cX0_init 57 = .ok (.putfield 32, 3) := by decide +kernel
theorem dX0_init_60 : decode cX0_init 60 = .ok (.aload_n 0, 1) := by decide +kernel
theorem dX0_init_61 : decode cX0_init 61 = .ok (.bipush 6, 2) := by decide +kernel
theorem dX0_init_63 : decode cX0_init 63 = .ok (.newarray .int, 2) := by decide +kernel
theorem dX0_init_65 : decode cX0_init 65 = .ok (.putfield 35, 3) := by decide +kernel
theorem dX0_init_68 : decode cX0_init 68 = .ok (.aload_n 0, 1) := by decide +kernel
theorem dX0_init_69 : decode cX0_init 69 = .ok (.bipush 6, 2) := by decide +kernel
theorem dX0_init_71 : decode cX0_init 71 = .ok (.newarray .int, 2) := by decide +kernel
theorem dX0_init_73 : decode cX0_init 73 = .ok (.putfield 38, 3) := by decide +kernel
theorem dX0_init_76 : decode cX0_init 76 = .ok (.aload_n 0, 1) := by decide +kernel
theorem dX0_init_77 : decode cX0_init 77 = .ok (.bipush 6, 2) := by decide +kernel
theorem dX0_init_79 : decode cX0_init 79 = .ok (.newarray .int, 2) := by decide +kernel
theorem dX0_init_81 : decode cX0_init 81 = .ok (.putfield 41, 3) := by decide +kernel
theorem dX0_init_84 : decode cX0_init 84 = .ok (.aload_n 0, 1) := by decide +kernel
theorem dX0_init_85 : decode cX0_init 85 = .ok (.bipush 24, 2) := by decide +kernel
theorem dX0_init_87 : decode cX0_init 87 = .ok (.newarray .int, 2) := by decide +kernel
theorem dX0_init_89 : decode cX0_init 89 = .ok (.putfield 44, 3) := by decide +kernel
theorem dX0_init_92 : decode cX0_init 92 = .ok (.aload_n 0, 1) := by decide +kernel
theorem dX0_init_93 : decode cX0_init 93 = .ok (.bipush 6, 2) := by decide +kernel
theorem dX0_init_95 : decode cX0_init 95 = .ok (.newarray .int, 2) := by decide +kernel
theorem dX0_init_97 : decode cX0_init 97 = .ok (.putfield 47, 3) := by decide +kernel
theorem dX0_init_100 : decode cX0_init 100 = .ok (.aload_n 0, 1) := by decide +kernel
theorem dX0_init_101 : decode cX0_init 101 = .ok (.iconst 4, 1) := by decide +kernel
theorem dX0_init_102 : decode cX0_init 102 = .ok (.newarray .int, 2) := by decide +kernel
theorem dX0_init_104 : decode cX0_init 104 = .ok (.putfield 50, 3) := by decide +kernel
theorem dX0_init_107 : decode cX0_init 107 = .ok (.aload_n 0, 1) := by decide +kernel
theorem dX0_init_108 : decode cX0_init 108 = .ok (.invokevirtual 53, 3) := by decide +kernel
theorem dX0_init_111 : decode cX0_init 111 = .ok (.return_, 1) := by decide +kernel
theorem dX0_clearRows_0 : decode cX0_clearRows 0 = .ok (.iconst 0, 1) := by decide +kernel
theorem dX0_clearRows_1 : decode cX0_clearRows 1 = .ok (.istore_n 1, 1) := by decide +kernel
theorem dX0_clearRows_2 : decode cX0_clearRows 2 = .ok (.iload_n 1, 1) := by decide +kernel
theorem dX0_clearRows_3 : decode cX0_clearRows 3 = .ok (.aload_n 0, 1) := by decide +kernel
theorem dX0_clearRows_4 : decode cX0_clearRows 4 = .ok (.getfield 44, 3) := by decide +kernel
theorem dX0_clearRows_7 : decode cX0_clearRows 7 = .ok (.arraylength, 1) := by decide +kernel
theorem dX0_clearRows_8 : decode cX0_clearRows 8 = .ok (.if_icmp .ge 16, 3) := by decide +kernel
theorem dX0_clearRows_11 : decode cX0_clearRows 11 = .ok (.aload_n 0, 1) := by decide +kernel
theorem dX0_clearRows_12 : decode cX0_clearRows 12 = .ok (.getfield 44, 3) := by decide +kernel
theorem dX0_clearRows_15 : decode cX0_clearRows 15 = .ok (.iload_n 1, 1) := by decide +kernel
theorem dX0_clearRows_16 : decode cX0_clearRows 16 = .ok (.iconst (-1), 1) := by decide +kernel
theorem dX0_clearRows_17 : decode cX0_clearRows 17 = .ok (.iastore, 1) := by decide +kernel
theorem dX0_clearRows_18 : decode cX0_clearRows 18 = .ok (.iinc 1 1, 3) := by decide +kernel
theorem dX0_clearRows_21 : decode cX0_clearRows 21 = .ok (.goto (-19), 3) := by decide +kernel
theorem dX0_clearRows_24 : decode cX0_clearRows 24 = .ok (.return_, 1) := by decide +kernel
theorem dX0_clear_0 : decode cX0_clear 0 = .ok (.aload_n 0, 1) := by decide +kernel
theorem dX0_clear_1 : decode cX0_clear 1 = .ok (.iconst 0, 1) := by decide +kernel
theorem dX0_clear_2 : decode cX0_clear 2 = .ok (.putfield 56, 3) := by decide +kernel
theorem dX0_clear_5 : decode cX0_clear 5 = .ok (.aload_n 0, 1) := by decide +kernel
theorem dX0_clear_6 : decode cX0_clear 6 = .ok (.invokevirtual 53, 3) := by decide +kernel
theorem dX0_clear_9 : decode cX0_clear 9 = .ok (.return_, 1) := by decide +kernel
theorem dX0_add_0 : decode cX0_add 0 = .ok (.aload_n 0, 1) := by decide +kernel
theorem dX0_add_1 : decode cX0_add 1 = .ok (.getfield 56, 3) := by decide +kernel
theorem dX0_add_4 : decode cX0_add 4 = .ok (.bipush 6, 2) := by decide +kernel
theorem dX0_add_6 : decode cX0_add 6 = .ok (.if_icmp .ge 85, 3) := by decide +kernel
theorem dX0_add_9 : decode cX0_add 9 = .ok (.aload_n 0, 1) := by decide +kernel
theorem dX0_add_10 : decode cX0_add 10 = .ok (.getfield 35, 3) := by decide +kernel
theorem dX0_add_13 : decode cX0_add 13 = .ok (.aload_n 0, 1) := by decide +kernel
theorem dX0_add_14 : decode cX0_add 14 = .ok (.getfield 56, 3) := by decide +kernel
theorem dX0_add_17 : decode cX0_add 17 = .ok (.aload_n 1, 1) := by decide +kernel
theorem dX0_add_18 : decode cX0_add 18 = .ok (.getfield 60, 3) := by decide +kernel
theorem dX0_add_21 : decode cX0_add 21 = .ok (.iastore, 1) := by decide +kernel
theorem dX0_add_22 : decode cX0_add 22 = .ok (.aload_n 0, 1) := by decide +kernel
theorem dX0_add_23 : decode cX0_add 23 = .ok (.getfield 9, 3) := by decide +kernel
theorem dX0_add_26 : decode cX0_add 26 = .ok (.aload_n 0, 1) := by decide +kernel
theorem dX0_add_27 : decode cX0_add 27 = .ok (.getfield 56, 3) := by decide +kernel
theorem dX0_add_30 : decode cX0_add 30 = .ok (.aload_n 1, 1) := by decide +kernel
theorem dX0_add_31 : decode cX0_add 31 = .ok (.getfield 64, 3) := by decide +kernel
theorem dX0_add_34 : decode cX0_add 34 = .ok (.iastore, 1) := by decide +kernel
theorem dX0_add_35 : decode cX0_add 35 = .ok (.aload_n 0, 1) := by decide +kernel
theorem dX0_add_36 : decode cX0_add 36 = .ok (.getfield 15, 3) := by decide +kernel
theorem dX0_add_39 : decode cX0_add 39 = .ok (.aload_n 0, 1) := by decide +kernel
theorem dX0_add_40 : decode cX0_add 40 = .ok (.getfield 56, 3) := by decide +kernel
theorem dX0_add_43 : decode cX0_add 43 = .ok (.aload_n 1, 1) := by decide +kernel
theorem dX0_add_44 : decode cX0_add 44 = .ok (.getfield 66, 3) := by decide +kernel
theorem dX0_add_47 : decode cX0_add 47 = .ok (.iastore, 1) := by decide +kernel
theorem dX0_add_48 : decode cX0_add 48 = .ok (.aload_n 0, 1) := by decide +kernel
theorem dX0_add_49 : decode cX0_add 49 = .ok (.getfield 18, 3) := by decide +kernel
theorem dX0_add_52 : decode cX0_add 52 = .ok (.aload_n 0, 1) := by decide +kernel
theorem dX0_add_53 : decode cX0_add 53 = .ok (.getfield 56, 3) := by decide +kernel
theorem dX0_add_56 : decode cX0_add 56 = .ok (.iload_n 2, 1) := by decide +kernel
theorem dX0_add_57 : decode cX0_add 57 = .ok (.iastore, 1) := by decide +kernel
theorem dX0_add_58 : decode cX0_add 58 = .ok (.aload_n 0, 1) := by decide +kernel
theorem dX0_add_59 : decode cX0_add 59 = .ok (.getfield 38, 3) := by decide +kernel
theorem dX0_add_62 : decode cX0_add 62 = .ok (.aload_n 0, 1) := by decide +kernel
theorem dX0_add_63 : decode cX0_add 63 = .ok (.getfield 56, 3) := by decide +kernel
theorem dX0_add_66 : decode cX0_add 66 = .ok (.iload_n 3, 1) := by decide +kernel
theorem dX0_add_67 : decode cX0_add 67 = .ok (.iastore, 1) := by decide +kernel
theorem dX0_add_68 : decode cX0_add 68 = .ok (.aload_n 0, 1) := by decide +kernel
theorem dX0_add_69 : decode cX0_add 69 = .ok (.getfield 41, 3) := by decide +kernel
theorem dX0_add_72 : decode cX0_add 72 = .ok (.aload_n 0, 1) := by decide +kernel
theorem dX0_add_73 : decode cX0_add 73 = .ok (.getfield 56, 3) := by decide +kernel
theorem dX0_add_76 : decode cX0_add 76 = .ok (.aload_n 1, 1) := by decide +kernel
theorem dX0_add_77 : decode cX0_add 77 = .ok (.getfield 68, 3) := by decide +kernel
theorem dX0_add_80 : decode cX0_add 80 = .ok (.iastore, 1) := by decide +kernel
theorem dX0_add_81 : decode cX0_add 81 = .ok (.aload_n 0, 1) := by decide +kernel
theorem dX0_add_82 : decode cX0_add 82 = .ok (.dup, 1) := by decide +kernel
theorem dX0_add_83 : decode cX0_add 83 = .ok (.getfield 56, 3) := by decide +kernel
theorem dX0_add_86 : decode cX0_add 86 = .ok (.iconst 1, 1) := by decide +kernel
theorem dX0_add_87 : decode cX0_add 87 = .ok (.iadd, 1) := by decide +kernel
theorem dX0_add_88 : decode cX0_add 88 = .ok (.putfield 56, 3) := by decide +kernel
theorem dX0_add_91 : decode cX0_add 91 = .ok (.return_, 1) := by decide +kernel
theorem dX0_slotOf_0 : decode cX0_slotOf 0 = .ok (.iconst 0, 1) := by decide +kernel
theorem dX0_slotOf_1 : decode cX0_slotOf 1 = .ok (.istore_n 2, 1) := by decide +kernel
theorem dX0_slotOf_2 : decode cX0_slotOf 2 = .ok (.iload_n 2, 1) := by decide +kernel
theorem dX0_slotOf_3 : decode cX0_slotOf 3 = .ok (.aload_n 0, 1) := by decide +kernel
theorem dX0_slotOf_4 : decode cX0_slotOf 4 = .ok (.getfield 56, 3) := by decide +kernel
theorem dX0_slotOf_7 : decode cX0_slotOf 7 = .ok (.if_icmp .ge 21, 3) := by decide +kernel
theorem dX0_slotOf_10 : decode cX0_slotOf 10 = .ok (.aload_n 0, 1) := by decide +kernel
theorem dX0_slotOf_11 : decode cX0_slotOf 11 = .ok (.getfield 35, 3) := by decide +kernel
theorem dX0_slotOf_14 : decode cX0_slotOf 14 = .ok (.iload_n 2, 1) := by decide +kernel
theorem dX0_slotOf_15 : decode cX0_slotOf 15 = .ok (.iaload, 1) := by decide +kernel
theorem dX0_slotOf_16 : decode cX0_slotOf 16 = .ok (.iload_n 1, 1) := by decide +kernel
theorem dX0_slotOf_17 : decode cX0_slotOf 17 = .ok (.if_icmp .ne 5, 3) := by decide +kernel
theorem dX0_slotOf_20 : decode cX0_slotOf 20 = .ok (.iload_n 2, 1) := by decide +kernel
theorem dX0_slotOf_21 : decode cX0_slotOf 21 = .ok (.ireturn, 1) := by decide +kernel
theorem dX0_slotOf_22 : decode cX0_slotOf 22 = .ok (.iinc 2 1, 3) := by decide +kernel
theorem dX0_slotOf_25 : decode cX0_slotOf 25 = .ok (.goto (-23), 3) := by decide +kernel
theorem dX0_slotOf_28 : decode cX0_slotOf 28 = .ok (.iconst (-1), 1) := by decide +kernel
theorem dX0_slotOf_29 : decode cX0_slotOf 29 = .ok (.ireturn, 1) := by decide +kernel
theorem dX0_inRow_0 : decode cX0_inRow 0 = .ok (.iload_n 1, 1) := by decide +kernel
theorem dX0_inRow_1 : decode cX0_inRow 1 = .ok (.ifCond .lt 32, 3) := by decide +kernel
theorem dX0_inRow_4 : decode cX0_inRow 4 = .ok (.iload_n 1, 1) := by decide +kernel
theorem dX0_inRow_5 : decode cX0_inRow 5 = .ok (.iconst 4, 1) := by decide +kernel
theorem dX0_inRow_6 : decode cX0_inRow 6 = .ok (.if_icmp .ge 27, 3) := by decide +kernel
theorem dX0_inRow_9 : decode cX0_inRow 9 = .ok (.iload_n 2, 1) := by decide +kernel
theorem dX0_inRow_10 : decode cX0_inRow 10 = .ok (.ifCond .lt 23, 3) := by decide +kernel
theorem dX0_inRow_13 : decode cX0_inRow 13 = .ok (.iload_n 2, 1) := by decide +kernel
theorem dX0_inRow_14 : decode cX0_inRow 14 = .ok (.bipush 6, 2) := by decide +kernel
theorem dX0_inRow_16 : decode cX0_inRow 16 = .ok (.if_icmp .ge 17, 3) := by decide +kernel
theorem dX0_inRow_19 : decode cX0_inRow 19 = .ok (.aload_n 0, 1) := by decide +kernel
theorem dX0_inRow_20 : decode cX0_inRow 20 = .ok (.getfield 44, 3) := by decide +kernel
theorem dX0_inRow_23 : decode cX0_inRow 23 = .ok (.iload_n 1, 1) := by decide +kernel
theorem dX0_inRow_24 : decode cX0_inRow 24 = .ok (.bipush 6, 2) := by decide +kernel
theorem dX0_inRow_26 : decode cX0_inRow 26 = .ok (.imul, 1) := by decide +kernel
theorem dX0_inRow_27 : decode cX0_inRow 27 = .ok (.iload_n 2, 1) := by decide +kernel
theorem dX0_inRow_28 : decode cX0_inRow 28 = .ok (.iadd, 1) := by decide +kernel
theorem dX0_inRow_29 : decode cX0_inRow 29 = .ok (.iaload, 1) := by decide +kernel
theorem dX0_inRow_30 : decode cX0_inRow 30 = .ok (.goto 4, 3) := by decide +kernel
theorem dX0_inRow_33 : decode cX0_inRow 33 = .ok (.iconst (-1), 1) := by decide +kernel
theorem dX0_inRow_34 : decode cX0_inRow 34 = .ok (.ireturn, 1) := by decide +kernel
theorem dX0_begunSlot_0 : decode cX0_begunSlot 0 = .ok (.iconst 0, 1) := by decide +kernel
theorem dX0_begunSlot_1 : decode cX0_begunSlot 1 = .ok (.istore_n 2, 1) := by decide +kernel
theorem dX0_begunSlot_2 : decode cX0_begunSlot 2 = .ok (.iload_n 2, 1) := by decide +kernel
theorem dX0_begunSlot_3 : decode cX0_begunSlot 3 = .ok (.aload_n 0, 1) := by decide +kernel
theorem dX0_begunSlot_4 : decode cX0_begunSlot 4 = .ok (.getfield 56, 3) := by decide +kernel
theorem dX0_begunSlot_7 : decode cX0_begunSlot 7 = .ok (.if_icmp .ge 21, 3) := by decide +kernel
theorem dX0_begunSlot_10 : decode cX0_begunSlot 10 = .ok (.aload_n 0, 1) := by decide +kernel
theorem dX0_begunSlot_11 : decode cX0_begunSlot 11 = .ok (.getfield 41, 3) := by decide +kernel
theorem dX0_begunSlot_14 : decode cX0_begunSlot 14 = .ok (.iload_n 2, 1) := by decide +kernel
theorem dX0_begunSlot_15 : decode cX0_begunSlot 15 = .ok (.iaload, 1) := by decide +kernel
theorem dX0_begunSlot_16 : decode cX0_begunSlot 16 = .ok (.iload_n 1, 1) := by decide +kernel
theorem dX0_begunSlot_17 : decode cX0_begunSlot 17 = .ok (.if_icmp .ne 5, 3) := by decide +kernel
theorem dX0_begunSlot_20 : decode cX0_begunSlot 20 = .ok (.iload_n 2, 1) := by decide +kernel
theorem dX0_begunSlot_21 : decode cX0_begunSlot 21 = .ok (.ireturn, 1) := by decide +kernel
theorem dX0_begunSlot_22 : decode cX0_begunSlot 22 = .ok (.iinc 2 1, 3) := by decide +kernel
theorem dX0_begunSlot_25 : decode cX0_begunSlot 25 = .ok (.goto (-23), 3) := by decide +kernel
theorem dX0_begunSlot_28 : decode cX0_begunSlot 28 = .ok (.iconst (-1), 1) := by decide +kernel
theorem dX0_begunSlot_29 : decode cX0_begunSlot 29 = .ok (.ireturn, 1) := by decide +kernel
theorem dX0_slotsFor_0 : decode cX0_slotsFor 0 = .ok (.iconst 0, 1) := by decide +kernel
theorem dX0_slotsFor_1 : decode cX0_slotsFor 1 = .ok (.istore_n 2, 1) := by decide +kernel
theorem dX0_slotsFor_2 : decode cX0_slotsFor 2 = .ok (.iconst 0, 1) := by decide +kernel
theorem dX0_slotsFor_3 : decode cX0_slotsFor 3 = .ok (.istore_n 3, 1) := by decide +kernel
theorem dX0_slotsFor_4 : decode cX0_slotsFor 4 = .ok (.iload_n 3, 1) := by decide +kernel
theorem dX0_slotsFor_5 : decode cX0_slotsFor 5 = .ok (.aload_n 0, 1) := by decide +kernel
theorem dX0_slotsFor_6 : decode cX0_slotsFor 6 = .ok (.getfield 56, 3) := by decide +kernel
theorem dX0_slotsFor_9 : decode cX0_slotsFor 9 = .ok (.if_icmp .ge 28, 3) := by decide +kernel
theorem dX0_slotsFor_12 : decode cX0_slotsFor 12 = .ok (.aload_n 0, 1) := by decide +kernel
theorem dX0_slotsFor_13 : decode cX0_slotsFor 13 = .ok (.getfield 38, 3) := by decide +kernel
theorem dX0_slotsFor_16 : decode cX0_slotsFor 16 = .ok (.iload_n 3, 1) := by decide +kernel
theorem dX0_slotsFor_17 : decode cX0_slotsFor 17 = .ok (.iaload, 1) := by decide +kernel
theorem dX0_slotsFor_18 : decode cX0_slotsFor 18 = .ok (.iload_n 1, 1) := by decide +kernel
theorem dX0_slotsFor_19 : decode cX0_slotsFor 19 = .ok (.ishr, 1) := by decide +kernel
theorem dX0_slotsFor_20 : decode cX0_slotsFor 20 = .ok (.iconst 1, 1) := by decide +kernel
theorem dX0_slotsFor_21 : decode cX0_slotsFor 21 = .ok (.iand, 1) := by decide +kernel
theorem dX0_slotsFor_22 : decode cX0_slotsFor 22 = .ok (.ifCond .eq 9, 3) := by decide +kernel
theorem dX0_slotsFor_25 : decode cX0_slotsFor 25 = .ok (.iload_n 2, 1) := by decide +kernel
theorem dX0_slotsFor_26 : decode cX0_slotsFor 26 = .ok (.iconst 1, 1) := by decide +kernel
theorem dX0_slotsFor_27 : decode cX0_slotsFor 27 = .ok (.iload_n 3, 1) := by decide +kernel
theorem dX0_slotsFor_28 : decode cX0_slotsFor 28 = .ok (.ishl, 1) := by decide +kernel
theorem dX0_slotsFor_29 : decode cX0_slotsFor 29 = .ok (.ior, 1) := by decide +kernel
theorem dX0_slotsFor_30 : decode cX0_slotsFor 30 = .ok (.istore_n 2, 1) := by decide +kernel
theorem dX0_slotsFor_31 : decode cX0_slotsFor 31 = .ok (.iinc 3 1, 3) := by decide +kernel
theorem dX0_slotsFor_34 : decode cX0_slotsFor 34 = .ok (.goto (-30), 3) := by decide +kernel
theorem dX0_slotsFor_37 : decode cX0_slotsFor 37 = .ok (.iload_n 2, 1) := by decide +kernel
theorem dX0_slotsFor_38 : decode cX0_slotsFor 38 = .ok (.ireturn, 1) := by decide +kernel
theorem dX0_make_0 : decode cX0_make 0 = .ok (.aload_n 0, 1) := by decide +kernel
theorem dX0_make_1 : decode cX0_make 1 = .ok (.invokevirtual 70, 3) := by decide +kernel
theorem dX0_make_4 : decode cX0_make 4 = .ok (.iconst 0, 1) := by decide +kernel
theorem dX0_make_5 : decode cX0_make 5 = .ok (.istore_n 3, 1) := by decide +kernel
theorem dX0_make_6 : decode cX0_make 6 = .ok (.iload_n 3, 1) := by decide +kernel
theorem dX0_make_7 : decode cX0_make 7 = .ok (.iconst 4, 1) := by decide +kernel
theorem dX0_make_8 : decode cX0_make 8 = .ok (.if_icmp .ge 55, 3) := by decide +kernel
theorem dX0_make_11 : decode cX0_make 11 = .ok (.iload_n 3, 1) := by decide +kernel
theorem dX0_make_12 : decode cX0_make 12 = .ok (.aload_n 1, 1) := by decide +kernel
theorem dX0_make_13 : decode cX0_make 13 = .ok (.arraylength, 1) := by decide +kernel
theorem dX0_make_14 : decode cX0_make 14 = .ok (.if_icmp .ge 49, 3) := by decide +kernel
theorem dX0_make_17 : decode cX0_make 17 = .ok (.aload_n 1, 1) := by decide +kernel
theorem dX0_make_18 : decode cX0_make 18 = .ok (.iload_n 3, 1) := by decide +kernel
theorem dX0_make_19 : decode cX0_make 19 = .ok (.aaload, 1) := by decide +kernel
theorem dX0_make_20 : decode cX0_make 20 = .ok (.astore 4, 2) := by decide +kernel
theorem dX0_make_22 : decode cX0_make 22 = .ok (.aload_n 0, 1) := by decide +kernel
theorem dX0_make_23 : decode cX0_make 23 = .ok (.getfield 50, 3) := by decide +kernel
theorem dX0_make_26 : decode cX0_make 26 = .ok (.iload_n 3, 1) := by decide +kernel
theorem dX0_make_27 : decode cX0_make 27 = .ok (.iconst 0, 1) := by decide +kernel
theorem dX0_make_28 : decode cX0_make 28 = .ok (.iastore, 1) := by decide +kernel
theorem dX0_make_29 : decode cX0_make 29 = .ok (.aload 4, 2) := by decide +kernel
theorem dX0_make_31 : decode cX0_make 31 = .ok (.ifnull 26, 3) := by decide +kernel
theorem dX0_make_34 : decode cX0_make 34 = .ok (.aload 4, 2) := by decide +kernel
theorem dX0_make_36 : decode cX0_make 36 = .ok (.getfield 73, 3) := by decide +kernel
theorem dX0_make_39 : decode cX0_make 39 = .ok (.aload_n 0, 1) := by decide +kernel
theorem dX0_make_40 : decode cX0_make 40 = .ok (.aload 4, 2) := by decide +kernel
theorem dX0_make_42 : decode cX0_make 42 = .ok (.iload_n 3, 1) := by decide +kernel
theorem dX0_make_43 : decode cX0_make 43 = .ok (.iconst 0, 1) := by decide +kernel
theorem dX0_make_44 : decode cX0_make 44 = .ok (.aload 4, 2) := by decide +kernel
theorem dX0_make_46 : decode cX0_make 46 = .ok (.getfield 79, 3) := by decide +kernel
theorem dX0_make_49 : decode cX0_make 49 = .ok (.iload_n 2, 1) := by decide +kernel
theorem dX0_make_50 : decode cX0_make 50 = .ok (.isub, 1) := by decide +kernel
theorem dX0_make_51 : decode cX0_make 51 = .ok (.invokestatic 82, 3) := by decide +kernel
theorem dX0_make_54 : decode cX0_make 54 = .ok (.invokevirtual 88, 3) := by decide +kernel
theorem dX0_make_57 : decode cX0_make 57 = .ok (.iinc 3 1, 3) := by decide +kernel
theorem dX0_make_60 : decode cX0_make 60 = .ok (.goto (-54), 3) := by decide +kernel
theorem dX0_make_63 : decode cX0_make 63 = .ok (.aload_n 0, 1) := by decide +kernel
theorem dX0_make_64 : decode cX0_make 64 = .ok (.ldc2_w 92, 3) := by decide +kernel
theorem dX0_make_67 : decode cX0_make 67 = .ok (.putfield 94, 3) := by decide +kernel
theorem dX0_make_70 : decode cX0_make 70 = .ok (.aload_n 0, 1) := by decide +kernel
theorem dX0_make_71 : decode cX0_make 71 = .ok (.aload_n 1, 1) := by decide +kernel
theorem dX0_make_72 : decode cX0_make 72 = .ok (.iconst 0, 1) := by decide +kernel
theorem dX0_make_73 : decode cX0_make 73 = .ok (.lconst 0, 1) := by decide +kernel
theorem dX0_make_74 : decode cX0_make 74 = .ok (.invokestatic 98, 3) := by decide +kernel
theorem dX0_make_77 : decode cX0_make 77 = .ok (.iconst 0, 1) := by decide +kernel
theorem dX0_make_78 : decode cX0_make 78 = .ok (.istore_n 3, 1) := by decide +kernel
theorem dX0_make_79 : decode cX0_make 79 = .ok (.iload_n 3, 1) := by decide +kernel
theorem dX0_make_80 : decode cX0_make 80 = .ok (.iconst 4, 1) := by decide +kernel
theorem dX0_make_81 : decode cX0_make 81 = .ok (.if_icmp .ge 35, 3) := by decide +kernel
theorem dX0_make_84 : decode cX0_make 84 = .ok (.iload_n 3, 1) := by decide +kernel
theorem dX0_make_85 : decode cX0_make 85 = .ok (.aload_n 1, 1) := by decide +kernel
theorem dX0_make_86 : decode cX0_make 86 = .ok (.arraylength, 1) := by decide +kernel
theorem dX0_make_87 : decode cX0_make 87 = .ok (.if_icmp .ge 29, 3) := by decide +kernel
theorem dX0_make_90 : decode cX0_make 90 = .ok (.aload_n 1, 1) := by decide +kernel
theorem dX0_make_91 : decode cX0_make 91 = .ok (.iload_n 3, 1) := by decide +kernel
theorem dX0_make_92 : decode cX0_make 92 = .ok (.aaload, 1) := by decide +kernel
theorem dX0_make_93 : decode cX0_make 93 = .ok (.astore 4, 2) := by decide +kernel
theorem dX0_make_95 : decode cX0_make 95 = .ok (.aload 4, 2) := by decide +kernel
theorem dX0_make_97 : decode cX0_make 97 = .ok (.ifnull 13, 3) := by decide +kernel
theorem dX0_make_100 : decode cX0_make 100 = .ok (.aload_n 0, 1) := by decide +kernel
theorem dX0_make_101 : decode cX0_make 101 = .ok (.aload 4, 2) := by decide +kernel
theorem dX0_make_103 : decode cX0_make 103 = .ok (.getfield 73, 3) := by decide +kernel
theorem dX0_make_106 : decode cX0_make 106 = .ok (.iload_n 3, 1) := by decide +kernel
theorem dX0_make_107 : decode cX0_make 107 = .ok (.invokevirtual 102, 3) := by decide +kernel
theorem dX0_make_110 : decode cX0_make 110 = .ok (.iinc 3 1, 3) := by decide +kernel
theorem dX0_make_113 : decode cX0_make 113 = .ok (.goto (-34), 3) := by decide +kernel
theorem dX0_make_116 : decode cX0_make 116 = .ok (.aload_n 0, 1) := by decide +kernel
theorem dX0_make_117 : decode cX0_make 117 = .ok (.getfield 94, 3) := by decide +kernel
theorem dX0_make_120 : decode cX0_make 120 = .ok (.lreturn, 1) := by decide +kernel
theorem dX0_weighSets_0 : decode cX0_weighSets 0 = .ok (.iconst 1, 1) := by decide +kernel
theorem dX0_weighSets_1 : decode cX0_weighSets 1 = .ok (.istore_n 1, 1) := by decide +kernel
theorem dX0_weighSets_2 : decode cX0_weighSets 2 = .ok (.iload_n 1, 1) := by decide +kernel
theorem dX0_weighSets_3 : decode cX0_weighSets 3 = .ok (.aload_n 0, 1) := by decide +kernel
theorem dX0_weighSets_4 : decode cX0_weighSets 4 = .ok (.getfield 32, 3) := by decide +kernel
theorem dX0_weighSets_7 : decode cX0_weighSets 7 = .ok (.arraylength, 1) := by decide +kernel
theorem dX0_weighSets_8 : decode cX0_weighSets 8 = .ok (.if_icmp .ge 57, 3) := by decide +kernel
theorem dX0_weighSets_11 : decode cX0_weighSets 11 = .ok (.aload_n 0, 1) := by decide +kernel
theorem dX0_weighSets_12 : decode cX0_weighSets 12 = .ok (.getfield 32, 3) := by decide +kernel
theorem dX0_weighSets_15 : decode cX0_weighSets 15 = .ok (.iload_n 1, 1) := by decide +kernel
theorem dX0_weighSets_16 : decode cX0_weighSets 16 = .ok (.iconst 0, 1) := by decide +kernel
theorem dX0_weighSets_17 : decode cX0_weighSets 17 = .ok (.iastore, 1) := by decide +kernel
theorem dX0_weighSets_18 : decode cX0_weighSets 18 = .ok (.iconst 0, 1) := by decide +kernel
theorem dX0_weighSets_19 : decode cX0_weighSets 19 = .ok (.istore_n 2, 1) := by decide +kernel
theorem dX0_weighSets_20 : decode cX0_weighSets 20 = .ok (.iload_n 2, 1) := by decide +kernel
theorem dX0_weighSets_21 : decode cX0_weighSets 21 = .ok (.aload_n 0, 1) := by decide +kernel
theorem dX0_weighSets_22 : decode cX0_weighSets 22 = .ok (.getfield 56, 3) := by decide +kernel
theorem dX0_weighSets_25 : decode cX0_weighSets 25 = .ok (.if_icmp .ge 34, 3) := by decide +kernel
theorem dX0_weighSets_28 : decode cX0_weighSets 28 = .ok (.iload_n 1, 1) := by decide +kernel
theorem dX0_weighSets_29 : decode cX0_weighSets 29 = .ok (.iload_n 2, 1) := by decide +kernel
theorem dX0_weighSets_30 : decode cX0_weighSets 30 = .ok (.ishr, 1) := by decide +kernel
theorem dX0_weighSets_31 : decode cX0_weighSets 31 = .ok (.iconst 1, 1) := by decide +kernel
theorem dX0_weighSets_32 : decode cX0_weighSets 32 = .ok (.iand, 1) := by decide +kernel
theorem dX0_weighSets_33 : decode cX0_weighSets 33 = .ok (.ifCond .eq 20, 3) := by decide +kernel
theorem dX0_weighSets_36 : decode cX0_weighSets 36 = .ok (.aload_n 0, 1) := by decide +kernel
theorem dX0_weighSets_37 : decode cX0_weighSets 37 = .ok (.getfield 32, 3) := by decide +kernel
theorem dX0_weighSets_40 : decode cX0_weighSets 40 = .ok (.iload_n 1, 1) := by decide +kernel
theorem dX0_weighSets_41 : decode cX0_weighSets 41 = .ok (.dup2, 1) := by decide +kernel
theorem dX0_weighSets_42 : decode cX0_weighSets 42 = .ok (.iaload, 1) := by decide +kernel
theorem dX0_weighSets_43 : decode cX0_weighSets 43 = .ok (.aload_n 0, 1) := by decide +kernel
theorem dX0_weighSets_44 : decode cX0_weighSets 44 = .ok (.getfield 18, 3) := by decide +kernel
theorem dX0_weighSets_47 : decode cX0_weighSets 47 = .ok (.iload_n 2, 1) := by decide +kernel
theorem dX0_weighSets_48 : decode cX0_weighSets 48 = .ok (.iaload, 1) := by decide +kernel
theorem dX0_weighSets_49 : decode cX0_weighSets 49 = .ok (.iconst 1, 1) := by decide +kernel
theorem dX0_weighSets_50 : decode cX0_weighSets 50 = .ok (.iadd, 1) := by decide +kernel
theorem dX0_weighSets_51 : decode cX0_weighSets 51 = .ok (.iadd, 1) := by decide +kernel
theorem dX0_weighSets_52 : decode cX0_weighSets 52 = .ok (.iastore, 1) := by decide +kernel
theorem dX0_weighSets_53 : decode cX0_weighSets 53 = .ok (.iinc 2 1, 3) := by decide +kernel
theorem dX0_weighSets_56 : decode cX0_weighSets 56 = .ok (.goto (-36), 3) := by decide +kernel
theorem dX0_weighSets_59 : decode cX0_weighSets 59 = .ok (.iinc 1 1, 3) := by decide +kernel
theorem dX0_weighSets_62 : decode cX0_weighSets 62 = .ok (.goto (-60), 3) := by decide +kernel
theorem dX0_weighSets_65 : decode cX0_weighSets 65 = .ok (.return_, 1) := by decide +kernel
theorem dX0_place_0 : decode cX0_place 0 = .ok (.iload_n 2, 1) := by decide +kernel
theorem dX0_place_1 : decode cX0_place 1 = .ok (.aload_n 0, 1) := by decide +kernel
theorem dX0_place_2 : decode cX0_place 2 = .ok (.getfield 56, 3) := by decide +kernel
theorem dX0_place_5 : decode cX0_place 5 = .ok (.if_icmp .ge 9, 3) := by decide +kernel
theorem dX0_place_8 : decode cX0_place 8 = .ok (.iload_n 2, 1) := by decide +kernel
theorem dX0_place_9 : decode cX0_place 9 = .ok (.bipush 6, 2) := by decide +kernel
theorem dX0_place_11 : decode cX0_place 11 = .ok (.if_icmp .lt 9, 3) := by decide +kernel
theorem dX0_place_14 : decode cX0_place 14 = .ok (.aload_n 0, 1) := by decide +kernel
theorem dX0_place_15 : decode cX0_place 15 = .ok (.lload_n 3, 1) := by decide +kernel
theorem dX0_place_16 : decode cX0_place 16 = .ok (.invokevirtual 106, 3) := by decide +kernel
theorem dX0_place_19 : decode cX0_place 19 = .ok (.return_, 1) := by decide +kernel
theorem dX0_place_20 : decode cX0_place 20 = .ok (.iconst 0, 1) := by decide +kernel
theorem dX0_place_21 : decode cX0_place 21 = .ok (.istore 5, 2) := by decide +kernel
theorem dX0_place_23 : decode cX0_place 23 = .ok (.iload 5, 2) := by decide +kernel
theorem dX0_place_25 : decode cX0_place 25 = .ok (.iconst 4, 1) := by decide +kernel
theorem dX0_place_26 : decode cX0_place 26 = .ok (.if_icmp .ge 129, 3) := by decide +kernel
theorem dX0_place_29 : decode cX0_place 29 = .ok (.iload 5, 2) := by decide +kernel
theorem dX0_place_31 : decode cX0_place 31 = .ok (.aload_n 1, 1) := by decide +kernel
theorem dX0_place_32 : decode cX0_place 32 = .ok (.arraylength, 1) := by decide +kernel
theorem dX0_place_33 : decode cX0_place 33 = .ok (.if_icmp .ge 122, 3) := by decide +kernel
theorem dX0_place_36 : decode cX0_place 36 = .ok (.aload_n 1, 1) := by decide +kernel
theorem dX0_place_37 : decode cX0_place 37 = .ok (.iload 5, 2) := by decide +kernel
theorem dX0_place_39 : decode cX0_place 39 = .ok (.aaload, 1) := by decide +kernel
theorem dX0_place_40 : decode cX0_place 40 = .ok (.astore 6, 2) := by decide +kernel
theorem dX0_place_42 : decode cX0_place 42 = .ok (.aload 6, 2) := by decide +kernel
theorem dX0_place_44 : decode cX0_place 44 = .ok (.ifnull 105, 3) := by decide +kernel
theorem dX0_place_47 : decode cX0_place 47 = .ok (.aload_n 0, 1) := by decide +kernel
theorem dX0_place_48 : decode cX0_place 48 = .ok (.getfield 38, 3) := by decide +kernel
theorem dX0_place_51 : decode cX0_place 51 = .ok (.iload_n 2, 1) := by decide +kernel
theorem dX0_place_52 : decode cX0_place 52 = .ok (.iaload, 1) := by decide +kernel
theorem dX0_place_53 : decode cX0_place 53 = .ok (.iload 5, 2) := by decide +kernel
theorem dX0_place_55 : decode cX0_place 55 = .ok (.ishr, 1) := by decide +kernel
theorem dX0_place_56 : decode cX0_place 56 = .ok (.iconst 1, 1) := by decide +kernel
theorem dX0_place_57 : decode cX0_place 57 = .ok (.iand, 1) := by decide +kernel
theorem dX0_place_58 : decode cX0_place 58 = .ok (.ifCond .eq 91, 3) := by decide +kernel
theorem dX0_place_61 : decode cX0_place 61 = .ok (.aload_n 0, 1) := by decide +kernel
theorem dX0_place_62 : decode cX0_place 62 = .ok (.getfield 50, 3) := by decide +kernel
theorem dX0_place_65 : decode cX0_place 65 = .ok (.iload 5, 2) := by decide +kernel
theorem dX0_place_67 : decode cX0_place 67 = .ok (.iaload, 1) := by decide +kernel
theorem dX0_place_68 : decode cX0_place 68 = .ok (.istore 7, 2) := by decide +kernel
theorem dX0_place_70 : decode cX0_place 70 = .ok (.iload 7, 2) := by decide +kernel
theorem dX0_place_72 : decode cX0_place 72 = .ok (.iconst 1, 1) := by decide +kernel
theorem dX0_place_73 : decode cX0_place 73 = .ok (.iload_n 2, 1) := by decide +kernel
theorem dX0_place_74 : decode cX0_place 74 = .ok (.ishl, 1) := by decide +kernel
theorem dX0_place_75 : decode cX0_place 75 = .ok (.ior, 1) := by decide +kernel
theorem dX0_place_76 : decode cX0_place 76 = .ok (.istore 8, 2) := by decide +kernel
theorem dX0_place_78 : decode cX0_place 78 = .ok (.lload_n 3, 1) := by decide +kernel
theorem dX0_place_79 : decode cX0_place 79 = .ok (.aload 6, 2) := by decide +kernel
theorem dX0_place_81 : decode cX0_place 81 = .ok (.getfield 73, 3) := by decide +kernel
theorem dX0_place_84 : decode cX0_place 84 = .ok (.iload 7, 2) := by decide +kernel
theorem dX0_place_86 : decode cX0_place 86 = .ok (.invokevirtual 110, 3) := by decide +kernel
theorem dX0_place_89 : decode cX0_place 89 = .ok (.lsub, 1) := by decide +kernel
theorem dX0_place_90 : decode cX0_place 90 = .ok (.aload 6, 2) := by decide +kernel
theorem dX0_place_92 : decode cX0_place 92 = .ok (.getfield 73, 3) := by decide +kernel
theorem dX0_place_95 : decode cX0_place 95 = .ok (.iload 8, 2) := by decide +kernel
theorem dX0_place_97 : decode cX0_place 97 = .ok (.invokevirtual 110, 3) := by decide +kernel
theorem dX0_place_100 : decode cX0_place 100 = .ok (.ladd, 1) := by decide +kernel
theorem dX0_place_101 : decode cX0_place 101 = .ok (.lstore 9, 2) := by decide +kernel
theorem dX0_place_103 : decode cX0_place 103 = .ok (.lload 9, 2) := by decide +kernel
theorem dX0_place_105 : decode cX0_place 105 = .ok (.aload_n 0, 1) := by decide +kernel
theorem dX0_place_106 : decode cX0_place 106 = .ok (.getfield 94, 3) := by decide +kernel
theorem dX0_place_109 : decode cX0_place 109 = .ok (.lcmp, 1) := by decide +kernel
theorem dX0_place_110 : decode cX0_place 110 = .ok (.ifCond .ge 39, 3) := by decide +kernel
theorem dX0_place_113 : decode cX0_place 113 = .ok (.aload_n 0, 1) := by decide +kernel
theorem dX0_place_114 : decode cX0_place 114 = .ok (.getfield 50, 3) := by decide +kernel
theorem dX0_place_117 : decode cX0_place 117 = .ok (.iload 5, 2) := by decide +kernel
theorem dX0_place_119 : decode cX0_place 119 = .ok (.iload 8, 2) := by decide +kernel
theorem dX0_place_121 : decode cX0_place 121 = .ok (.iastore, 1) := by decide +kernel
theorem dX0_place_122 : decode cX0_place 122 = .ok (.aload_n 0, 1) := by decide +kernel
theorem dX0_place_123 : decode cX0_place 123 = .ok (.getfield 47, 3) := by decide +kernel
theorem dX0_place_126 : decode cX0_place 126 = .ok (.iload_n 2, 1) := by decide +kernel
theorem dX0_place_127 : decode cX0_place 127 = .ok (.iload 5, 2) := by decide +kernel
theorem dX0_place_129 : decode cX0_place 129 = .ok (.iastore, 1) := by decide +kernel
theorem dX0_place_130 : decode cX0_place 130 = .ok (.aload_n 0, 1) := by decide +kernel
theorem dX0_place_131 : decode cX0_place 131 = .ok (.aload_n 1, 1) := by decide +kernel
theorem dX0_place_132 : decode cX0_place 132 = .ok (.iload_n 2, 1) := by decide +kernel
theorem dX0_place_133 : decode cX0_place 133 = .ok (.iconst 1, 1) := by decide +kernel
theorem dX0_place_134 : decode cX0_place 134 = .ok (.iadd, 1) := by decide +kernel
theorem dX0_place_135 : decode cX0_place 135 = .ok (.lload 9, 2) := by decide +kernel
theorem dX0_place_137 : decode cX0_place 137 = .ok (.invokestatic 98, 3) := by decide +kernel
theorem dX0_place_140 : decode cX0_place 140 = .ok (.aload_n 0, 1) := by decide +kernel
theorem dX0_place_141 : decode cX0_place 141 = .ok (.getfield 50, 3) := by decide +kernel
theorem dX0_place_144 : decode cX0_place 144 = .ok (.iload 5, 2) := by decide +kernel
theorem dX0_place_146 : decode cX0_place 146 = .ok (.iload 7, 2) := by decide +kernel
theorem dX0_place_148 : decode cX0_place 148 = .ok (.iastore, 1) := by decide +kernel
theorem dX0_place_149 : decode cX0_place 149 = .ok (.iinc 5 1, 3) := by decide +kernel
theorem dX0_place_152 : decode cX0_place 152 = .ok (.goto (-129), 3) := by decide +kernel
theorem dX0_place_155 : decode cX0_place 155 = .ok (.return_, 1) := by decide +kernel
theorem dX0_keep_0 : decode cX0_keep 0 = .ok (.aload_n 0, 1) := by decide +kernel
theorem dX0_keep_1 : decode cX0_keep 1 = .ok (.lload_n 1, 1) := by decide +kernel
theorem dX0_keep_2 : decode cX0_keep 2 = .ok (.putfield 94, 3) := by decide +kernel
theorem dX0_keep_5 : decode cX0_keep 5 = .ok (.aload_n 0, 1) := by decide +kernel
theorem dX0_keep_6 : decode cX0_keep 6 = .ok (.getfield 47, 3) := by decide +kernel
theorem dX0_keep_9 : decode cX0_keep 9 = .ok (.iconst 0, 1) := by decide +kernel
theorem dX0_keep_10 : decode cX0_keep 10 = .ok (.aload_n 0, 1) := by decide +kernel
theorem dX0_keep_11 : decode cX0_keep 11 = .ok (.getfield 21, 3) := by decide +kernel
theorem dX0_keep_14 : decode cX0_keep 14 = .ok (.iconst 0, 1) := by decide +kernel
theorem dX0_keep_15 : decode cX0_keep 15 = .ok (.bipush 6, 2) := by decide +kernel
theorem dX0_keep_17 : decode cX0_keep 17 = .ok (.invokestatic 114, 3) := by decide +kernel
theorem dX0_keep_20 : decode cX0_keep 20 = .ok (.return_, 1) := by decide +kernel
theorem dX0_tell_0 : decode cX0_tell 0 = .ok (.iconst 0, 1) := by decide +kernel
theorem dX0_tell_1 : decode cX0_tell 1 = .ok (.istore_n 3, 1) := by decide +kernel
theorem dX0_tell_2 : decode cX0_tell 2 = .ok (.iconst 0, 1) := by decide +kernel
theorem dX0_tell_3 : decode cX0_tell 3 = .ok (.istore 4, 2) := by decide +kernel
theorem dX0_tell_5 : decode cX0_tell 5 = .ok (.iload 4, 2) := by decide +kernel
theorem dX0_tell_7 : decode cX0_tell 7 = .ok (.aload_n 0, 1) := by decide +kernel
theorem dX0_tell_8 : decode cX0_tell 8 = .ok (.getfield 56, 3) := by decide +kernel
theorem dX0_tell_11 : decode cX0_tell 11 = .ok (.if_icmp .ge 27, 3) := by decide +kernel
theorem dX0_tell_14 : decode cX0_tell 14 = .ok (.aload_n 0, 1) := by decide +kernel
theorem dX0_tell_15 : decode cX0_tell 15 = .ok (.getfield 21, 3) := by decide +kernel
theorem dX0_tell_18 : decode cX0_tell 18 = .ok (.iload 4, 2) := by decide +kernel
theorem dX0_tell_20 : decode cX0_tell 20 = .ok (.iaload, 1) := by decide +kernel
theorem dX0_tell_21 : decode cX0_tell 21 = .ok (.iload_n 2, 1) := by decide +kernel
theorem dX0_tell_22 : decode cX0_tell 22 = .ok (.if_icmp .ne 10, 3) := by decide +kernel
theorem dX0_tell_25 : decode cX0_tell 25 = .ok (.iload_n 3, 1) := by decide +kernel
theorem dX0_tell_26 : decode cX0_tell 26 = .ok (.iconst 1, 1) := by decide +kernel
theorem dX0_tell_27 : decode cX0_tell 27 = .ok (.iload 4, 2) := by decide +kernel
theorem dX0_tell_29 : decode cX0_tell 29 = .ok (.ishl, 1) := by decide +kernel
theorem dX0_tell_30 : decode cX0_tell 30 = .ok (.ior, 1) := by decide +kernel
theorem dX0_tell_31 : decode cX0_tell 31 = .ok (.istore_n 3, 1) := by decide +kernel
theorem dX0_tell_32 : decode cX0_tell 32 = .ok (.iinc 4 1, 3) := by decide +kernel
theorem dX0_tell_35 : decode cX0_tell 35 = .ok (.goto (-30), 3) := by decide +kernel
theorem dX0_tell_38 : decode cX0_tell 38 = .ok (.bipush 6, 2) := by decide +kernel
theorem dX0_tell_40 : decode cX0_tell 40 = .ok (.istore 4, 2) := by decide +kernel
theorem dX0_tell_42 : decode cX0_tell 42 = .ok (.iconst 0, 1) := by decide +kernel
theorem dX0_tell_43 : decode cX0_tell 43 = .ok (.istore 5, 2) := by decide +kernel
theorem dX0_tell_45 : decode cX0_tell 45 = .ok (.iconst 0, 1) := by decide +kernel
theorem dX0_tell_46 : decode cX0_tell 46 = .ok (.istore 6, 2) := by decide +kernel
theorem dX0_tell_48 : decode cX0_tell 48 = .ok (.iload 6, 2) := by decide +kernel
theorem dX0_tell_50 : decode cX0_tell 50 = .ok (.bipush 6, 2) := by decide +kernel
theorem dX0_tell_52 : decode cX0_tell 52 = .ok (.if_icmp .ge 119, 3) := by decide +kernel
theorem dX0_tell_55 : decode cX0_tell 55 = .ok (.iload_n 3, 1) := by decide +kernel
theorem dX0_tell_56 : decode cX0_tell 56 = .ok (.ifCond .eq 115, 3) := by decide +kernel
theorem dX0_tell_59 : decode cX0_tell 59 = .ok (.aload_n 1, 1) := by decide +kernel
theorem dX0_tell_60 : decode cX0_tell 60 = .ok (.iload_n 3, 1) := by decide +kernel
theorem dX0_tell_61 : decode cX0_tell 61 = .ok (.iload 4, 2) := by decide +kernel
theorem dX0_tell_63 : decode cX0_tell 63 = .ok (.invokevirtual 120, 3) := by decide +kernel
theorem dX0_tell_66 : decode cX0_tell 66 = .ok (.istore 7, 2) := by decide +kernel
theorem dX0_tell_68 : decode cX0_tell 68 = .ok (.iload 7, 2) := by decide +kernel
theorem dX0_tell_70 : decode cX0_tell 70 = .ok (.ifCond .lt 10, 3) := by decide +kernel
theorem dX0_tell_73 : decode cX0_tell 73 = .ok (.iload 7, 2) := by decide +kernel
theorem dX0_tell_75 : decode cX0_tell 75 = .ok (.bipush 6, 2) := by decide +kernel
theorem dX0_tell_77 : decode cX0_tell 77 = .ok (.if_icmp .lt 4, 3) := by decide +kernel
theorem dX0_tell_80 : decode cX0_tell 80 = .ok (.return_, 1) := by decide +kernel
theorem dX0_tell_81 : decode cX0_tell 81 = .ok (.aload_n 0, 1) := by decide +kernel
theorem dX0_tell_82 : decode cX0_tell 82 = .ok (.getfield 24, 3) := by decide +kernel
theorem dX0_tell_85 : decode cX0_tell 85 = .ok (.iload 7, 2) := by decide +kernel
theorem dX0_tell_87 : decode cX0_tell 87 = .ok (.iload 5, 2) := by decide +kernel
theorem dX0_tell_89 : decode cX0_tell 89 = .ok (.aload_n 1, 1) := by decide +kernel
theorem dX0_tell_90 : decode cX0_tell 90 = .ok (.aload_n 0, 1) := by decide +kernel
theorem dX0_tell_91 : decode cX0_tell 91 = .ok (.iload 4, 2) := by decide +kernel
theorem dX0_tell_93 : decode cX0_tell 93 = .ok (.iload 7, 2) := by decide +kernel
theorem dX0_tell_95 : decode cX0_tell 95 = .ok (.invokevirtual 123, 3) := by decide +kernel
theorem dX0_tell_98 : decode cX0_tell 98 = .ok (.iadd, 1) := by decide +kernel
theorem dX0_tell_99 : decode cX0_tell 99 = .ok (.iastore, 1) := by decide +kernel
theorem dX0_tell_100 : decode cX0_tell 100 = .ok (.aload_n 0, 1) := by decide +kernel
theorem dX0_tell_101 : decode cX0_tell 101 = .ok (.getfield 27, 3) := by decide +kernel
theorem dX0_tell_104 : decode cX0_tell 104 = .ok (.iload 7, 2) := by decide +kernel
theorem dX0_tell_106 : decode cX0_tell 106 = .ok (.aload_n 0, 1) := by decide +kernel
theorem dX0_tell_107 : decode cX0_tell 107 = .ok (.getfield 24, 3) := by decide +kernel
theorem dX0_tell_110 : decode cX0_tell 110 = .ok (.iload 7, 2) := by decide +kernel
theorem dX0_tell_112 : decode cX0_tell 112 = .ok (.iaload, 1) := by decide +kernel
theorem dX0_tell_113 : decode cX0_tell 113 = .ok (.aload_n 1, 1) := by decide +kernel
theorem dX0_tell_114 : decode cX0_tell 114 = .ok (.aload_n 0, 1) := by decide +kernel
theorem dX0_tell_115 : decode cX0_tell 115 = .ok (.iload 7, 2) := by decide +kernel
theorem dX0_tell_117 : decode cX0_tell 117 = .ok (.invokevirtual 127, 3) := by decide +kernel
theorem dX0_tell_120 : decode cX0_tell 120 = .ok (.iadd, 1) := by decide +kernel
theorem dX0_tell_121 : decode cX0_tell 121 = .ok (.iastore, 1) := by decide +kernel
theorem dX0_tell_122 : decode cX0_tell 122 = .ok (.aload_n 0, 1) := by decide +kernel
theorem dX0_tell_123 : decode cX0_tell 123 = .ok (.getfield 44, 3) := by decide +kernel
theorem dX0_tell_126 : decode cX0_tell 126 = .ok (.iload_n 2, 1) := by decide +kernel
theorem dX0_tell_127 : decode cX0_tell 127 = .ok (.bipush 6, 2) := by decide +kernel
theorem dX0_tell_129 : decode cX0_tell 129 = .ok (.imul, 1) := by decide +kernel
theorem dX0_tell_130 : decode cX0_tell 130 = .ok (.iload 6, 2) := by decide +kernel
theorem dX0_tell_132 : decode cX0_tell 132 = .ok (.iadd, 1) := by decide +kernel
theorem dX0_tell_133 : decode cX0_tell 133 = .ok (.aload_n 0, 1) := by decide +kernel
theorem dX0_tell_134 : decode cX0_tell 134 = .ok (.getfield 35, 3) := by decide +kernel
theorem dX0_tell_137 : decode cX0_tell 137 = .ok (.iload 7, 2) := by decide +kernel
theorem dX0_tell_139 : decode cX0_tell 139 = .ok (.iaload, 1) := by decide +kernel
theorem dX0_tell_140 : decode cX0_tell 140 = .ok (.iastore, 1) := by decide +kernel
theorem dX0_tell_141 : decode cX0_tell 141 = .ok (.aload_n 0, 1) := by decide +kernel
theorem dX0_tell_142 : decode cX0_tell 142 = .ok (.getfield 27, 3) := by decide +kernel
theorem dX0_tell_145 : decode cX0_tell 145 = .ok (.iload 7, 2) := by decide +kernel
theorem dX0_tell_147 : decode cX0_tell 147 = .ok (.iaload, 1) := by decide +kernel
theorem dX0_tell_148 : decode cX0_tell 148 = .ok (.iconst 3, 1) := by decide +kernel
theorem dX0_tell_149 : decode cX0_tell 149 = .ok (.iadd, 1) := by decide +kernel
theorem dX0_tell_150 : decode cX0_tell 150 = .ok (.istore 5, 2) := by decide +kernel
theorem dX0_tell_152 : decode cX0_tell 152 = .ok (.iload 7, 2) := by decide +kernel
theorem dX0_tell_154 : decode cX0_tell 154 = .ok (.istore 4, 2) := by decide +kernel
theorem dX0_tell_156 : decode cX0_tell 156 = .ok (.iload_n 3, 1) := by decide +kernel
theorem dX0_tell_157 : decode cX0_tell 157 = .ok (.iconst 1, 1) := by decide +kernel
theorem dX0_tell_158 : decode cX0_tell 158 = .ok (.iload 7, 2) := by decide +kernel
theorem dX0_tell_160 : decode cX0_tell 160 = .ok (.ishl, 1) := by decide +kernel
theorem dX0_tell_161 : decode cX0_tell 161 = .ok (.iconst (-1), 1) := by decide +kernel
theorem dX0_tell_162 : decode cX0_tell 162 = .ok (.ixor, 1) := by decide +kernel
theorem dX0_tell_163 : decode cX0_tell 163 = .ok (.iand, 1) := by decide +kernel
theorem dX0_tell_164 : decode cX0_tell 164 = .ok (.istore_n 3, 1) := by decide +kernel
theorem dX0_tell_165 : decode cX0_tell 165 = .ok (.iinc 6 1, 3) := by decide +kernel
theorem dX0_tell_168 : decode cX0_tell 168 = .ok (.goto (-120), 3) := by decide +kernel
theorem dX0_tell_171 : decode cX0_tell 171 = .ok (.return_, 1) := by decide +kernel
