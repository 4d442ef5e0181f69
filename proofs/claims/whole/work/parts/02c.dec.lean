theorem dX4_init_0 : decode cX4_init 0 = .ok (.aload_n 0, 1) := by decide +kernel
theorem dX4_init_1 : decode cX4_init 1 = .ok (.invokespecial 1, 3) := by decide +kernel
theorem dX4_init_4 : decode cX4_init 4 = .ok (.aload_n 0, 1) := by decide +kernel
theorem dX4_init_5 : decode cX4_init 5 = .ok (.iconst 4, 1) := by decide +kernel
theorem dX4_init_6 : decode cX4_init 6 = .ok (.anewarray 9, 3) := by decide +kernel
theorem dX4_init_9 : decode cX4_init 9 = .ok (.putfield 11, 3) := by decide +kernel
theorem dX4_init_12 : decode cX4_init 12 = .ok (.aload_n 0, 1) := by decide +kernel
theorem dX4_init_13 : decode cX4_init 13 = .ok (.bipush 6, 2) := by decide +kernel
theorem dX4_init_15 : decode cX4_init 15 = .ok (.anewarray 15, 3) := by decide +kernel
theorem dX4_init_18 : decode cX4_init 18 = .ok (.putfield 17, 3) := by decide +kernel
theorem dX4_init_21 : decode cX4_init 21 = .ok (.aload_n 0, 1) := by decide +kernel
theorem dX4_init_22 : decode cX4_init 22 = .ok (.new 21, 3) := by decide +kernel
theorem dX4_init_25 : decode cX4_init 25 = .ok (.dup, 1) := by decide +kernel
theorem dX4_init_26 : decode cX4_init 26 = .ok (.invokespecial 23, 3) := by decide +kernel
theorem dX4_init_29 : decode cX4_init 29 = .ok (.putfield 24, 3) := by decide +kernel
theorem dX4_init_32 : decode cX4_init 32 = .ok (.aload_n 0, 1) := by decide +kernel
theorem dX4_init_33 : decode cX4_init 33 = .ok (.iconst 2, 1) := by decide +kernel
theorem dX4_init_34 : decode cX4_init 34 = .ok (.bipush 60, 2) := by decide +kernel
theorem dX4_init_36 : decode cX4_init 36 = .ok (.iload_n 1, 1) := by decide +kernel
theorem dX4_init_37 : decode cX4_init 37 = .ok (.invokestatic 28, 3) := by decide +kernel
theorem dX4_init_40 : decode cX4_init 40 = .ok (.invokestatic 34, 3) := by decide +kernel
theorem dX4_init_43 : decode cX4_init 43 = .ok (.putfield 37, 3) := by decide +kernel
theorem dX4_init_46 : decode cX4_init 46 = .ok (.return_, 1) := by decide +kernel
theorem dX4_car_0 : decode cX4_car 0 = .ok (.aload_n 0, 1) := by decide +kernel
theorem dX4_car_1 : decode cX4_car 1 = .ok (.iload_n 1, 1) := by decide +kernel
theorem dX4_car_2 : decode cX4_car 2 = .ok (.invokevirtual 41, 3) := by decide +kernel
theorem dX4_car_5 : decode cX4_car 5 = .ok (.ifCond .eq 13, 3) := by decide +kernel
theorem dX4_car_8 : decode cX4_car 8 = .ok (.iload_n 2, 1) := by decide +kernel
theorem dX4_car_9 : decode cX4_car 9 = .ok (.iconst 1, 1) := by decide +kernel
theorem dX4_car_10 : decode cX4_car 10 = .ok (.if_icmp .lt 8, 3) := by decide +kernel
theorem dX4_car_13 : decode cX4_car 13 = .ok (.iload_n 2, 1) := by decide +kernel
theorem dX4_car_14 : decode cX4_car 14 = .ok (.iconst 5, 1) := by decide +kernel
theorem dX4_car_15 : decode cX4_car 15 = .ok (.if_icmp .le 13, 3) := by decide +kernel
theorem dX4_car_18 : decode cX4_car 18 = .ok (.new 45, 3) := by decide +kernel
theorem dX4_car_21 : decode cX4_car 21 = .ok (.dup, 1) := by decide +kernel
theorem dX4_car_22 : decode cX4_car 22 = .ok (.ldc 47, 2) := by decide +kernel
theorem dX4_car_24 : decode cX4_car 24 = .ok (.invokespecial 49, 3) := by decide +kernel
theorem dX4_car_27 : decode cX4_car 27 = .ok (.athrow, 1) := by decide +kernel
theorem dX4_car_28 : decode cX4_car 28 = .ok (.aload_n 0, 1) := by decide +kernel
theorem dX4_car_29 : decode cX4_car 29 = .ok (.getfield 52, 3) := by decide +kernel
theorem dX4_car_32 : decode cX4_car 32 = .ok (.aload_n 0, 1) := by decide +kernel
theorem dX4_car_33 : decode cX4_car 33 = .ok (.getfield 11, 3) := by decide +kernel
theorem dX4_car_36 : decode cX4_car 36 = .ok (.arraylength, 1) := by decide +kernel
theorem dX4_car_37 : decode cX4_car 37 = .ok (.if_icmp .lt 13, 3) := by decide +kernel
theorem dX4_car_40 : decode cX4_car 40 = .ok (.new 55, 3) := by decide +kernel
theorem dX4_car_43 : decode cX4_car 43 = .ok (.dup, 1) := by decide +kernel
theorem dX4_car_44 : decode cX4_car 44 = .ok (.ldc 57, 2) := by decide +kernel
theorem dX4_car_46 : decode cX4_car 46 = .ok (.invokespecial 59, 3) := by decide +kernel
theorem dX4_car_49 : decode cX4_car 49 = .ok (.athrow, 1) := by decide +kernel
theorem dX4_car_50 : decode cX4_car 50 = .ok (.aload_n 0, 1) := by decide +kernel
theorem dX4_car_51 : decode cX4_car 51 = .ok (.getfield 11, 3) := by decide +kernel
theorem dX4_car_54 : decode cX4_car 54 = .ok (.aload_n 0, 1) := by decide +kernel
theorem dX4_car_55 : decode cX4_car 55 = .ok (.getfield 52, 3) := by decide +kernel
theorem dX4_car_58 : decode cX4_car 58 = .ok (.new 9, 3) := by decide +kernel
theorem dX4_car_61 : decode cX4_car 61 = .ok (.dup, 1) := by decide +kernel
theorem dX4_car_62 : decode cX4_car 62 = .ok (.iload_n 2, 1) := by decide +kernel
theorem dX4_car_63 : decode cX4_car 63 = .ok (.iload_n 1, 1) := by decide +kernel
theorem dX4_car_64 : decode cX4_car 64 = .ok (.aload_n 0, 1) := by decide +kernel
theorem dX4_car_65 : decode cX4_car 65 = .ok (.getfield 37, 3) := by decide +kernel
theorem dX4_car_68 : decode cX4_car 68 = .ok (.iconst 1, 1) := by decide +kernel
theorem dX4_car_69 : decode cX4_car 69 = .ok (.isub, 1) := by decide +kernel
theorem dX4_car_70 : decode cX4_car 70 = .ok (.invokespecial 60, 3) := by decide +kernel
theorem dX4_car_73 : decode cX4_car 73 = .ok (.aastore, 1) := by decide +kernel
theorem dX4_car_74 : decode cX4_car 74 = .ok (.aload_n 0, 1) := by decide +kernel
theorem dX4_car_75 : decode cX4_car 75 = .ok (.dup, 1) := by decide +kernel
theorem dX4_car_76 : decode cX4_car 76 = .ok (.getfield 52, 3) := by decide +kernel
theorem dX4_car_79 : decode cX4_car 79 = .ok (.iconst 1, 1) := by decide +kernel
theorem dX4_car_80 : decode cX4_car 80 = .ok (.iadd, 1) := by decide +kernel
theorem dX4_car_81 : decode cX4_car 81 = .ok (.putfield 52, 3) := by decide +kernel
theorem dX4_car_84 : decode cX4_car 84 = .ok (.aload_n 0, 1) := by decide +kernel
theorem dX4_car_85 : decode cX4_car 85 = .ok (.getfield 52, 3) := by decide +kernel
theorem dX4_car_88 : decode cX4_car 88 = .ok (.iconst 1, 1) := by decide +kernel
theorem dX4_car_89 : decode cX4_car 89 = .ok (.isub, 1) := by decide +kernel
theorem dX4_car_90 : decode cX4_car 90 = .ok (.ireturn, 1) := by decide +kernel
theorem dX4_free_0 : decode cX4_free 0 = .ok (.aload_n 0, 1) := by decide +kernel
theorem dX4_free_1 : decode cX4_free 1 = .ok (.iload_n 1, 1) := by decide +kernel
theorem dX4_free_2 : decode cX4_free 2 = .ok (.invokevirtual 63, 3) := by decide +kernel
theorem dX4_free_5 : decode cX4_free 5 = .ok (.astore 4, 2) := by decide +kernel
theorem dX4_free_7 : decode cX4_free 7 = .ok (.aload 4, 2) := by decide +kernel
theorem dX4_free_9 : decode cX4_free 9 = .ok (.ifnull 21, 3) := by decide +kernel
theorem dX4_free_12 : decode cX4_free 12 = .ok (.aload_n 0, 1) := by decide +kernel
theorem dX4_free_13 : decode cX4_free 13 = .ok (.iload_n 2, 1) := by decide +kernel
theorem dX4_free_14 : decode cX4_free 14 = .ok (.invokevirtual 41, 3) := by decide +kernel
theorem dX4_free_17 : decode cX4_free 17 = .ok (.ifCond .eq 13, 3) := by decide +kernel
theorem dX4_free_20 : decode cX4_free 20 = .ok (.iload_n 3, 1) := by decide +kernel
theorem dX4_free_21 : decode cX4_free 21 = .ok (.ifCond .lt 9, 3) := by decide +kernel
theorem dX4_free_24 : decode cX4_free 24 = .ok (.iload_n 3, 1) := by decide +kernel
theorem dX4_free_25 : decode cX4_free 25 = .ok (.ldc 67, 2) := by decide +kernel
theorem dX4_free_27 : decode cX4_free 27 = .ok (.if_icmp .le 13, 3) := by decide +kernel
theorem dX4_free_30 : decode cX4_free 30 = .ok (.new 45, 3) := by decide +kernel
theorem dX4_free_33 : decode cX4_free 33 = .ok (.dup, 1) := by decide +kernel
theorem dX4_free_34 : decode cX4_free 34 = .ok (.ldc 68, 2) := by decide +kernel
theorem dX4_free_36 : decode cX4_free 36 = .ok (.invokespecial 49, 3) := by decide +kernel
theorem dX4_free_39 : decode cX4_free 39 = .ok (.athrow, 1) := by decide +kernel
theorem dX4_free_40 : decode cX4_free 40 = .ok (.aload 4, 2) := by decide +kernel
theorem dX4_free_42 : decode cX4_free 42 = .ok (.iload_n 2, 1) := by decide +kernel
theorem dX4_free_43 : decode cX4_free 43 = .ok (.putfield 70, 3) := by decide +kernel
theorem dX4_free_46 : decode cX4_free 46 = .ok (.aload 4, 2) := by decide +kernel
theorem dX4_free_48 : decode cX4_free 48 = .ok (.iload_n 3, 1) := by decide +kernel
theorem dX4_free_49 : decode cX4_free 49 = .ok (.putfield 73, 3) := by decide +kernel
theorem dX4_free_52 : decode cX4_free 52 = .ok (.return_, 1) := by decide +kernel
theorem dX4_zone_0 : decode cX4_zone 0 = .ok (.aload_n 0, 1) := by decide +kernel
theorem dX4_zone_1 : decode cX4_zone 1 = .ok (.iload_n 1, 1) := by decide +kernel
theorem dX4_zone_2 : decode cX4_zone 2 = .ok (.invokevirtual 63, 3) := by decide +kernel
theorem dX4_zone_5 : decode cX4_zone 5 = .ok (.astore 4, 2) := by decide +kernel
theorem dX4_zone_7 : decode cX4_zone 7 = .ok (.aload 4, 2) := by decide +kernel
theorem dX4_zone_9 : decode cX4_zone 9 = .ok (.ifnull 24, 3) := by decide +kernel
theorem dX4_zone_12 : decode cX4_zone 12 = .ok (.aload_n 0, 1) := by decide +kernel
theorem dX4_zone_13 : decode cX4_zone 13 = .ok (.iload_n 2, 1) := by decide +kernel
theorem dX4_zone_14 : decode cX4_zone 14 = .ok (.invokevirtual 41, 3) := by decide +kernel
theorem dX4_zone_17 : decode cX4_zone 17 = .ok (.ifCond .eq 16, 3) := by decide +kernel
theorem dX4_zone_20 : decode cX4_zone 20 = .ok (.aload_n 0, 1) := by decide +kernel
theorem dX4_zone_21 : decode cX4_zone 21 = .ok (.iload_n 3, 1) := by decide +kernel
theorem dX4_zone_22 : decode cX4_zone 22 = .ok (.invokevirtual 41, 3) := by decide +kernel
theorem dX4_zone_25 : decode cX4_zone 25 = .ok (.ifCond .eq 8, 3) := by decide +kernel
theorem dX4_zone_28 : decode cX4_zone 28 = .ok (.iload_n 2, 1) := by decide +kernel
theorem dX4_zone_29 : decode cX4_zone 29 = .ok (.iload_n 3, 1) := by decide +kernel
theorem dX4_zone_30 : decode cX4_zone 30 = .ok (.if_icmp .le 13, 3) := by decide +kernel
theorem dX4_zone_33 : decode cX4_zone 33 = .ok (.new 45, 3) := by decide +kernel
theorem dX4_zone_36 : decode cX4_zone 36 = .ok (.dup, 1) := by decide +kernel
theorem dX4_zone_37 : decode cX4_zone 37 = .ok (.ldc 76, 2) := by decide +kernel
theorem dX4_zone_39 : decode cX4_zone 39 = .ok (.invokespecial 49, 3) := by decide +kernel
theorem dX4_zone_42 : decode cX4_zone 42 = .ok (.athrow, 1) := by decide +kernel
theorem dX4_zone_43 : decode cX4_zone 43 = .ok (.aload 4, 2) := by decide +kernel
theorem dX4_zone_45 : decode cX4_zone 45 = .ok (.iload_n 2, 1) := by decide +kernel
theorem dX4_zone_46 : decode cX4_zone 46 = .ok (.putfield 78, 3) := by decide +kernel
theorem dX4_zone_49 : decode cX4_zone 49 = .ok (.aload 4, 2) := by decide +kernel
theorem dX4_zone_51 : decode cX4_zone 51 = .ok (.iload_n 3, 1) := by decide +kernel
theorem dX4_zone_52 : decode cX4_zone 52 = .ok (.putfield 81, 3) := by decide +kernel
theorem dX4_zone_55 : decode cX4_zone 55 = .ok (.return_, 1) := by decide +kernel
theorem dX4_sleep_0 : decode cX4_sleep 0 = .ok (.aload_n 0, 1) := by decide +kernel
theorem dX4_sleep_1 : decode cX4_sleep 1 = .ok (.iload_n 1, 1) := by decide +kernel
theorem dX4_sleep_2 : decode cX4_sleep 2 = .ok (.invokevirtual 63, 3) := by decide +kernel
theorem dX4_sleep_5 : decode cX4_sleep 5 = .ok (.astore_n 3, 1) := by decide +kernel
theorem dX4_sleep_6 : decode cX4_sleep 6 = .ok (.aload_n 3, 1) := by decide +kernel
theorem dX4_sleep_7 : decode cX4_sleep 7 = .ok (.ifnonnull 13, 3) := by decide +kernel
theorem dX4_sleep_10 : decode cX4_sleep 10 = .ok (.new 45, 3) := by decide +kernel
theorem dX4_sleep_13 : decode cX4_sleep 13 = .ok (.dup, 1) := by decide +kernel
theorem dX4_sleep_14 : decode cX4_sleep 14 = .ok (.ldc 84, 2) := by decide +kernel
theorem dX4_sleep_16 : decode cX4_sleep 16 = .ok (.invokespecial 49, 3) := by decide +kernel
theorem dX4_sleep_19 : decode cX4_sleep 19 = .ok (.athrow, 1) := by decide +kernel
theorem dX4_sleep_20 : decode cX4_sleep 20 = .ok (.aload_n 3, 1) := by decide +kernel
theorem dX4_sleep_21 : decode cX4_sleep 21 = .ok (.getfield 86, 3) := by decide +kernel
theorem dX4_sleep_24 : decode cX4_sleep 24 = .ok (.istore 4, 2) := by decide +kernel
theorem dX4_sleep_26 : decode cX4_sleep 26 = .ok (.aload_n 3, 1) := by decide +kernel
theorem dX4_sleep_27 : decode cX4_sleep 27 = .ok (.iload_n 2, 1) := by decide +kernel
theorem dX4_sleep_28 : decode cX4_sleep 28 = .ok (.putfield 86, 3) := by decide +kernel
theorem dX4_sleep_31 : decode cX4_sleep 31 = .ok (.iload 4, 2) := by decide +kernel
theorem dX4_sleep_33 : decode cX4_sleep 33 = .ok (.ireturn, 1) := by decide +kernel
theorem dX4_call_0 : decode cX4_call 0 = .ok (.aload_n 0, 1) := by decide +kernel
theorem dX4_call_1 : decode cX4_call 1 = .ok (.iload_n 1, 1) := by decide +kernel
theorem dX4_call_2 : decode cX4_call 2 = .ok (.invokevirtual 41, 3) := by decide +kernel
theorem dX4_call_5 : decode cX4_call 5 = .ok (.ifCond .eq 16, 3) := by decide +kernel
theorem dX4_call_8 : decode cX4_call 8 = .ok (.aload_n 0, 1) := by decide +kernel
theorem dX4_call_9 : decode cX4_call 9 = .ok (.iload_n 2, 1) := by decide +kernel
theorem dX4_call_10 : decode cX4_call 10 = .ok (.invokevirtual 41, 3) := by decide +kernel
theorem dX4_call_13 : decode cX4_call 13 = .ok (.ifCond .eq 8, 3) := by decide +kernel
theorem dX4_call_16 : decode cX4_call 16 = .ok (.iload_n 1, 1) := by decide +kernel
theorem dX4_call_17 : decode cX4_call 17 = .ok (.iload_n 2, 1) := by decide +kernel
theorem dX4_call_18 : decode cX4_call 18 = .ok (.if_icmp .ne 13, 3) := by decide +kernel
theorem dX4_call_21 : decode cX4_call 21 = .ok (.new 45, 3) := by decide +kernel
theorem dX4_call_24 : decode cX4_call 24 = .ok (.dup, 1) := by decide +kernel
theorem dX4_call_25 : decode cX4_call 25 = .ok (.ldc 90, 2) := by decide +kernel
theorem dX4_call_27 : decode cX4_call 27 = .ok (.invokespecial 49, 3) := by decide +kernel
theorem dX4_call_30 : decode cX4_call 30 = .ok (.athrow, 1) := by decide +kernel
theorem dX4_call_31 : decode cX4_call 31 = .ok (.aload_n 0, 1) := by decide +kernel
theorem dX4_call_32 : decode cX4_call 32 = .ok (.getfield 92, 3) := by decide +kernel
theorem dX4_call_35 : decode cX4_call 35 = .ok (.aload_n 0, 1) := by decide +kernel
theorem dX4_call_36 : decode cX4_call 36 = .ok (.getfield 17, 3) := by decide +kernel
theorem dX4_call_39 : decode cX4_call 39 = .ok (.arraylength, 1) := by decide +kernel
theorem dX4_call_40 : decode cX4_call 40 = .ok (.if_icmp .ge 13, 3) := by decide +kernel
theorem dX4_call_43 : decode cX4_call 43 = .ok (.aload_n 0, 1) := by decide +kernel
theorem dX4_call_44 : decode cX4_call 44 = .ok (.getfield 95, 3) := by decide +kernel
theorem dX4_call_47 : decode cX4_call 47 = .ok (.sipush 400, 3) := by decide +kernel
theorem dX4_call_50 : decode cX4_call 50 = .ok (.if_icmp .lt 13, 3) := by decide +kernel
theorem dX4_call_53 : decode cX4_call 53 = .ok (.new 55, 3) := by decide +kernel
theorem dX4_call_56 : decode cX4_call 56 = .ok (.dup, 1) := by decide +kernel
theorem dX4_call_57 : decode cX4_call 57 = .ok (.ldc 98, 2) := by decide +kernel
theorem dX4_call_59 : decode cX4_call 59 = .ok (.invokespecial 59, 3) := by decide +kernel
theorem dX4_call_62 : decode cX4_call 62 = .ok (.athrow, 1) := by decide +kernel
theorem dX4_call_63 : decode cX4_call 63 = .ok (.aload_n 0, 1) := by decide +kernel
theorem dX4_call_64 : decode cX4_call 64 = .ok (.getfield 17, 3) := by decide +kernel
theorem dX4_call_67 : decode cX4_call 67 = .ok (.aload_n 0, 1) := by decide +kernel
theorem dX4_call_68 : decode cX4_call 68 = .ok (.getfield 92, 3) := by decide +kernel
theorem dX4_call_71 : decode cX4_call 71 = .ok (.new 15, 3) := by decide +kernel
theorem dX4_call_74 : decode cX4_call 74 = .ok (.dup, 1) := by decide +kernel
theorem dX4_call_75 : decode cX4_call 75 = .ok (.aload_n 0, 1) := by decide +kernel
theorem dX4_call_76 : decode cX4_call 76 = .ok (.getfield 95, 3) := by decide +kernel
theorem dX4_call_79 : decode cX4_call 79 = .ok (.iload_n 1, 1) := by decide +kernel
theorem dX4_call_80 : decode cX4_call 80 = .ok (.iload_n 2, 1) := by decide +kernel
theorem dX4_call_81 : decode cX4_call 81 = .ok (.aload_n 0, 1) := by decide +kernel
theorem dX4_call_82 : decode cX4_call 82 = .ok (.getfield 100, 3) := by decide +kernel
theorem dX4_call_85 : decode cX4_call 85 = .ok (.invokespecial 103, 3) := by decide +kernel
theorem dX4_call_88 : decode cX4_call 88 = .ok (.aastore, 1) := by decide +kernel
theorem dX4_call_89 : decode cX4_call 89 = .ok (.aload_n 0, 1) := by decide +kernel
theorem dX4_call_90 : decode cX4_call 90 = .ok (.dup, 1) := by decide +kernel
theorem dX4_call_91 : decode cX4_call 91 = .ok (.getfield 92, 3) := by decide +kernel
theorem dX4_call_94 : decode cX4_call 94 = .ok (.iconst 1, 1) := by decide +kernel
theorem dX4_call_95 : decode cX4_call 95 = .ok (.iadd, 1) := by decide +kernel
theorem dX4_call_96 : decode cX4_call 96 = .ok (.putfield 92, 3) := by decide +kernel
theorem dX4_call_99 : decode cX4_call 99 = .ok (.aload_n 0, 1) := by decide +kernel
theorem dX4_call_100 : decode cX4_call 100 = .ok (.dup, 1) := by decide +kernel
theorem dX4_call_101 : decode cX4_call 101 = .ok (.getfield 95, 3) := by decide +kernel
theorem dX4_call_104 : decode cX4_call 104 = .ok (.iconst 1, 1) := by decide +kernel
theorem dX4_call_105 : decode cX4_call 105 = .ok (.iadd, 1) := by decide +kernel
theorem dX4_call_106 : decode cX4_call 106 = .ok (.putfield 95, 3) := by decide +kernel
theorem dX4_call_109 : decode cX4_call 109 = .ok (.aload_n 0, 1) := by decide +kernel
theorem dX4_call_110 : decode cX4_call 110 = .ok (.getfield 95, 3) := by decide +kernel
theorem dX4_call_113 : decode cX4_call 113 = .ok (.iconst 1, 1) := by decide +kernel
theorem dX4_call_114 : decode cX4_call 114 = .ok (.isub, 1) := by decide +kernel
theorem dX4_call_115 : decode cX4_call 115 = .ok (.ireturn, 1) := by decide +kernel
theorem dX4_urgent_0 : decode cX4_urgent 0 = .ok (.aload_n 0, 1) := by decide +kernel
theorem dX4_urgent_1 : decode cX4_urgent 1 = .ok (.iload_n 1, 1) := by decide +kernel
theorem dX4_urgent_2 : decode cX4_urgent 2 = .ok (.invokevirtual 106, 3) := by decide +kernel
theorem dX4_urgent_5 : decode cX4_urgent 5 = .ok (.astore_n 3, 1) := by decide +kernel
theorem dX4_urgent_6 : decode cX4_urgent 6 = .ok (.aload_n 3, 1) := by decide +kernel
theorem dX4_urgent_7 : decode cX4_urgent 7 = .ok (.ifnonnull 13, 3) := by decide +kernel
theorem dX4_urgent_10 : decode cX4_urgent 10 = .ok (.new 45, 3) := by decide +kernel
theorem dX4_urgent_13 : decode cX4_urgent 13 = .ok (.dup, 1) := by decide +kernel
theorem dX4_urgent_14 : decode cX4_urgent 14 = .ok (.ldc 110, 2) := by decide +kernel
theorem dX4_urgent_16 : decode cX4_urgent 16 = .ok (.invokespecial 49, 3) := by decide +kernel
theorem dX4_urgent_19 : decode cX4_urgent 19 = .ok (.athrow, 1) := by decide +kernel
theorem dX4_urgent_20 : decode cX4_urgent 20 = .ok (.aload_n 3, 1) := by decide +kernel
theorem dX4_urgent_21 : decode cX4_urgent 21 = .ok (.getfield 112, 3) := by decide +kernel
theorem dX4_urgent_24 : decode cX4_urgent 24 = .ok (.istore 4, 2) := by decide +kernel
theorem dX4_urgent_26 : decode cX4_urgent 26 = .ok (.aload_n 3, 1) := by decide +kernel
theorem dX4_urgent_27 : decode cX4_urgent 27 = .ok (.iload_n 2, 1) := by decide +kernel
theorem dX4_urgent_28 : decode cX4_urgent 28 = .ok (.putfield 112, 3) := by decide +kernel
theorem dX4_urgent_31 : decode cX4_urgent 31 = .ok (.iload 4, 2) := by decide +kernel
theorem dX4_urgent_33 : decode cX4_urgent 33 = .ok (.ireturn, 1) := by decide +kernel
theorem dX4_begin_0 : decode cX4_begin 0 = .ok (.aload_n 0, 1) := by decide +kernel
theorem dX4_begin_1 : decode cX4_begin 1 = .ok (.iload_n 1, 1) := by decide +kernel
theorem dX4_begin_2 : decode cX4_begin 2 = .ok (.invokevirtual 106, 3) := by decide +kernel
theorem dX4_begin_5 : decode cX4_begin 5 = .ok (.astore_n 3, 1) := by decide +kernel
theorem dX4_begin_6 : decode cX4_begin 6 = .ok (.aload_n 0, 1) := by decide +kernel
theorem dX4_begin_7 : decode cX4_begin 7 = .ok (.iload_n 2, 1) := by decide +kernel
theorem dX4_begin_8 : decode cX4_begin 8 = .ok (.invokevirtual 63, 3) := by decide +kernel
theorem dX4_begin_11 : decode cX4_begin 11 = .ok (.astore 4, 2) := by decide +kernel
theorem dX4_begin_13 : decode cX4_begin 13 = .ok (.aload_n 3, 1) := by decide +kernel
theorem dX4_begin_14 : decode cX4_begin 14 = .ok (.ifnull 13, 3) := by decide +kernel
theorem dX4_begin_17 : decode cX4_begin 17 = .ok (.aload 4, 2) := by decide +kernel
theorem dX4_begin_19 : decode cX4_begin 19 = .ok (.ifnonnull 18, 3) := by decide +kernel
theorem dX4_begin_22 : decode cX4_begin 22 = .ok (.iload_n 2, 1) := by decide +kernel
theorem dX4_begin_23 : decode cX4_begin 23 = .ok (.iconst (-1), 1) := by decide +kernel
theorem dX4_begin_24 : decode cX4_begin 24 = .ok (.if_icmp .eq 13, 3) := by decide +kernel
theorem dX4_begin_27 : decode cX4_begin 27 = .ok (.new 45, 3) := by decide +kernel
theorem dX4_begin_30 : decode cX4_begin 30 = .ok (.dup, 1) := by decide +kernel
theorem dX4_begin_31 : decode cX4_begin 31 = .ok (.ldc 115, 2) := by decide +kernel
theorem dX4_begin_33 : decode cX4_begin 33 = .ok (.invokespecial 49, 3) := by decide +kernel
theorem dX4_begin_36 : decode cX4_begin 36 = .ok (.athrow, 1) := by decide +kernel
theorem dX4_begin_37 : decode cX4_begin 37 = .ok (.aload 4, 2) := by decide +kernel
theorem dX4_begin_39 : decode cX4_begin 39 = .ok (.ifnull 23, 3) := by decide +kernel
theorem dX4_begin_42 : decode cX4_begin 42 = .ok (.aload 4, 2) := by decide +kernel
theorem dX4_begin_44 : decode cX4_begin 44 = .ok (.aload_n 3, 1) := by decide +kernel
theorem dX4_begin_45 : decode cX4_begin 45 = .ok (.invokevirtual 117, 3) := by decide +kernel
theorem dX4_begin_48 : decode cX4_begin 48 = .ok (.ifCond .eq 12, 3) := by decide +kernel
theorem dX4_begin_51 : decode cX4_begin 51 = .ok (.aload_n 0, 1) := by decide +kernel
theorem dX4_begin_52 : decode cX4_begin 52 = .ok (.iload_n 2, 1) := by decide +kernel
theorem dX4_begin_53 : decode cX4_begin 53 = .ok (.aload_n 3, 1) := by decide +kernel
theorem dX4_begin_54 : decode cX4_begin 54 = .ok (.invokevirtual 121, 3) := by decide +kernel
theorem dX4_begin_57 : decode cX4_begin 57 = .ok (.ifCond .eq 5, 3) := by decide +kernel
theorem dX4_begin_60 : decode cX4_begin 60 = .ok (.iconst 0, 1) := by decide +kernel
theorem dX4_begin_61 : decode cX4_begin 61 = .ok (.ireturn, 1) := by decide +kernel
theorem dX4_begin_62 : decode cX4_begin 62 = .ok (.aload_n 3, 1) := by decide +kernel
theorem dX4_begin_63 : decode cX4_begin 63 = .ok (.iload_n 2, 1) := by decide +kernel
theorem dX4_begin_64 : decode cX4_begin 64 = .ok (.putfield 125, 3) := by decide +kernel
theorem dX4_begin_67 : decode cX4_begin 67 = .ok (.iconst 1, 1) := by decide +kernel
theorem dX4_begin_68 : decode cX4_begin 68 = .ok (.ireturn, 1) := by decide +kernel
theorem dX4_done_0 : decode cX4_done 0 = .ok (.aload_n 0, 1) := by decide +kernel
theorem dX4_done_1 : decode cX4_done 1 = .ok (.iload_n 1, 1) := by decide +kernel
theorem dX4_done_2 : decode cX4_done 2 = .ok (.invokevirtual 106, 3) := by decide +kernel
theorem dX4_done_5 : decode cX4_done 5 = .ok (.ifnonnull 13, 3) := by decide +kernel
theorem dX4_done_8 : decode cX4_done 8 = .ok (.new 45, 3) := by decide +kernel
theorem dX4_done_11 : decode cX4_done 11 = .ok (.dup, 1) := by decide +kernel
theorem dX4_done_12 : decode cX4_done 12 = .ok (.ldc 110, 2) := by decide +kernel
theorem dX4_done_14 : decode cX4_done 14 = .ok (.invokespecial 49, 3) := by decide +kernel
theorem dX4_done_17 : decode cX4_done 17 = .ok (.athrow, 1) := by decide +kernel
theorem dX4_done_18 : decode cX4_done 18 = .ok (.aload_n 0, 1) := by decide +kernel
theorem dX4_done_19 : decode cX4_done 19 = .ok (.iload_n 1, 1) := by decide +kernel
theorem dX4_done_20 : decode cX4_done 20 = .ok (.invokevirtual 128, 3) := by decide +kernel
theorem dX4_done_23 : decode cX4_done 23 = .ok (.return_, 1) := by decide +kernel
theorem dX4_pass_0 : decode cX4_pass 0 = .ok (.iload_n 1, 1) := by decide +kernel
theorem dX4_pass_1 : decode cX4_pass 1 = .ok (.iconst 1, 1) := by decide +kernel
theorem dX4_pass_2 : decode cX4_pass 2 = .ok (.if_icmp .lt 21, 3) := by decide +kernel
theorem dX4_pass_5 : decode cX4_pass 5 = .ok (.iload_n 1, 1) := by decide +kernel
theorem dX4_pass_6 : decode cX4_pass 6 = .ok (.sipush 1000, 3) := by decide +kernel
theorem dX4_pass_9 : decode cX4_pass 9 = .ok (.if_icmp .gt 14, 3) := by decide +kernel
theorem dX4_pass_12 : decode cX4_pass 12 = .ok (.aload_n 0, 1) := by decide +kernel
theorem dX4_pass_13 : decode cX4_pass 13 = .ok (.getfield 100, 3) := by decide +kernel
theorem dX4_pass_16 : decode cX4_pass 16 = .ok (.iload_n 1, 1) := by decide +kernel
theorem dX4_pass_17 : decode cX4_pass 17 = .ok (.iadd, 1) := by decide +kernel
theorem dX4_pass_18 : decode cX4_pass 18 = .ok (.ldc 67, 2) := by decide +kernel
theorem dX4_pass_20 : decode cX4_pass 20 = .ok (.if_icmp .le 13, 3) := by decide +kernel
theorem dX4_pass_23 : decode cX4_pass 23 = .ok (.new 45, 3) := by decide +kernel
theorem dX4_pass_26 : decode cX4_pass 26 = .ok (.dup, 1) := by decide +kernel
theorem dX4_pass_27 : decode cX4_pass 27 = .ok (.ldc 132, 2) := by decide +kernel
theorem dX4_pass_29 : decode cX4_pass 29 = .ok (.invokespecial 49, 3) := by decide +kernel
theorem dX4_pass_32 : decode cX4_pass 32 = .ok (.athrow, 1) := by decide +kernel
theorem dX4_pass_33 : decode cX4_pass 33 = .ok (.aload_n 0, 1) := by decide +kernel
theorem dX4_pass_34 : decode cX4_pass 34 = .ok (.dup, 1) := by decide +kernel
theorem dX4_pass_35 : decode cX4_pass 35 = .ok (.getfield 100, 3) := by decide +kernel
theorem dX4_pass_38 : decode cX4_pass 38 = .ok (.iload_n 1, 1) := by decide +kernel
theorem dX4_pass_39 : decode cX4_pass 39 = .ok (.iadd, 1) := by decide +kernel
theorem dX4_pass_40 : decode cX4_pass 40 = .ok (.putfield 100, 3) := by decide +kernel
theorem dX4_pass_43 : decode cX4_pass 43 = .ok (.aload_n 0, 1) := by decide +kernel
theorem dX4_pass_44 : decode cX4_pass 44 = .ok (.getfield 100, 3) := by decide +kernel
theorem dX4_pass_47 : decode cX4_pass 47 = .ok (.ireturn, 1) := by decide +kernel
theorem dX4_give_0 : decode cX4_give 0 = .ok (.aload_n 0, 1) := by decide +kernel
theorem dX4_give_1 : decode cX4_give 1 = .ok (.getfield 24, 3) := by decide +kernel
theorem dX4_give_4 : decode cX4_give 4 = .ok (.invokevirtual 134, 3) := by decide +kernel
theorem dX4_give_7 : decode cX4_give 7 = .ok (.aload_n 0, 1) := by decide +kernel
theorem dX4_give_8 : decode cX4_give 8 = .ok (.getfield 17, 3) := by decide +kernel
theorem dX4_give_11 : decode cX4_give 11 = .ok (.astore_n 1, 1) := by decide +kernel
theorem dX4_give_12 : decode cX4_give 12 = .ok (.aload_n 1, 1) := by decide +kernel
theorem dX4_give_13 : decode cX4_give 13 = .ok (.arraylength, 1) := by decide +kernel
theorem dX4_give_14 : decode cX4_give 14 = .ok (.istore_n 2, 1) := by decide +kernel
theorem dX4_give_15 : decode cX4_give 15 = .ok (.iconst 0, 1) := by decide +kernel
theorem dX4_give_16 : decode cX4_give 16 = .ok (.istore_n 3, 1) := by decide +kernel
theorem dX4_give_17 : decode cX4_give 17 = .ok (.iload_n 3, 1) := by decide +kernel
theorem dX4_give_18 : decode cX4_give 18 = .ok (.iload_n 2, 1) := by decide +kernel
theorem dX4_give_19 : decode cX4_give 19 = .ok (.if_icmp .ge 49, 3) := by decide +kernel
theorem dX4_give_22 : decode cX4_give 22 = .ok (.aload_n 1, 1) := by decide +kernel
theorem dX4_give_23 : decode cX4_give 23 = .ok (.iload_n 3, 1) := by decide +kernel
theorem dX4_give_24 : decode cX4_give 24 = .ok (.aaload, 1) := by decide +kernel
theorem dX4_give_25 : decode cX4_give 25 = .ok (.astore 4, 2) := by decide +kernel
theorem dX4_give_27 : decode cX4_give 27 = .ok (.aload 4, 2) := by decide +kernel
theorem dX4_give_29 : decode cX4_give 29 = .ok (.ifnull 33, 3) := by decide +kernel
theorem dX4_give_32 : decode cX4_give 32 = .ok (.aload_n 0, 1) := by decide +kernel
theorem dX4_give_33 : decode cX4_give 33 = .ok (.aload 4, 2) := by decide +kernel
theorem dX4_give_35 : decode cX4_give 35 = .ok (.invokevirtual 137, 3) := by decide +kernel
theorem dX4_give_38 : decode cX4_give 38 = .ok (.istore 5, 2) := by decide +kernel
theorem dX4_give_40 : decode cX4_give 40 = .ok (.iload 5, 2) := by decide +kernel
theorem dX4_give_42 : decode cX4_give 42 = .ok (.ifCond .eq 20, 3) := by decide +kernel
theorem dX4_give_45 : decode cX4_give 45 = .ok (.aload_n 0, 1) := by decide +kernel
theorem dX4_give_46 : decode cX4_give 46 = .ok (.getfield 24, 3) := by decide +kernel
theorem dX4_give_49 : decode cX4_give 49 = .ok (.aload 4, 2) := by decide +kernel
theorem dX4_give_51 : decode cX4_give 51 = .ok (.aload_n 0, 1) := by decide +kernel
theorem dX4_give_52 : decode cX4_give 52 = .ok (.aload 4, 2) := by decide +kernel
theorem dX4_give_54 : decode cX4_give 54 = .ok (.invokevirtual 141, 3) := by decide +kernel
theorem dX4_give_57 : decode cX4_give 57 = .ok (.iload 5, 2) := by decide +kernel
theorem dX4_give_59 : decode cX4_give 59 = .ok (.invokevirtual 144, 3) := by decide +kernel
theorem dX4_give_62 : decode cX4_give 62 = .ok (.iinc 3 1, 3) := by decide +kernel
theorem dX4_give_65 : decode cX4_give 65 = .ok (.goto (-48), 3) := by decide +kernel
theorem dX4_give_68 : decode cX4_give 68 = .ok (.aload_n 0, 1) := by decide +kernel
theorem dX4_give_69 : decode cX4_give 69 = .ok (.getfield 24, 3) := by decide +kernel
theorem dX4_give_72 : decode cX4_give 72 = .ok (.aload_n 0, 1) := by decide +kernel
theorem dX4_give_73 : decode cX4_give 73 = .ok (.getfield 11, 3) := by decide +kernel
theorem dX4_give_76 : decode cX4_give 76 = .ok (.aload_n 0, 1) := by decide +kernel
theorem dX4_give_77 : decode cX4_give 77 = .ok (.getfield 100, 3) := by decide +kernel
theorem dX4_give_80 : decode cX4_give 80 = .ok (.invokevirtual 148, 3) := by decide +kernel
theorem dX4_give_83 : decode cX4_give 83 = .ok (.lreturn, 1) := by decide +kernel
theorem dX4_carOf_0 : decode cX4_carOf 0 = .ok (.aload_n 0, 1) := by decide +kernel
theorem dX4_carOf_1 : decode cX4_carOf 1 = .ok (.iload_n 1, 1) := by decide +kernel
theorem dX4_carOf_2 : decode cX4_carOf 2 = .ok (.invokevirtual 152, 3) := by decide +kernel
theorem dX4_carOf_5 : decode cX4_carOf 5 = .ok (.ifCond .ne 13, 3) := by decide +kernel
theorem dX4_carOf_8 : decode cX4_carOf 8 = .ok (.new 45, 3) := by decide +kernel
theorem dX4_carOf_11 : decode cX4_carOf 11 = .ok (.dup, 1) := by decide +kernel
theorem dX4_carOf_12 : decode cX4_carOf 12 = .ok (.ldc 155, 2) := by decide +kernel
theorem dX4_carOf_14 : decode cX4_carOf 14 = .ok (.invokespecial 49, 3) := by decide +kernel
theorem dX4_carOf_17 : decode cX4_carOf 17 = .ok (.athrow, 1) := by decide +kernel
theorem dX4_carOf_18 : decode cX4_carOf 18 = .ok (.aload_n 0, 1) := by decide +kernel
theorem dX4_carOf_19 : decode cX4_carOf 19 = .ok (.getfield 24, 3) := by decide +kernel
theorem dX4_carOf_22 : decode cX4_carOf 22 = .ok (.iload_n 1, 1) := by decide +kernel
theorem dX4_carOf_23 : decode cX4_carOf 23 = .ok (.invokevirtual 157, 3) := by decide +kernel
theorem dX4_carOf_26 : decode cX4_carOf 26 = .ok (.istore_n 2, 1) := by decide +kernel
theorem dX4_carOf_27 : decode cX4_carOf 27 = .ok (.iload_n 2, 1) := by decide +kernel
theorem dX4_carOf_28 : decode cX4_carOf 28 = .ok (.iconst (-1), 1) := by decide +kernel
theorem dX4_carOf_29 : decode cX4_carOf 29 = .ok (.if_icmp .ne 7, 3) := by decide +kernel
theorem dX4_carOf_32 : decode cX4_carOf 32 = .ok (.iconst (-1), 1) := by decide +kernel
theorem dX4_carOf_33 : decode cX4_carOf 33 = .ok (.goto 12, 3) := by decide +kernel
theorem dX4_carOf_36 : decode cX4_carOf 36 = .ok (.aload_n 0, 1) := by decide +kernel
theorem dX4_carOf_37 : decode cX4_carOf 37 = .ok (.getfield 24, 3) := by decide +kernel
theorem dX4_carOf_40 : decode cX4_carOf 40 = .ok (.getfield 161, 3) := by decide +kernel
theorem dX4_carOf_43 : decode cX4_carOf 43 = .ok (.iload_n 2, 1) := by decide +kernel
theorem dX4_carOf_44 : decode cX4_carOf 44 = .ok (.iaload, 1) := by decide +kernel
theorem dX4_carOf_45 : decode cX4_carOf 45 = .ok (.ireturn, 1) := by decide +kernel
theorem dX4_turn_0 : decode cX4_turn 0 = .ok (.aload_n 0, 1) := by decide +kernel
theorem dX4_turn_1 : decode cX4_turn 1 = .ok (.iload_n 1, 1) := by decide +kernel
theorem dX4_turn_2 : decode cX4_turn 2 = .ok (.invokevirtual 63, 3) := by decide +kernel
theorem dX4_turn_5 : decode cX4_turn 5 = .ok (.ifnull 7, 3) := by decide +kernel
theorem dX4_turn_8 : decode cX4_turn 8 = .ok (.iload_n 2, 1) := by decide +kernel
theorem dX4_turn_9 : decode cX4_turn 9 = .ok (.ifCond .ge 13, 3) := by decide +kernel
theorem dX4_turn_12 : decode cX4_turn 12 = .ok (.new 45, 3) := by decide +kernel
theorem dX4_turn_15 : decode cX4_turn 15 = .ok (.dup, 1) := by decide +kernel
theorem dX4_turn_16 : decode cX4_turn 16 = .ok (.ldc 165, 2) := by decide +kernel
theorem dX4_turn_18 : decode cX4_turn 18 = .ok (.invokespecial 49, 3) := by decide +kernel
theorem dX4_turn_21 : decode cX4_turn 21 = .ok (.athrow, 1) := by decide +kernel
theorem dX4_turn_22 : decode cX4_turn 22 = .ok (.aload_n 0, 1) := by decide +kernel
theorem dX4_turn_23 : decode cX4_turn 23 = .ok (.getfield 24, 3) := by decide +kernel
theorem dX4_turn_26 : decode cX4_turn 26 = .ok (.iload_n 1, 1) := by decide +kernel
theorem dX4_turn_27 : decode cX4_turn 27 = .ok (.iload_n 2, 1) := by decide +kernel
theorem dX4_turn_28 : decode cX4_turn 28 = .ok (.invokevirtual 167, 3) := by decide +kernel
theorem dX4_turn_31 : decode cX4_turn 31 = .ok (.ireturn, 1) := by decide +kernel
theorem dX4_told_0 : decode cX4_told 0 = .ok (.aload_n 0, 1) := by decide +kernel
theorem dX4_told_1 : decode cX4_told 1 = .ok (.iload_n 1, 1) := by decide +kernel
theorem dX4_told_2 : decode cX4_told 2 = .ok (.invokevirtual 152, 3) := by decide +kernel
theorem dX4_told_5 : decode cX4_told 5 = .ok (.ifCond .eq 12, 3) := by decide +kernel
theorem dX4_told_8 : decode cX4_told 8 = .ok (.iload_n 2, 1) := by decide +kernel
theorem dX4_told_9 : decode cX4_told 9 = .ok (.ifCond .lt 8, 3) := by decide +kernel
theorem dX4_told_12 : decode cX4_told 12 = .ok (.iload_n 2, 1) := by decide +kernel
theorem dX4_told_13 : decode cX4_told 13 = .ok (.iconst 2, 1) := by decide +kernel
theorem dX4_told_14 : decode cX4_told 14 = .ok (.if_icmp .le 13, 3) := by decide +kernel
theorem dX4_told_17 : decode cX4_told 17 = .ok (.new 45, 3) := by decide +kernel
theorem dX4_told_20 : decode cX4_told 20 = .ok (.dup, 1) := by decide +kernel
theorem dX4_told_21 : decode cX4_told 21 = .ok (.ldc 170, 2) := by decide +kernel
theorem dX4_told_23 : decode cX4_told 23 = .ok (.invokespecial 49, 3) := by decide +kernel
theorem dX4_told_26 : decode cX4_told 26 = .ok (.athrow, 1) := by decide +kernel
theorem dX4_told_27 : decode cX4_told 27 = .ok (.aload_n 0, 1) := by decide +kernel
theorem dX4_told_28 : decode cX4_told 28 = .ok (.getfield 24, 3) := by decide +kernel
theorem dX4_told_31 : decode cX4_told 31 = .ok (.iload_n 1, 1) := by decide +kernel
theorem dX4_told_32 : decode cX4_told 32 = .ok (.invokevirtual 157, 3) := by decide +kernel
theorem dX4_told_35 : decode cX4_told 35 = .ok (.istore_n 3, 1) := by decide +kernel
theorem dX4_told_36 : decode cX4_told 36 = .ok (.iload_n 3, 1) := by decide +kernel
theorem dX4_told_37 : decode cX4_told 37 = .ok (.iconst (-1), 1) := by decide +kernel
theorem dX4_told_38 : decode cX4_told 38 = .ok (.if_icmp .ne 5, 3) := by decide +kernel
theorem dX4_told_41 : decode cX4_told 41 = .ok (.iconst (-1), 1) := by decide +kernel
theorem dX4_told_42 : decode cX4_told 42 = .ok (.ireturn, 1) := by decide +kernel
theorem dX4_told_43 : decode cX4_told 43 = .ok (.iload_n 2, 1) := by decide +kernel
theorem dX4_told_44 : decode cX4_told 44 = .ok (.ifCond .ne 13, 3) := by decide +kernel
theorem dX4_told_47 : decode cX4_told 47 = .ok (.aload_n 0, 1) := by decide +kernel
theorem dX4_told_48 : decode cX4_told 48 = .ok (.getfield 24, 3) := by decide +kernel
theorem dX4_told_51 : decode cX4_told 51 = .ok (.getfield 172, 3) := by decide +kernel
theorem dX4_told_54 : decode cX4_told 54 = .ok (.iload_n 3, 1) := by decide +kernel
theorem dX4_told_55 : decode cX4_told 55 = .ok (.iaload, 1) := by decide +kernel
theorem dX4_told_56 : decode cX4_told 56 = .ok (.ireturn, 1) := by decide +kernel
theorem dX4_told_57 : decode cX4_told 57 = .ok (.iload_n 2, 1) := by decide +kernel
theorem dX4_told_58 : decode cX4_told 58 = .ok (.iconst 1, 1) := by decide +kernel
theorem dX4_told_59 : decode cX4_told 59 = .ok (.if_icmp .ne 15, 3) := by decide +kernel
theorem dX4_told_62 : decode cX4_told 62 = .ok (.aload_n 0, 1) := by decide +kernel
theorem dX4_told_63 : decode cX4_told 63 = .ok (.getfield 24, 3) := by decide +kernel
theorem dX4_told_66 : decode cX4_told 66 = .ok (.getfield 175, 3) := by decide +kernel
theorem dX4_told_69 : decode cX4_told 69 = .ok (.iload_n 3, 1) := by decide +kernel
theorem dX4_told_70 : decode cX4_told 70 = .ok (.iaload, 1) := by decide +kernel
theorem dX4_told_71 : decode cX4_told 71 = .ok (.goto 12, 3) := by decide +kernel
theorem dX4_told_74 : decode cX4_told 74 = .ok (.aload_n 0, 1) := by decide +kernel
theorem dX4_told_75 : decode cX4_told 75 = .ok (.getfield 24, 3) := by decide +kernel
theorem dX4_told_78 : decode cX4_told 78 = .ok (.getfield 178, 3) := by decide +kernel
theorem dX4_told_81 : decode cX4_told 81 = .ok (.iload_n 3, 1) := by decide +kernel
theorem dX4_told_82 : decode cX4_told 82 = .ok (.iaload, 1) := by decide +kernel
theorem dX4_told_83 : decode cX4_told 83 = .ok (.ireturn, 1) := by decide +kernel
theorem dX4_left_0 : decode cX4_left 0 = .ok (.iconst 0, 1) := by decide +kernel
theorem dX4_left_1 : decode cX4_left 1 = .ok (.istore_n 1, 1) := by decide +kernel
theorem dX4_left_2 : decode cX4_left 2 = .ok (.aload_n 0, 1) := by decide +kernel
theorem dX4_left_3 : decode cX4_left 3 = .ok (.getfield 17, 3) := by decide +kernel
theorem dX4_left_6 : decode cX4_left 6 = .ok (.astore_n 2, 1) := by decide +kernel
theorem dX4_left_7 : decode cX4_left 7 = .ok (.aload_n 2, 1) := by decide +kernel
theorem dX4_left_8 : decode cX4_left 8 = .ok (.arraylength, 1) := by decide +kernel
theorem dX4_left_9 : decode cX4_left 9 = .ok (.istore_n 3, 1) := by decide +kernel
theorem dX4_left_10 : decode cX4_left 10 = .ok (.iconst 0, 1) := by decide +kernel
theorem dX4_left_11 : decode cX4_left 11 = .ok (.istore 4, 2) := by decide +kernel
theorem dX4_left_13 : decode cX4_left 13 = .ok (.iload 4, 2) := by decide +kernel
theorem dX4_left_15 : decode cX4_left 15 = .ok (.iload_n 3, 1) := by decide +kernel
theorem dX4_left_16 : decode cX4_left 16 = .ok (.if_icmp .ge 32, 3) := by decide +kernel
theorem dX4_left_19 : decode cX4_left 19 = .ok (.aload_n 2, 1) := by decide +kernel
theorem dX4_left_20 : decode cX4_left 20 = .ok (.iload 4, 2) := by decide +kernel
theorem dX4_left_22 : decode cX4_left 22 = .ok (.aaload, 1) := by decide +kernel
theorem dX4_left_23 : decode cX4_left 23 = .ok (.astore 5, 2) := by decide +kernel
theorem dX4_left_25 : decode cX4_left 25 = .ok (.aload 5, 2) := by decide +kernel
theorem dX4_left_27 : decode cX4_left 27 = .ok (.ifnull 15, 3) := by decide +kernel
theorem dX4_left_30 : decode cX4_left 30 = .ok (.aload_n 0, 1) := by decide +kernel
theorem dX4_left_31 : decode cX4_left 31 = .ok (.aload 5, 2) := by decide +kernel
theorem dX4_left_33 : decode cX4_left 33 = .ok (.invokevirtual 137, 3) := by decide +kernel
theorem dX4_left_36 : decode cX4_left 36 = .ok (.ifCond .ne 6, 3) := by decide +kernel
theorem dX4_left_39 : decode cX4_left 39 = .ok (.iinc 1 1, 3) := by decide +kernel
theorem dX4_left_42 : decode cX4_left 42 = .ok (.iinc 4 1, 3) := by decide +kernel
theorem dX4_left_45 : decode cX4_left 45 = .ok (.goto (-32), 3) := by decide +kernel
theorem dX4_left_48 : decode cX4_left 48 = .ok (.iload_n 1, 1) := by decide +kernel
theorem dX4_left_49 : decode cX4_left 49 = .ok (.ireturn, 1) := by decide +kernel
theorem dX4_cars_0 : decode cX4_cars 0 = .ok (.aload_n 0, 1) := by decide +kernel
theorem dX4_cars_1 : decode cX4_cars 1 = .ok (.iload_n 1, 1) := by decide +kernel
theorem dX4_cars_2 : decode cX4_cars 2 = .ok (.invokevirtual 106, 3) := by decide +kernel
theorem dX4_cars_5 : decode cX4_cars 5 = .ok (.astore_n 2, 1) := by decide +kernel
theorem dX4_cars_6 : decode cX4_cars 6 = .ok (.aload_n 2, 1) := by decide +kernel
theorem dX4_cars_7 : decode cX4_cars 7 = .ok (.ifnonnull 13, 3) := by decide +kernel
theorem dX4_cars_10 : decode cX4_cars 10 = .ok (.new 45, 3) := by decide +kernel
theorem dX4_cars_13 : decode cX4_cars 13 = .ok (.dup, 1) := by decide +kernel
theorem dX4_cars_14 : decode cX4_cars 14 = .ok (.ldc 110, 2) := by decide +kernel
theorem dX4_cars_16 : decode cX4_cars 16 = .ok (.invokespecial 49, 3) := by decide +kernel
theorem dX4_cars_19 : decode cX4_cars 19 = .ok (.athrow, 1) := by decide +kernel
theorem dX4_cars_20 : decode cX4_cars 20 = .ok (.aload_n 0, 1) := by decide +kernel
theorem dX4_cars_21 : decode cX4_cars 21 = .ok (.aload_n 2, 1) := by decide +kernel
theorem dX4_cars_22 : decode cX4_cars 22 = .ok (.invokevirtual 137, 3) := by decide +kernel
theorem dX4_cars_25 : decode cX4_cars 25 = .ok (.ireturn, 1) := by decide +kernel
theorem dX4_open_0 : decode cX4_open 0 = .ok (.aload_n 0, 1) := by decide +kernel
theorem dX4_open_1 : decode cX4_open 1 = .ok (.getfield 92, 3) := by decide +kernel
theorem dX4_open_4 : decode cX4_open 4 = .ok (.ireturn, 1) := by decide +kernel
theorem dX4_weight_0 : decode cX4_weight 0 = .ok (.aload_n 0, 1) := by decide +kernel
theorem dX4_weight_1 : decode cX4_weight 1 = .ok (.iload_n 1, 1) := by decide +kernel
theorem dX4_weight_2 : decode cX4_weight 2 = .ok (.invokevirtual 106, 3) := by decide +kernel
theorem dX4_weight_5 : decode cX4_weight 5 = .ok (.astore_n 2, 1) := by decide +kernel
theorem dX4_weight_6 : decode cX4_weight 6 = .ok (.aload_n 2, 1) := by decide +kernel
theorem dX4_weight_7 : decode cX4_weight 7 = .ok (.ifnonnull 13, 3) := by decide +kernel
theorem dX4_weight_10 : decode cX4_weight 10 = .ok (.new 45, 3) := by decide +kernel
theorem dX4_weight_13 : decode cX4_weight 13 = .ok (.dup, 1) := by decide +kernel
theorem dX4_weight_14 : decode cX4_weight 14 = .ok (.ldc 110, 2) := by decide +kernel
theorem dX4_weight_16 : decode cX4_weight 16 = .ok (.invokespecial 49, 3) := by decide +kernel
theorem dX4_weight_19 : decode cX4_weight 19 = .ok (.athrow, 1) := by decide +kernel
theorem dX4_weight_20 : decode cX4_weight 20 = .ok (.aload_n 0, 1) := by decide +kernel
theorem dX4_weight_21 : decode cX4_weight 21 = .ok (.aload_n 2, 1) := by decide +kernel
theorem dX4_weight_22 : decode cX4_weight 22 = .ok (.invokevirtual 141, 3) := by decide +kernel
theorem dX4_weight_25 : decode cX4_weight 25 = .ok (.ireturn, 1) := by decide +kernel
theorem dX4_isFloor_0 : decode cX4_isFloor 0 = .ok (.iload_n 1, 1) := by decide +kernel
theorem dX4_isFloor_1 : decode cX4_isFloor 1 = .ok (.ifCond .lt 15, 3) := by decide +kernel
theorem dX4_isFloor_4 : decode cX4_isFloor 4 = .ok (.iload_n 1, 1) := by decide +kernel
theorem dX4_isFloor_5 : decode cX4_isFloor 5 = .ok (.aload_n 0, 1) := by decide +kernel
theorem dX4_isFloor_6 : decode cX4_isFloor 6 = .ok (.getfield 37, 3) := by decide +kernel
theorem dX4_isFloor_9 : decode cX4_isFloor 9 = .ok (.if_icmp .ge 7, 3) := by decide +kernel
theorem dX4_isFloor_12 : decode cX4_isFloor 12 = .ok (.iconst 1, 1) := by decide +kernel
theorem dX4_isFloor_13 : decode cX4_isFloor 13 = .ok (.goto 4, 3) := by decide +kernel
theorem dX4_isFloor_16 : decode cX4_isFloor 16 = .ok (.iconst 0, 1) := by decide +kernel
theorem dX4_isFloor_17 : decode cX4_isFloor 17 = .ok (.ireturn, 1) := by decide +kernel
theorem dX4_wasCalled_0 : decode cX4_wasCalled 0 = .ok (.iload_n 1, 1) := by decide +kernel
theorem dX4_wasCalled_1 : decode cX4_wasCalled 1 = .ok (.ifCond .lt 15, 3) := by decide +kernel
theorem dX4_wasCalled_4 : decode cX4_wasCalled 4 = .ok (.iload_n 1, 1) := by decide +kernel
theorem dX4_wasCalled_5 : decode cX4_wasCalled 5 = .ok (.aload_n 0, 1) := by decide +kernel
theorem dX4_wasCalled_6 : decode cX4_wasCalled 6 = .ok (.getfield 95, 3) := by decide +kernel
theorem dX4_wasCalled_9 : decode cX4_wasCalled 9 = .ok (.if_icmp .ge 7, 3) := by decide +kernel
theorem dX4_wasCalled_12 : decode cX4_wasCalled 12 = .ok (.iconst 1, 1) := by decide +kernel
theorem dX4_wasCalled_13 : decode cX4_wasCalled 13 = .ok (.goto 4, 3) := by decide +kernel
theorem dX4_wasCalled_16 : decode cX4_wasCalled 16 = .ok (.iconst 0, 1) := by decide +kernel
theorem dX4_wasCalled_17 : decode cX4_wasCalled 17 = .ok (.ireturn, 1) := by decide +kernel
theorem dX4_liftOf_0 : decode cX4_liftOf 0 = .ok (.iload_n 1, 1) := by decide +kernel
theorem dX4_liftOf_1 : decode cX4_liftOf 1 = .ok (.ifCond .lt 21, 3) := by decide +kernel
theorem dX4_liftOf_4 : decode cX4_liftOf 4 = .ok (.iload_n 1, 1) := by decide +kernel
theorem dX4_liftOf_5 : decode cX4_liftOf 5 = .ok (.aload_n 0, 1) := by decide +kernel
theorem dX4_liftOf_6 : decode cX4_liftOf 6 = .ok (.getfield 11, 3) := by decide +kernel
theorem dX4_liftOf_9 : decode cX4_liftOf 9 = .ok (.arraylength, 1) := by decide +kernel
theorem dX4_liftOf_10 : decode cX4_liftOf 10 = .ok (.if_icmp .ge 12, 3) := by decide +kernel
theorem dX4_liftOf_13 : decode cX4_liftOf 13 = .ok (.aload_n 0, 1) := by decide +kernel
theorem dX4_liftOf_14 : decode cX4_liftOf 14 = .ok (.getfield 11, 3) := by decide +kernel
theorem dX4_liftOf_17 : decode cX4_liftOf 17 = .ok (.iload_n 1, 1) := by decide +kernel
theorem dX4_liftOf_18 : decode cX4_liftOf 18 = .ok (.aaload, 1) := by decide +kernel
theorem dX4_liftOf_19 : decode cX4_liftOf 19 = .ok (.goto 4, 3) := by decide +kernel
theorem dX4_liftOf_22 : decode cX4_liftOf 22 = .ok (.aconst_null, 1) := by decide +kernel
theorem dX4_liftOf_23 : decode cX4_liftOf 23 = .ok (.areturn, 1) := by decide +kernel
theorem dX4_openRide_0 : decode cX4_openRide 0 = .ok (.aload_n 0, 1) := by decide +kernel
theorem dX4_openRide_1 : decode cX4_openRide 1 = .ok (.getfield 17, 3) := by decide +kernel
theorem dX4_openRide_4 : decode cX4_openRide 4 = .ok (.astore_n 2, 1) := by decide +kernel
theorem dX4_openRide_5 : decode cX4_openRide 5 = .ok (.aload_n 2, 1) := by decide +kernel
theorem dX4_openRide_6 : decode cX4_openRide 6 = .ok (.arraylength, 1) := by decide +kernel
theorem dX4_openRide_7 : decode cX4_openRide 7 = .ok (.istore_n 3, 1) := by decide +kernel
theorem dX4_openRide_8 : decode cX4_openRide 8 = .ok (.iconst 0, 1) := by decide +kernel
theorem dX4_openRide_9 : decode cX4_openRide 9 = .ok (.istore 4, 2) := by decide +kernel
theorem dX4_openRide_11 : decode cX4_openRide 11 = .ok (.iload 4, 2) := by decide +kernel
theorem dX4_openRide_13 : decode cX4_openRide 13 = .ok (.iload_n 3, 1) := by decide +kernel
theorem dX4_openRide_14 : decode cX4_openRide 14 = .ok (.if_icmp .ge 32, 3) := by decide +kernel
theorem dX4_openRide_17 : decode cX4_openRide 17 = .ok (.aload_n 2, 1) := by decide +kernel
theorem dX4_openRide_18 : decode cX4_openRide 18 = .ok (.iload 4, 2) := by decide +kernel
theorem dX4_openRide_20 : decode cX4_openRide 20 = .ok (.aaload, 1) := by decide +kernel
theorem dX4_openRide_21 : decode cX4_openRide 21 = .ok (.astore 5, 2) := by decide +kernel
theorem dX4_openRide_23 : decode cX4_openRide 23 = .ok (.aload 5, 2) := by decide +kernel
theorem dX4_openRide_25 : decode cX4_openRide 25 = .ok (.ifnull 15, 3) := by decide +kernel
theorem dX4_openRide_28 : decode cX4_openRide 28 = .ok (.aload 5, 2) := by decide +kernel
theorem dX4_openRide_30 : decode cX4_openRide 30 = .ok (.getfield 181, 3) := by decide +kernel
theorem dX4_openRide_33 : decode cX4_openRide 33 = .ok (.iload_n 1, 1) := by decide +kernel
theorem dX4_openRide_34 : decode cX4_openRide 34 = .ok (.if_icmp .ne 6, 3) := by decide +kernel
theorem dX4_openRide_37 : decode cX4_openRide 37 = .ok (.aload 5, 2) := by decide +kernel
theorem dX4_openRide_39 : decode cX4_openRide 39 = .ok (.areturn, 1) := by decide +kernel
theorem dX4_openRide_40 : decode cX4_openRide 40 = .ok (.iinc 4 1, 3) := by decide +kernel
theorem dX4_openRide_43 : decode cX4_openRide 43 = .ok (.goto (-32), 3) := by decide +kernel
theorem dX4_openRide_46 : decode cX4_openRide 46 = .ok (.aconst_null, 1) := by decide +kernel
theorem dX4_openRide_47 : decode cX4_openRide 47 = .ok (.areturn, 1) := by decide +kernel
theorem dX4_dropRide_0 : decode cX4_dropRide 0 = .ok (.iconst 0, 1) := by decide +kernel
theorem dX4_dropRide_1 : decode cX4_dropRide 1 = .ok (.istore_n 2, 1) := by decide +kernel
theorem dX4_dropRide_2 : decode cX4_dropRide 2 = .ok (.iconst 0, 1) := by decide +kernel
theorem dX4_dropRide_3 : decode cX4_dropRide 3 = .ok (.istore_n 3, 1) := by decide +kernel
theorem dX4_dropRide_4 : decode cX4_dropRide 4 = .ok (.iload_n 3, 1) := by decide +kernel
theorem dX4_dropRide_5 : decode cX4_dropRide 5 = .ok (.aload_n 0, 1) := by decide +kernel
theorem dX4_dropRide_6 : decode cX4_dropRide 6 = .ok (.getfield 17, 3) := by decide +kernel
theorem dX4_dropRide_9 : decode cX4_dropRide 9 = .ok (.arraylength, 1) := by decide +kernel
theorem dX4_dropRide_10 : decode cX4_dropRide 10 = .ok (.if_icmp .ge 49, 3) := by decide +kernel
theorem dX4_dropRide_13 : decode cX4_dropRide 13 = .ok (.aload_n 0, 1) := by decide +kernel
theorem dX4_dropRide_14 : decode cX4_dropRide 14 = .ok (.getfield 17, 3) := by decide +kernel
theorem dX4_dropRide_17 : decode cX4_dropRide 17 = .ok (.iload_n 3, 1) := by decide +kernel
theorem dX4_dropRide_18 : decode cX4_dropRide 18 = .ok (.aaload, 1) := by decide +kernel
theorem dX4_dropRide_19 : decode cX4_dropRide 19 = .ok (.astore 4, 2) := by decide +kernel
theorem dX4_dropRide_21 : decode cX4_dropRide 21 = .ok (.aload_n 0, 1) := by decide +kernel
theorem dX4_dropRide_22 : decode cX4_dropRide 22 = .ok (.getfield 17, 3) := by decide +kernel
theorem dX4_dropRide_25 : decode cX4_dropRide 25 = .ok (.iload_n 3, 1) := by decide +kernel
theorem dX4_dropRide_26 : decode cX4_dropRide 26 = .ok (.aconst_null, 1) := by decide +kernel
theorem dX4_dropRide_27 : decode cX4_dropRide 27 = .ok (.aastore, 1) := by decide +kernel
theorem dX4_dropRide_28 : decode cX4_dropRide 28 = .ok (.aload 4, 2) := by decide +kernel
theorem dX4_dropRide_30 : decode cX4_dropRide 30 = .ok (.ifnull 23, 3) := by decide +kernel
theorem dX4_dropRide_33 : decode cX4_dropRide 33 = .ok (.aload 4, 2) := by decide +kernel
theorem dX4_dropRide_35 : decode cX4_dropRide 35 = .ok (.getfield 181, 3) := by decide +kernel
theorem dX4_dropRide_38 : decode cX4_dropRide 38 = .ok (.iload_n 1, 1) := by decide +kernel
theorem dX4_dropRide_39 : decode cX4_dropRide 39 = .ok (.if_icmp .eq 14, 3) := by decide +kernel
theorem dX4_dropRide_42 : decode cX4_dropRide 42 = .ok (.aload_n 0, 1) := by decide +kernel
theorem dX4_dropRide_43 : decode cX4_dropRide 43 = .ok (.getfield 17, 3) := by decide +kernel
theorem dX4_dropRide_46 : decode cX4_dropRide 46 = .ok (.iload_n 2, 1) := by decide +kernel
theorem dX4_dropRide_47 : decode cX4_dropRide 47 = .ok (.aload 4, 2) := by decide +kernel
theorem dX4_dropRide_49 : decode cX4_dropRide 49 = .ok (.aastore, 1) := by decide +kernel
theorem dX4_dropRide_50 : decode cX4_dropRide 50 = .ok (.iinc 2 1, 3) := by decide +kernel
theorem dX4_dropRide_53 : decode cX4_dropRide 53 = .ok (.iinc 3 1, 3) := by decide +kernel
theorem dX4_dropRide_56 : decode cX4_dropRide 56 = .ok (.goto (-52), 3) := by decide +kernel
theorem dX4_dropRide_59 : decode cX4_dropRide 59 = .ok (.aload_n 0, 1) := by decide +kernel
theorem dX4_dropRide_60 : decode cX4_dropRide 60 = .ok (.iload_n 2, 1) := by decide +kernel
theorem dX4_dropRide_61 : decode cX4_dropRide 61 = .ok (.putfield 92, 3) := by decide +kernel
theorem dX4_dropRide_64 : decode cX4_dropRide 64 = .ok (.return_, 1) := by decide +kernel
theorem dX4_hasBegunAnother_0 : decode cX4_hasBegunAnother 0 = .ok (.aload_n 0, 1) := by decide +kernel
theorem dX4_hasBegunAnother_1 : decode cX4_hasBegunAnother 1 = .ok (.getfield 17, 3) := by decide +kernel
theorem dX4_hasBegunAnother_4 : decode cX4_hasBegunAnother 4 = .ok (.astore_n 3, 1) := by decide +kernel
theorem dX4_hasBegunAnother_5 : decode cX4_hasBegunAnother 5 = .ok (.aload_n 3, 1) := by decide +kernel
theorem dX4_hasBegunAnother_6 : decode cX4_hasBegunAnother 6 = .ok (.arraylength, 1) := by decide +kernel
theorem dX4_hasBegunAnother_7 : decode cX4_hasBegunAnother 7 = .ok (.istore 4, 2) := by decide +kernel
theorem dX4_hasBegunAnother_9 : decode cX4_hasBegunAnother 9 = .ok (.iconst 0, 1) := by decide +kernel
theorem dX4_hasBegunAnother_10 : decode cX4_hasBegunAnother 10 = .ok (.istore 5, 2) := by decide +kernel
theorem dX4_hasBegunAnother_12 : decode cX4_hasBegunAnother 12 = .ok (.iload 5, 2) := by decide +kernel
theorem dX4_hasBegunAnother_14 : decode cX4_hasBegunAnother 14 = .ok (.iload 4, 2) := by decide +kernel
theorem dX4_hasBegunAnother_16 : decode cX4_hasBegunAnother 16 = .ok (.if_icmp .ge 37, 3) := by decide +kernel
theorem dX4_hasBegunAnother_19 : decode cX4_hasBegunAnother 19 = .ok (.aload_n 3, 1) := by decide +kernel
theorem dX4_hasBegunAnother_20 : decode cX4_hasBegunAnother 20 = .ok (.iload 5, 2) := by decide +kernel
theorem dX4_hasBegunAnother_22 : decode cX4_hasBegunAnother 22 = .ok (.aaload, 1) := by decide +kernel
theorem dX4_hasBegunAnother_23 : decode cX4_hasBegunAnother 23 = .ok (.astore 6, 2) := by decide +kernel
theorem dX4_hasBegunAnother_25 : decode cX4_hasBegunAnother 25 = .ok (.aload 6, 2) := by decide +kernel
theorem dX4_hasBegunAnother_27 : decode cX4_hasBegunAnother 27 = .ok (.ifnull 20, 3) := by decide +kernel
theorem dX4_hasBegunAnother_30 : decode cX4_hasBegunAnother 30 = .ok (.aload 6, 2) := by decide +kernel
theorem dX4_hasBegunAnother_32 : decode cX4_hasBegunAnother 32 = .ok (.aload_n 2, 1) := by decide +kernel
theorem dX4_hasBegunAnother_33 : decode cX4_hasBegunAnother 33 = .ok (.if_acmp .eq 14, 3) := by decide +kernel
theorem dX4_hasBegunAnother_36 : decode cX4_hasBegunAnother 36 = .ok (.aload 6, 2) := by decide +kernel
theorem dX4_hasBegunAnother_38 : decode cX4_hasBegunAnother 38 = .ok (.getfield 125, 3) := by decide +kernel
theorem dX4_hasBegunAnother_41 : decode cX4_hasBegunAnother 41 = .ok (.iload_n 1, 1) := by decide +kernel
theorem dX4_hasBegunAnother_42 : decode cX4_hasBegunAnother 42 = .ok (.if_icmp .ne 5, 3) := by decide +kernel
theorem dX4_hasBegunAnother_45 : decode cX4_hasBegunAnother 45 = .ok (.iconst 1, 1) := by decide +kernel
theorem dX4_hasBegunAnother_46 : decode cX4_hasBegunAnother 46 = .ok (.ireturn, 1) := by decide +kernel
theorem dX4_hasBegunAnother_47 : decode cX4_hasBegunAnother 47 = .ok (.iinc 5 1, 3) := by decide +kernel
theorem dX4_hasBegunAnother_50 : decode cX4_hasBegunAnother 50 = .ok (.goto (-38), 3) := by decide +kernel
theorem dX4_hasBegunAnother_53 : decode cX4_hasBegunAnother 53 = .ok (.iconst 0, 1) := by decide +kernel
theorem dX4_hasBegunAnother_54 : decode cX4_hasBegunAnother 54 = .ok (.ireturn, 1) := by decide +kernel
theorem dX4_ableCars_0 : decode cX4_ableCars 0 = .ok (.iconst 0, 1) := by decide +kernel
theorem dX4_ableCars_1 : decode cX4_ableCars 1 = .ok (.istore_n 2, 1) := by decide +kernel
theorem dX4_ableCars_2 : decode cX4_ableCars 2 = .ok (.iconst 0, 1) := by decide +kernel
theorem dX4_ableCars_3 : decode cX4_ableCars 3 = .ok (.istore_n 3, 1) := by decide +kernel
theorem dX4_ableCars_4 : decode cX4_ableCars 4 = .ok (.iconst 0, 1) := by decide +kernel
theorem dX4_ableCars_5 : decode cX4_ableCars 5 = .ok (.istore 4, 2) := by decide +kernel
theorem dX4_ableCars_7 : decode cX4_ableCars 7 = .ok (.iload 4, 2) := by decide +kernel
theorem dX4_ableCars_9 : decode cX4_ableCars 9 = .ok (.aload_n 0, 1) := by decide +kernel
theorem dX4_ableCars_10 : decode cX4_ableCars 10 = .ok (.getfield 11, 3) := by decide +kernel
theorem dX4_ableCars_13 : decode cX4_ableCars 13 = .ok (.arraylength, 1) := by decide +kernel
theorem dX4_ableCars_14 : decode cX4_ableCars 14 = .ok (.if_icmp .ge 74, 3) := by decide +kernel
theorem dX4_ableCars_17 : decode cX4_ableCars 17 = .ok (.aload_n 0, 1) := by decide +kernel
theorem dX4_ableCars_18 : decode cX4_ableCars 18 = .ok (.getfield 11, 3) := by decide +kernel
theorem dX4_ableCars_21 : decode cX4_ableCars 21 = .ok (.iload 4, 2) := by decide +kernel
theorem dX4_ableCars_23 : decode cX4_ableCars 23 = .ok (.aaload, 1) := by decide +kernel
theorem dX4_ableCars_24 : decode cX4_ableCars 24 = .ok (.astore 5, 2) := by decide +kernel
theorem dX4_ableCars_26 : decode cX4_ableCars 26 = .ok (.aload 5, 2) := by decide +kernel
theorem dX4_ableCars_28 : decode cX4_ableCars 28 = .ok (.ifnull 54, 3) := by decide +kernel
theorem dX4_ableCars_31 : decode cX4_ableCars 31 = .ok (.aload 5, 2) := by decide +kernel
theorem dX4_ableCars_33 : decode cX4_ableCars 33 = .ok (.aload_n 1, 1) := by decide +kernel
theorem dX4_ableCars_34 : decode cX4_ableCars 34 = .ok (.invokevirtual 117, 3) := by decide +kernel
theorem dX4_ableCars_37 : decode cX4_ableCars 37 = .ok (.ifCond .eq 45, 3) := by decide +kernel
theorem dX4_ableCars_40 : decode cX4_ableCars 40 = .ok (.aload_n 1, 1) := by decide +kernel
theorem dX4_ableCars_41 : decode cX4_ableCars 41 = .ok (.getfield 125, 3) := by decide +kernel
theorem dX4_ableCars_44 : decode cX4_ableCars 44 = .ok (.iconst (-1), 1) := by decide +kernel
theorem dX4_ableCars_45 : decode cX4_ableCars 45 = .ok (.if_icmp .eq 12, 3) := by decide +kernel
theorem dX4_ableCars_48 : decode cX4_ableCars 48 = .ok (.aload_n 1, 1) := by decide +kernel
theorem dX4_ableCars_49 : decode cX4_ableCars 49 = .ok (.getfield 125, 3) := by decide +kernel
theorem dX4_ableCars_52 : decode cX4_ableCars 52 = .ok (.iload 4, 2) := by decide +kernel
theorem dX4_ableCars_54 : decode cX4_ableCars 54 = .ok (.if_icmp .ne 28, 3) := by decide +kernel
theorem dX4_ableCars_57 : decode cX4_ableCars 57 = .ok (.aload 5, 2) := by decide +kernel
theorem dX4_ableCars_59 : decode cX4_ableCars 59 = .ok (.getfield 86, 3) := by decide +kernel
theorem dX4_ableCars_62 : decode cX4_ableCars 62 = .ok (.ifCond .eq 13, 3) := by decide +kernel
theorem dX4_ableCars_65 : decode cX4_ableCars 65 = .ok (.iload_n 3, 1) := by decide +kernel
theorem dX4_ableCars_66 : decode cX4_ableCars 66 = .ok (.iconst 1, 1) := by decide +kernel
theorem dX4_ableCars_67 : decode cX4_ableCars 67 = .ok (.iload 4, 2) := by decide +kernel
theorem dX4_ableCars_69 : decode cX4_ableCars 69 = .ok (.ishl, 1) := by decide +kernel
theorem dX4_ableCars_70 : decode cX4_ableCars 70 = .ok (.ior, 1) := by decide +kernel
theorem dX4_ableCars_71 : decode cX4_ableCars 71 = .ok (.istore_n 3, 1) := by decide +kernel
theorem dX4_ableCars_72 : decode cX4_ableCars 72 = .ok (.goto 10, 3) := by decide +kernel
theorem dX4_ableCars_75 : decode cX4_ableCars 75 = .ok (.iload_n 2, 1) := by decide +kernel
theorem dX4_ableCars_76 : decode cX4_ableCars 76 = .ok (.iconst 1, 1) := by decide +kernel
theorem dX4_ableCars_77 : decode cX4_ableCars 77 = .ok (.iload 4, 2) := by decide +kernel
theorem dX4_ableCars_79 : decode cX4_ableCars 79 = .ok (.ishl, 1) := by decide +kernel
theorem dX4_ableCars_80 : decode cX4_ableCars 80 = .ok (.ior, 1) := by decide +kernel
theorem dX4_ableCars_81 : decode cX4_ableCars 81 = .ok (.istore_n 2, 1) := by decide +kernel
theorem dX4_ableCars_82 : decode cX4_ableCars 82 = .ok (.iinc 4 1, 3) := by decide +kernel
theorem dX4_ableCars_85 : decode cX4_ableCars 85 = .ok (.goto (-78), 3) := by decide +kernel
theorem dX4_ableCars_88 : decode cX4_ableCars 88 = .ok (.iload_n 2, 1) := by decide +kernel
theorem dX4_ableCars_89 : decode cX4_ableCars 89 = .ok (.ifCond .eq 7, 3) := by decide +kernel
theorem dX4_ableCars_92 : decode cX4_ableCars 92 = .ok (.iload_n 2, 1) := by decide +kernel
theorem dX4_ableCars_93 : decode cX4_ableCars 93 = .ok (.goto 4, 3) := by decide +kernel
theorem dX4_ableCars_96 : decode cX4_ableCars 96 = .ok (.iload_n 3, 1) := by decide +kernel
theorem dX4_ableCars_97 : decode cX4_ableCars 97 = .ok (.ireturn, 1) := by decide +kernel
theorem dX4_weightNow_0 : decode cX4_weightNow 0 = .ok (.iconst 1, 1) := by decide +kernel
theorem dX4_weightNow_1 : decode cX4_weightNow 1 = .ok (.aload_n 0, 1) := by decide +kernel
theorem dX4_weightNow_2 : decode cX4_weightNow 2 = .ok (.getfield 100, 3) := by decide +kernel
theorem dX4_weightNow_5 : decode cX4_weightNow 5 = .ok (.aload_n 1, 1) := by decide +kernel
theorem dX4_weightNow_6 : decode cX4_weightNow 6 = .ok (.getfield 184, 3) := by decide +kernel
theorem dX4_weightNow_9 : decode cX4_weightNow 9 = .ok (.isub, 1) := by decide +kernel
theorem dX4_weightNow_10 : decode cX4_weightNow 10 = .ok (.bipush 30, 2) := by decide +kernel
theorem dX4_weightNow_12 : decode cX4_weightNow 12 = .ok (.idiv, 1) := by decide +kernel
theorem dX4_weightNow_13 : decode cX4_weightNow 13 = .ok (.iadd, 1) := by decide +kernel
theorem dX4_weightNow_14 : decode cX4_weightNow 14 = .ok (.istore_n 2, 1) := by decide +kernel
theorem dX4_weightNow_15 : decode cX4_weightNow 15 = .ok (.aload_n 1, 1) := by decide +kernel
theorem dX4_weightNow_16 : decode cX4_weightNow 16 = .ok (.getfield 112, 3) := by decide +kernel
theorem dX4_weightNow_19 : decode cX4_weightNow 19 = .ok (.ifCond .eq 9, 3) := by decide +kernel
theorem dX4_weightNow_22 : decode cX4_weightNow 22 = .ok (.iconst 4, 1) := by decide +kernel
theorem dX4_weightNow_23 : decode cX4_weightNow 23 = .ok (.iload_n 2, 1) := by decide +kernel
theorem dX4_weightNow_24 : decode cX4_weightNow 24 = .ok (.imul, 1) := by decide +kernel
theorem dX4_weightNow_25 : decode cX4_weightNow 25 = .ok (.goto 4, 3) := by decide +kernel
theorem dX4_weightNow_28 : decode cX4_weightNow 28 = .ok (.iload_n 2, 1) := by decide +kernel
theorem dX4_weightNow_29 : decode cX4_weightNow 29 = .ok (.ireturn, 1) := by decide +kernel
