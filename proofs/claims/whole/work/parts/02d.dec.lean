theorem dX5_init_0 : decode cX5_init 0 = .ok (.aload_n 0, 1) := by decide +kernel
theorem dX5_init_1 : decode cX5_init 1 = .ok (.invokespecial 1, 3) := by decide +kernel
theorem dX5_init_4 : decode cX5_init 4 = .ok (.aload_n 0, 1) := by decide +kernel
theorem dX5_init_5 : decode cX5_init 5 = .ok (.iconst 4, 1) := by decide +kernel
theorem dX5_init_6 : decode cX5_init 6 = .ok (.newarray .int, 2) := by decide +kernel
theorem dX5_init_8 : decode cX5_init 8 = .ok (.putfield 7, 3) := by decide +kernel
theorem dX5_init_11 : decode cX5_init 11 = .ok (.aload_n 0, 1) := by decide +kernel
theorem dX5_init_12 : decode cX5_init 12 = .ok (.iconst 4, 1) := by decide +kernel
theorem dX5_init_13 : decode cX5_init 13 = .ok (.newarray .int, 2) := by decide +kernel
theorem dX5_init_15 : decode cX5_init 15 = .ok (.putfield 13, 3) := by decide +kernel
theorem dX5_init_18 : decode cX5_init 18 = .ok (.aload_n 0, 1) := by decide +kernel
theorem dX5_init_19 : decode cX5_init 19 = .ok (.iconst 4, 1) := by decide +kernel
theorem dX5_init_20 : decode cX5_init 20 = .ok (.newarray .int, 2) := by decide +kernel
theorem dX5_init_22 : decode cX5_init 22 = .ok (.putfield 16, 3) := by decide +kernel
theorem dX5_init_25 : decode cX5_init 25 = .ok (.aload_n 0, 1) := by decide +kernel
theorem dX5_init_26 : decode cX5_init 26 = .ok (.iconst 4, 1) := by decide +kernel
theorem dX5_init_27 : decode cX5_init 27 = .ok (.newarray .int, 2) := by decide +kernel
theorem dX5_init_29 : decode cX5_init 29 = .ok (.putfield 19, 3) := by decide +kernel
theorem dX5_init_32 : decode cX5_init 32 = .ok (.aload_n 0, 1) := by decide +kernel
theorem dX5_init_33 : decode cX5_init 33 = .ok (.iconst 4, 1) := by decide +kernel
theorem dX5_init_34 : decode cX5_init 34 = .ok (.newarray .int, 2) := by decide +kernel
theorem dX5_init_36 : decode cX5_init 36 = .ok (.putfield 22, 3) := by decide +kernel
theorem dX5_init_39 : decode cX5_init 39 = .ok (.aload_n 0, 1) := by decide +kernel
theorem dX5_init_40 : decode cX5_init 40 = .ok (.iconst 4, 1) := by decide +kernel
theorem dX5_init_41 : decode cX5_init 41 = .ok (.newarray .boolean, 2) := by decide +kernel
theorem dX5_init_43 : decode cX5_init 43 = .ok (.putfield 25, 3) := by decide +kernel
theorem dX5_init_46 : decode cX5_init 46 = .ok (.aload_n 0, 1) := by decide +kernel
theorem dX5_init_47 : decode cX5_init 47 = .ok (.sipush 400, 3) := by decide +kernel
theorem dX5_init_50 : decode cX5_init 50 = .ok (.newarray .int, 2) := by decide +kernel
theorem dX5_init_52 : decode cX5_init 52 = .ok (.putfield 29, 3) := by decide +kernel
theorem dX5_init_55 : decode cX5_init 55 = .ok (.aload_n 0, 1) := by decide +kernel
theorem dX5_init_56 : decode cX5_init 56 = .ok (.sipush 400, 3) := by decide +kernel
theorem dX5_init_59 : decode cX5_init 59 = .ok (.newarray .int, 2) := by decide +kernel
theorem dX5_init_61 : decode cX5_init 61 = .ok (.putfield 32, 3) := by decide +kernel
theorem dX5_init_64 : decode cX5_init 64 = .ok (.aload_n 0, 1) := by decide +kernel
theorem dX5_init_65 : decode cX5_init 65 = .ok (.sipush 400, 3) := by decide +kernel
theorem dX5_init_68 : decode cX5_init 68 = .ok (.newarray .int, 2) := by decide +kernel
theorem dX5_init_70 : decode cX5_init 70 = .ok (.putfield 35, 3) := by decide +kernel
theorem dX5_init_73 : decode cX5_init 73 = .ok (.aload_n 0, 1) := by decide +kernel
theorem dX5_init_74 : decode cX5_init 74 = .ok (.sipush 400, 3) := by decide +kernel
theorem dX5_init_77 : decode cX5_init 77 = .ok (.newarray .boolean, 2) := by decide +kernel
theorem dX5_init_79 : decode cX5_init 79 = .ok (.putfield 38, 3) := by decide +kernel
theorem dX5_init_82 : decode cX5_init 82 = .ok (.aload_n 0, 1) := by decide +kernel
theorem dX5_init_83 : decode cX5_init 83 = .ok (.sipush 400, 3) := by decide +kernel
theorem dX5_init_86 : decode cX5_init 86 = .ok (.newarray .boolean, 2) := by decide +kernel
theorem dX5_init_88 : decode cX5_init 88 = .ok (.putfield 41, 3) := by decide +kernel
theorem dX5_init_91 : decode cX5_init 91 = .ok (.aload_n 0, 1) := by decide +kernel
theorem dX5_init_92 : decode cX5_init 92 = .ok (.sipush 400, 3) := by decide +kernel
theorem dX5_init_95 : decode cX5_init 95 = .ok (.newarray .int, 2) := by decide +kernel
theorem dX5_init_97 : decode cX5_init 97 = .ok (.putfield 44, 3) := by decide +kernel
theorem dX5_init_100 : decode cX5_init 100 = .ok (.aload_n 0, 1) := by decide +kernel
theorem dX5_init_101 : decode cX5_init 101 = .ok (.sipush 400, 3) := by decide +kernel
theorem dX5_init_104 : decode cX5_init 104 = .ok (.newarray .int, 2) := by decide +kernel
theorem dX5_init_106 : decode cX5_init 106 = .ok (.putfield 47, 3) := by decide +kernel
theorem dX5_init_109 : decode cX5_init 109 = .ok (.aload_n 0, 1) := by decide +kernel
theorem dX5_init_110 : decode cX5_init 110 = .ok (.sipush 400, 3) := by decide +kernel
theorem dX5_init_113 : decode cX5_init 113 = .ok (.newarray .int, 2) := by decide +kernel
theorem dX5_init_115 : decode cX5_init 115 = .ok (.putfield 50, 3) := by decide +kernel
theorem dX5_init_118 : decode cX5_init 118 = .ok (.aload_n 0, 1) := by decide +kernel
theorem dX5_init_119 : decode cX5_init 119 = .ok (.sipush 400, 3) := by decide +kernel
theorem dX5_init_122 : decode cX5_init 122 = .ok (.newarray .int, 2) := by decide +kernel
theorem dX5_init_124 : decode cX5_init 124 = .ok (.putfield 53, 3) := by decide +kernel
theorem dX5_init_127 : decode cX5_init 127 = .ok (.aload_n 0, 1) := by decide +kernel
theorem dX5_init_128 : decode cX5_init 128 = .ok (.sipush 400, 3) := by decide +kernel
theorem dX5_init_131 : decode cX5_init 131 = .ok (.newarray .int, 2) := by decide +kernel
theorem dX5_init_133 : decode cX5_init 133 = .ok (.putfield 56, 3) := by decide +kernel
theorem dX5_init_136 : decode cX5_init 136 = .ok (.aload_n 0, 1) := by decide +kernel
theorem dX5_init_137 : decode cX5_init 137 = .ok (.bipush 24, 2) := by decide +kernel
theorem dX5_init_139 : decode cX5_init 139 = .ok (.newarray .int, 2) := by decide +kernel
theorem dX5_init_141 : decode cX5_init 141 = .ok (.putfield 59, 3) := by decide +kernel
theorem dX5_init_144 : decode cX5_init 144 = .ok (.aload_n 0, 1) := by decide +kernel
theorem dX5_init_145 : decode cX5_init 145 = .ok (.iconst 4, 1) := by decide +kernel
theorem dX5_init_146 : decode cX5_init 146 = .ok (.newarray .int, 2) := by decide +kernel
theorem dX5_init_148 : decode cX5_init 148 = .ok (.putfield 62, 3) := by decide +kernel
theorem dX5_init_151 : decode cX5_init 151 = .ok (.aload_n 0, 1) := by decide +kernel
theorem dX5_init_152 : decode cX5_init 152 = .ok (.bipush 6, 2) := by decide +kernel
theorem dX5_init_154 : decode cX5_init 154 = .ok (.newarray .int, 2) := by decide +kernel
theorem dX5_init_156 : decode cX5_init 156 = .ok (.putfield 65, 3) := by decide +kernel
theorem dX5_init_159 : decode cX5_init 159 = .ok (.aload_n 0, 1) := by decide +kernel
theorem dX5_init_160 : decode cX5_init 160 = .ok (.bipush 6, 2) := by decide +kernel
theorem dX5_init_162 : decode cX5_init 162 = .ok (.newarray .int, 2) := by decide +kernel
theorem dX5_init_164 : decode cX5_init 164 = .ok (.putfield 68, 3) := by decide +kernel
theorem dX5_init_167 : decode cX5_init 167 = .ok (.aload_n 0, 1) := by decide +kernel
theorem dX5_init_168 : decode cX5_init 168 = .ok (.sipush 256, 3) := by decide +kernel
theorem dX5_init_171 : decode cX5_init 171 = .ok (.newarray .long, 2) := by decide +kernel
theorem dX5_init_173 : decode cX5_init 173 = .ok (.putfield 71, 3) := by decide +kernel
theorem dX5_init_176 : decode cX5_init 176 = .ok (.aload_n 0, 1) := by decide +kernel
theorem dX5_init_177 : decode cX5_init 177 = .ok (.sipush 1536, 3) := by decide +kernel
theorem dX5_init_180 : decode cX5_init 180 = .ok (.newarray .int, 2) := by decide +kernel
theorem dX5_init_182 : decode cX5_init 182 = .ok (.putfield 75, 3) := by decide +kernel
theorem dX5_init_185 : decode cX5_init 185 = .ok (.aload_n 0, 1) := by decide +kernel
theorem dX5_init_186 : decode cX5_init 186 = .ok (.bipush 6, 2) := by decide +kernel
theorem dX5_init_188 : decode cX5_init 188 = .ok (.newarray .int, 2) := by decide +kernel
theorem dX5_init_190 : decode cX5_init 190 = .ok (.putfield 78, 3) := by decide +kernel
theorem dX5_init_193 : decode cX5_init 193 = .ok (.aload_n 0, 1) := by decide +kernel
theorem dX5_init_194 : decode cX5_init 194 = .ok (.bipush 6, 2) := by decide +kernel
theorem dX5_init_196 : decode cX5_init 196 = .ok (.newarray .int, 2) := by decide +kernel
theorem dX5_init_198 : decode cX5_init 198 = .ok (.putfield 81, 3) := by decide +kernel
theorem dX5_init_201 : decode cX5_init 201 = .ok (.aload_n 0, 1) := by decide +kernel
theorem dX5_init_202 : decode cX5_init 202 = .ok (.iload_n 1, 1) := by decide +kernel
theorem dX5_init_203 : decode cX5_init 203 = .ok (.iconst 2, 1) := by decide +kernel
theorem dX5_init_204 : decode cX5_init 204 = .ok (.if_icmp .ge 7, 3) := by decide +kernel
theorem dX5_init_207 : decode cX5_init 207 = .ok (.iconst 2, 1) := by decide +kernel
theorem dX5_init_208 : decode cX5_init 208 = .ok (.goto 15, 3) := by decide +kernel
theorem dX5_init_211 : decode cX5_init 211 = .ok (.iload_n 1, 1) := by decide +kernel
theorem dX5_init_212 : decode cX5_init 212 = .ok (.bipush 60, 2) := by decide +kernel
theorem dX5_init_214 : decode cX5_init 214 = .ok (.if_icmp .le 8, 3) := by decide +kernel
theorem dX5_init_217 : decode cX5_init 217 = .ok (.bipush 60, 2) := by decide +kernel
theorem dX5_init_219 : decode cX5_init 219 = .ok (.goto 4, 3) := by decide +kernel
theorem dX5_init_222 : decode cX5_init 222 = .ok (.iload_n 1, 1) := by decide +kernel
theorem dX5_init_223 : decode cX5_init 223 = .ok (.putfield 84, 3) := by decide +kernel
theorem dX5_init_226 : decode cX5_init 226 = .ok (.iconst 0, 1) := by decide +kernel
theorem dX5_init_227 : decode cX5_init 227 = .ok (.istore_n 2, 1) := by decide +kernel
theorem dX5_init_228 : decode cX5_init 228 = .ok (.iload_n 2, 1) := by decide +kernel
theorem dX5_init_229 : decode cX5_init 229 = .ok (.sipush 400, 3) := by decide +kernel
theorem dX5_init_232 : decode cX5_init 232 = .ok (.if_icmp .ge 16, 3) := by decide +kernel
theorem dX5_init_235 : decode cX5_init 235 = .ok (.aload_n 0, 1) := by decide +kernel
theorem dX5_init_236 : decode cX5_init 236 = .ok (.getfield 47, 3) := by decide +kernel
theorem dX5_init_239 : decode cX5_init 239 = .ok (.iload_n 2, 1) := by decide +kernel
theorem dX5_init_240 : decode cX5_init 240 = .ok (.iconst (-1), 1) := by decide +kernel
theorem dX5_init_241 : decode cX5_init 241 = .ok (.iastore, 1) := by decide +kernel
theorem dX5_init_242 : decode cX5_init 242 = .ok (.iinc 2 1, 3) := by decide +kernel
theorem dX5_init_245 : decode cX5_init 245 = .ok (.goto (-17), 3) := by decide +kernel
theorem dX5_init_248 : decode cX5_init 248 = .ok (.return_, 1) := by decide +kernel
theorem dX5_thrown_0 : decode cX5_thrown 0 = .ok (.aload_n 0, 1) := by decide +kernel
theorem dX5_thrown_1 : decode cX5_thrown 1 = .ok (.getfield 88, 3) := by decide +kernel
theorem dX5_thrown_4 : decode cX5_thrown 4 = .ok (.ireturn, 1) := by decide +kernel
theorem dX5_isIn_0 : decode cX5_isIn 0 = .ok (.iload_n 0, 1) := by decide +kernel
theorem dX5_isIn_1 : decode cX5_isIn 1 = .ok (.iload_n 1, 1) := by decide +kernel
theorem dX5_isIn_2 : decode cX5_isIn 2 = .ok (.if_icmp .lt 12, 3) := by decide +kernel
theorem dX5_isIn_5 : decode cX5_isIn 5 = .ok (.iload_n 0, 1) := by decide +kernel
theorem dX5_isIn_6 : decode cX5_isIn 6 = .ok (.iload_n 2, 1) := by decide +kernel
theorem dX5_isIn_7 : decode cX5_isIn 7 = .ok (.if_icmp .gt 7, 3) := by decide +kernel
theorem dX5_isIn_10 : decode cX5_isIn 10 = .ok (.iconst 1, 1) := by decide +kernel
theorem dX5_isIn_11 : decode cX5_isIn 11 = .ok (.goto 4, 3) := by decide +kernel
theorem dX5_isIn_14 : decode cX5_isIn 14 = .ok (.iconst 0, 1) := by decide +kernel
theorem dX5_isIn_15 : decode cX5_isIn 15 = .ok (.ireturn, 1) := by decide +kernel
theorem dX5_isFloor_0 : decode cX5_isFloor 0 = .ok (.iload_n 1, 1) := by decide +kernel
theorem dX5_isFloor_1 : decode cX5_isFloor 1 = .ok (.iconst 0, 1) := by decide +kernel
theorem dX5_isFloor_2 : decode cX5_isFloor 2 = .ok (.aload_n 0, 1) := by decide +kernel
theorem dX5_isFloor_3 : decode cX5_isFloor 3 = .ok (.getfield 84, 3) := by decide +kernel
theorem dX5_isFloor_6 : decode cX5_isFloor 6 = .ok (.iconst 1, 1) := by decide +kernel
theorem dX5_isFloor_7 : decode cX5_isFloor 7 = .ok (.isub, 1) := by decide +kernel
theorem dX5_isFloor_8 : decode cX5_isFloor 8 = .ok (.invokestatic 91, 3) := by decide +kernel
theorem dX5_isFloor_11 : decode cX5_isFloor 11 = .ok (.ireturn, 1) := by decide +kernel
theorem dX5_isCar_0 : decode cX5_isCar 0 = .ok (.iload_n 1, 1) := by decide +kernel
theorem dX5_isCar_1 : decode cX5_isCar 1 = .ok (.iconst 0, 1) := by decide +kernel
theorem dX5_isCar_2 : decode cX5_isCar 2 = .ok (.aload_n 0, 1) := by decide +kernel
theorem dX5_isCar_3 : decode cX5_isCar 3 = .ok (.getfield 95, 3) := by decide +kernel
theorem dX5_isCar_6 : decode cX5_isCar 6 = .ok (.iconst 1, 1) := by decide +kernel
theorem dX5_isCar_7 : decode cX5_isCar 7 = .ok (.isub, 1) := by decide +kernel
theorem dX5_isCar_8 : decode cX5_isCar 8 = .ok (.invokestatic 91, 3) := by decide +kernel
theorem dX5_isCar_11 : decode cX5_isCar 11 = .ok (.ireturn, 1) := by decide +kernel
theorem dX5_isOpenCall_0 : decode cX5_isOpenCall 0 = .ok (.iload_n 1, 1) := by decide +kernel
theorem dX5_isOpenCall_1 : decode cX5_isOpenCall 1 = .ok (.iconst 0, 1) := by decide +kernel
theorem dX5_isOpenCall_2 : decode cX5_isOpenCall 2 = .ok (.aload_n 0, 1) := by decide +kernel
theorem dX5_isOpenCall_3 : decode cX5_isOpenCall 3 = .ok (.getfield 98, 3) := by decide +kernel
theorem dX5_isOpenCall_6 : decode cX5_isOpenCall 6 = .ok (.iconst 1, 1) := by decide +kernel
theorem dX5_isOpenCall_7 : decode cX5_isOpenCall 7 = .ok (.isub, 1) := by decide +kernel
theorem dX5_isOpenCall_8 : decode cX5_isOpenCall 8 = .ok (.invokestatic 91, 3) := by decide +kernel
theorem dX5_isOpenCall_11 : decode cX5_isOpenCall 11 = .ok (.ifCond .eq 16, 3) := by decide +kernel
theorem dX5_isOpenCall_14 : decode cX5_isOpenCall 14 = .ok (.aload_n 0, 1) := by decide +kernel
theorem dX5_isOpenCall_15 : decode cX5_isOpenCall 15 = .ok (.getfield 38, 3) := by decide +kernel
theorem dX5_isOpenCall_18 : decode cX5_isOpenCall 18 = .ok (.iload_n 1, 1) := by decide +kernel
theorem dX5_isOpenCall_19 : decode cX5_isOpenCall 19 = .ok (.baload, 1) := by decide +kernel
theorem dX5_isOpenCall_20 : decode cX5_isOpenCall 20 = .ok (.ifCond .eq 7, 3) := by decide +kernel
theorem dX5_isOpenCall_23 : decode cX5_isOpenCall 23 = .ok (.iconst 1, 1) := by decide +kernel
theorem dX5_isOpenCall_24 : decode cX5_isOpenCall 24 = .ok (.goto 4, 3) := by decide +kernel
theorem dX5_isOpenCall_27 : decode cX5_isOpenCall 27 = .ok (.iconst 0, 1) := by decide +kernel
theorem dX5_isOpenCall_28 : decode cX5_isOpenCall 28 = .ok (.ireturn, 1) := by decide +kernel
theorem dX5_car_0 : decode cX5_car 0 = .ok (.aload_n 0, 1) := by decide +kernel
theorem dX5_car_1 : decode cX5_car 1 = .ok (.aload_n 0, 1) := by decide +kernel
theorem dX5_car_2 : decode cX5_car 2 = .ok (.iload_n 1, 1) := by decide +kernel
theorem dX5_car_3 : decode cX5_car 3 = .ok (.invokevirtual 101, 3) := by decide +kernel
theorem dX5_car_6 : decode cX5_car 6 = .ok (.ifCond .eq 12, 3) := by decide +kernel
theorem dX5_car_9 : decode cX5_car 9 = .ok (.iload_n 2, 1) := by decide +kernel
theorem dX5_car_10 : decode cX5_car 10 = .ok (.iconst 1, 1) := by decide +kernel
theorem dX5_car_11 : decode cX5_car 11 = .ok (.iconst 5, 1) := by decide +kernel
theorem dX5_car_12 : decode cX5_car 12 = .ok (.invokestatic 91, 3) := by decide +kernel
theorem dX5_car_15 : decode cX5_car 15 = .ok (.ifCond .ne 7, 3) := by decide +kernel
theorem dX5_car_18 : decode cX5_car 18 = .ok (.iconst 1, 1) := by decide +kernel
theorem dX5_car_19 : decode cX5_car 19 = .ok (.goto 16, 3) := by decide +kernel
theorem dX5_car_22 : decode cX5_car 22 = .ok (.aload_n 0, 1) := by decide +kernel
theorem dX5_car_23 : decode cX5_car 23 = .ok (.getfield 95, 3) := by decide +kernel
theorem dX5_car_26 : decode cX5_car 26 = .ok (.iconst 4, 1) := by decide +kernel
theorem dX5_car_27 : decode cX5_car 27 = .ok (.if_icmp .ne 7, 3) := by decide +kernel
theorem dX5_car_30 : decode cX5_car 30 = .ok (.iconst 2, 1) := by decide +kernel
theorem dX5_car_31 : decode cX5_car 31 = .ok (.goto 4, 3) := by decide +kernel
theorem dX5_car_34 : decode cX5_car 34 = .ok (.iconst 0, 1) := by decide +kernel
theorem dX5_car_35 : decode cX5_car 35 = .ok (.putfield 88, 3) := by decide +kernel
theorem dX5_car_38 : decode cX5_car 38 = .ok (.aload_n 0, 1) := by decide +kernel
theorem dX5_car_39 : decode cX5_car 39 = .ok (.getfield 88, 3) := by decide +kernel
theorem dX5_car_42 : decode cX5_car 42 = .ok (.ifCond .le 5, 3) := by decide +kernel
theorem dX5_car_45 : decode cX5_car 45 = .ok (.iconst 0, 1) := by decide +kernel
theorem dX5_car_46 : decode cX5_car 46 = .ok (.ireturn, 1) := by decide +kernel
theorem dX5_car_47 : decode cX5_car 47 = .ok (.aload_n 0, 1) := by decide +kernel
theorem dX5_car_48 : decode cX5_car 48 = .ok (.getfield 7, 3) := by decide +kernel
theorem dX5_car_51 : decode cX5_car 51 = .ok (.aload_n 0, 1) := by decide +kernel
theorem dX5_car_52 : decode cX5_car 52 = .ok (.getfield 95, 3) := by decide +kernel
theorem dX5_car_55 : decode cX5_car 55 = .ok (.iload_n 2, 1) := by decide +kernel
theorem dX5_car_56 : decode cX5_car 56 = .ok (.iastore, 1) := by decide +kernel
theorem dX5_car_57 : decode cX5_car 57 = .ok (.aload_n 0, 1) := by decide +kernel
theorem dX5_car_58 : decode cX5_car 58 = .ok (.getfield 13, 3) := by decide +kernel
theorem dX5_car_61 : decode cX5_car 61 = .ok (.aload_n 0, 1) := by decide +kernel
theorem dX5_car_62 : decode cX5_car 62 = .ok (.getfield 95, 3) := by decide +kernel
theorem dX5_car_65 : decode cX5_car 65 = .ok (.iload_n 1, 1) := by decide +kernel
theorem dX5_car_66 : decode cX5_car 66 = .ok (.iastore, 1) := by decide +kernel
theorem dX5_car_67 : decode cX5_car 67 = .ok (.aload_n 0, 1) := by decide +kernel
theorem dX5_car_68 : decode cX5_car 68 = .ok (.getfield 16, 3) := by decide +kernel
theorem dX5_car_71 : decode cX5_car 71 = .ok (.aload_n 0, 1) := by decide +kernel
theorem dX5_car_72 : decode cX5_car 72 = .ok (.getfield 95, 3) := by decide +kernel
theorem dX5_car_75 : decode cX5_car 75 = .ok (.aload_n 0, 1) := by decide +kernel
theorem dX5_car_76 : decode cX5_car 76 = .ok (.getfield 105, 3) := by decide +kernel
theorem dX5_car_79 : decode cX5_car 79 = .ok (.iastore, 1) := by decide +kernel
theorem dX5_car_80 : decode cX5_car 80 = .ok (.aload_n 0, 1) := by decide +kernel
theorem dX5_car_81 : decode cX5_car 81 = .ok (.getfield 19, 3) := by decide +kernel
theorem dX5_car_84 : decode cX5_car 84 = .ok (.aload_n 0, 1) := by decide +kernel
theorem dX5_car_85 : decode cX5_car 85 = .ok (.getfield 95, 3) := by decide +kernel
theorem dX5_car_88 : decode cX5_car 88 = .ok (.iconst 0, 1) := by decide +kernel
theorem dX5_car_89 : decode cX5_car 89 = .ok (.iastore, 1) := by decide +kernel
theorem dX5_car_90 : decode cX5_car 90 = .ok (.aload_n 0, 1) := by decide +kernel
theorem dX5_car_91 : decode cX5_car 91 = .ok (.getfield 22, 3) := by decide +kernel
theorem dX5_car_94 : decode cX5_car 94 = .ok (.aload_n 0, 1) := by decide +kernel
theorem dX5_car_95 : decode cX5_car 95 = .ok (.getfield 95, 3) := by decide +kernel
theorem dX5_car_98 : decode cX5_car 98 = .ok (.aload_n 0, 1) := by decide +kernel
theorem dX5_car_99 : decode cX5_car 99 = .ok (.getfield 84, 3) := by decide +kernel
theorem dX5_car_102 : decode cX5_car 102 = .ok (.iconst 1, 1) := by decide +kernel
theorem dX5_car_103 : decode cX5_car 103 = .ok (.isub, 1) := by decide +kernel
theorem dX5_car_104 : decode cX5_car 104 = .ok (.iastore, 1) := by decide +kernel
theorem dX5_car_105 : decode cX5_car 105 = .ok (.aload_n 0, 1) := by decide +kernel
theorem dX5_car_106 : decode cX5_car 106 = .ok (.getfield 25, 3) := by decide +kernel
theorem dX5_car_109 : decode cX5_car 109 = .ok (.aload_n 0, 1) := by decide +kernel
theorem dX5_car_110 : decode cX5_car 110 = .ok (.getfield 95, 3) := by decide +kernel
theorem dX5_car_113 : decode cX5_car 113 = .ok (.iconst 0, 1) := by decide +kernel
theorem dX5_car_114 : decode cX5_car 114 = .ok (.bastore, 1) := by decide +kernel
theorem dX5_car_115 : decode cX5_car 115 = .ok (.aload_n 0, 1) := by decide +kernel
theorem dX5_car_116 : decode cX5_car 116 = .ok (.dup, 1) := by decide +kernel
theorem dX5_car_117 : decode cX5_car 117 = .ok (.getfield 95, 3) := by decide +kernel
theorem dX5_car_120 : decode cX5_car 120 = .ok (.iconst 1, 1) := by decide +kernel
theorem dX5_car_121 : decode cX5_car 121 = .ok (.iadd, 1) := by decide +kernel
theorem dX5_car_122 : decode cX5_car 122 = .ok (.putfield 95, 3) := by decide +kernel
theorem dX5_car_125 : decode cX5_car 125 = .ok (.aload_n 0, 1) := by decide +kernel
theorem dX5_car_126 : decode cX5_car 126 = .ok (.getfield 95, 3) := by decide +kernel
theorem dX5_car_129 : decode cX5_car 129 = .ok (.iconst 1, 1) := by decide +kernel
theorem dX5_car_130 : decode cX5_car 130 = .ok (.isub, 1) := by decide +kernel
theorem dX5_car_131 : decode cX5_car 131 = .ok (.ireturn, 1) := by decide +kernel
theorem dX5_free_0 : decode cX5_free 0 = .ok (.aload_n 0, 1) := by decide +kernel
theorem dX5_free_1 : decode cX5_free 1 = .ok (.aload_n 0, 1) := by decide +kernel
theorem dX5_free_2 : decode cX5_free 2 = .ok (.iload_n 1, 1) := by decide +kernel
theorem dX5_free_3 : decode cX5_free 3 = .ok (.invokevirtual 108, 3) := by decide +kernel
theorem dX5_free_6 : decode cX5_free 6 = .ok (.ifCond .eq 21, 3) := by decide +kernel
theorem dX5_free_9 : decode cX5_free 9 = .ok (.aload_n 0, 1) := by decide +kernel
theorem dX5_free_10 : decode cX5_free 10 = .ok (.iload_n 2, 1) := by decide +kernel
theorem dX5_free_11 : decode cX5_free 11 = .ok (.invokevirtual 101, 3) := by decide +kernel
theorem dX5_free_14 : decode cX5_free 14 = .ok (.ifCond .eq 13, 3) := by decide +kernel
theorem dX5_free_17 : decode cX5_free 17 = .ok (.iload_n 3, 1) := by decide +kernel
theorem dX5_free_18 : decode cX5_free 18 = .ok (.iconst 0, 1) := by decide +kernel
theorem dX5_free_19 : decode cX5_free 19 = .ok (.ldc 111, 2) := by decide +kernel
theorem dX5_free_21 : decode cX5_free 21 = .ok (.invokestatic 91, 3) := by decide +kernel
theorem dX5_free_24 : decode cX5_free 24 = .ok (.ifCond .ne 7, 3) := by decide +kernel
theorem dX5_free_27 : decode cX5_free 27 = .ok (.iconst 1, 1) := by decide +kernel
theorem dX5_free_28 : decode cX5_free 28 = .ok (.goto 4, 3) := by decide +kernel
theorem dX5_free_31 : decode cX5_free 31 = .ok (.iconst 0, 1) := by decide +kernel
theorem dX5_free_32 : decode cX5_free 32 = .ok (.putfield 88, 3) := by decide +kernel
theorem dX5_free_35 : decode cX5_free 35 = .ok (.aload_n 0, 1) := by decide +kernel
theorem dX5_free_36 : decode cX5_free 36 = .ok (.getfield 88, 3) := by decide +kernel
theorem dX5_free_39 : decode cX5_free 39 = .ok (.ifCond .ne 17, 3) := by decide +kernel
theorem dX5_free_42 : decode cX5_free 42 = .ok (.aload_n 0, 1) := by decide +kernel
theorem dX5_free_43 : decode cX5_free 43 = .ok (.getfield 13, 3) := by decide +kernel
theorem dX5_free_46 : decode cX5_free 46 = .ok (.iload_n 1, 1) := by decide +kernel
theorem dX5_free_47 : decode cX5_free 47 = .ok (.iload_n 2, 1) := by decide +kernel
theorem dX5_free_48 : decode cX5_free 48 = .ok (.iastore, 1) := by decide +kernel
theorem dX5_free_49 : decode cX5_free 49 = .ok (.aload_n 0, 1) := by decide +kernel
theorem dX5_free_50 : decode cX5_free 50 = .ok (.getfield 16, 3) := by decide +kernel
theorem dX5_free_53 : decode cX5_free 53 = .ok (.iload_n 1, 1) := by decide +kernel
theorem dX5_free_54 : decode cX5_free 54 = .ok (.iload_n 3, 1) := by decide +kernel
theorem dX5_free_55 : decode cX5_free 55 = .ok (.iastore, 1) := by decide +kernel
theorem dX5_free_56 : decode cX5_free 56 = .ok (.return_, 1) := by decide +kernel
theorem dX5_zone_0 : decode cX5_zone 0 = .ok (.aload_n 0, 1) := by decide +kernel
theorem dX5_zone_1 : decode cX5_zone 1 = .ok (.aload_n 0, 1) := by decide +kernel
theorem dX5_zone_2 : decode cX5_zone 2 = .ok (.iload_n 1, 1) := by decide +kernel
theorem dX5_zone_3 : decode cX5_zone 3 = .ok (.invokevirtual 108, 3) := by decide +kernel
theorem dX5_zone_6 : decode cX5_zone 6 = .ok (.ifCond .eq 24, 3) := by decide +kernel
theorem dX5_zone_9 : decode cX5_zone 9 = .ok (.aload_n 0, 1) := by decide +kernel
theorem dX5_zone_10 : decode cX5_zone 10 = .ok (.iload_n 2, 1) := by decide +kernel
theorem dX5_zone_11 : decode cX5_zone 11 = .ok (.invokevirtual 101, 3) := by decide +kernel
theorem dX5_zone_14 : decode cX5_zone 14 = .ok (.ifCond .eq 16, 3) := by decide +kernel
theorem dX5_zone_17 : decode cX5_zone 17 = .ok (.aload_n 0, 1) := by decide +kernel
theorem dX5_zone_18 : decode cX5_zone 18 = .ok (.iload_n 3, 1) := by decide +kernel
theorem dX5_zone_19 : decode cX5_zone 19 = .ok (.invokevirtual 101, 3) := by decide +kernel
theorem dX5_zone_22 : decode cX5_zone 22 = .ok (.ifCond .eq 8, 3) := by decide +kernel
theorem dX5_zone_25 : decode cX5_zone 25 = .ok (.iload_n 2, 1) := by decide +kernel
theorem dX5_zone_26 : decode cX5_zone 26 = .ok (.iload_n 3, 1) := by decide +kernel
theorem dX5_zone_27 : decode cX5_zone 27 = .ok (.if_icmp .le 7, 3) := by decide +kernel
theorem dX5_zone_30 : decode cX5_zone 30 = .ok (.iconst 1, 1) := by decide +kernel
theorem dX5_zone_31 : decode cX5_zone 31 = .ok (.goto 4, 3) := by decide +kernel
theorem dX5_zone_34 : decode cX5_zone 34 = .ok (.iconst 0, 1) := by decide +kernel
theorem dX5_zone_35 : decode cX5_zone 35 = .ok (.putfield 88, 3) := by decide +kernel
theorem dX5_zone_38 : decode cX5_zone 38 = .ok (.aload_n 0, 1) := by decide +kernel
theorem dX5_zone_39 : decode cX5_zone 39 = .ok (.getfield 88, 3) := by decide +kernel
theorem dX5_zone_42 : decode cX5_zone 42 = .ok (.ifCond .ne 17, 3) := by decide +kernel
theorem dX5_zone_45 : decode cX5_zone 45 = .ok (.aload_n 0, 1) := by decide +kernel
theorem dX5_zone_46 : decode cX5_zone 46 = .ok (.getfield 19, 3) := by decide +kernel
theorem dX5_zone_49 : decode cX5_zone 49 = .ok (.iload_n 1, 1) := by decide +kernel
theorem dX5_zone_50 : decode cX5_zone 50 = .ok (.iload_n 2, 1) := by decide +kernel
theorem dX5_zone_51 : decode cX5_zone 51 = .ok (.iastore, 1) := by decide +kernel
theorem dX5_zone_52 : decode cX5_zone 52 = .ok (.aload_n 0, 1) := by decide +kernel
theorem dX5_zone_53 : decode cX5_zone 53 = .ok (.getfield 22, 3) := by decide +kernel
theorem dX5_zone_56 : decode cX5_zone 56 = .ok (.iload_n 1, 1) := by decide +kernel
theorem dX5_zone_57 : decode cX5_zone 57 = .ok (.iload_n 3, 1) := by decide +kernel
theorem dX5_zone_58 : decode cX5_zone 58 = .ok (.iastore, 1) := by decide +kernel
theorem dX5_zone_59 : decode cX5_zone 59 = .ok (.return_, 1) := by decide +kernel
theorem dX5_sleep_0 : decode cX5_sleep 0 = .ok (.aload_n 0, 1) := by decide +kernel
theorem dX5_sleep_1 : decode cX5_sleep 1 = .ok (.aload_n 0, 1) := by decide +kernel
theorem dX5_sleep_2 : decode cX5_sleep 2 = .ok (.iload_n 1, 1) := by decide +kernel
theorem dX5_sleep_3 : decode cX5_sleep 3 = .ok (.invokevirtual 108, 3) := by decide +kernel
theorem dX5_sleep_6 : decode cX5_sleep 6 = .ok (.ifCond .eq 7, 3) := by decide +kernel
theorem dX5_sleep_9 : decode cX5_sleep 9 = .ok (.iconst 0, 1) := by decide +kernel
theorem dX5_sleep_10 : decode cX5_sleep 10 = .ok (.goto 4, 3) := by decide +kernel
theorem dX5_sleep_13 : decode cX5_sleep 13 = .ok (.iconst 1, 1) := by decide +kernel
theorem dX5_sleep_14 : decode cX5_sleep 14 = .ok (.putfield 88, 3) := by decide +kernel
theorem dX5_sleep_17 : decode cX5_sleep 17 = .ok (.aload_n 0, 1) := by decide +kernel
theorem dX5_sleep_18 : decode cX5_sleep 18 = .ok (.getfield 88, 3) := by decide +kernel
theorem dX5_sleep_21 : decode cX5_sleep 21 = .ok (.ifCond .le 5, 3) := by decide +kernel
theorem dX5_sleep_24 : decode cX5_sleep 24 = .ok (.iconst 0, 1) := by decide +kernel
theorem dX5_sleep_25 : decode cX5_sleep 25 = .ok (.ireturn, 1) := by decide +kernel
theorem dX5_sleep_26 : decode cX5_sleep 26 = .ok (.aload_n 0, 1) := by decide +kernel
theorem dX5_sleep_27 : decode cX5_sleep 27 = .ok (.getfield 25, 3) := by decide +kernel
theorem dX5_sleep_30 : decode cX5_sleep 30 = .ok (.iload_n 1, 1) := by decide +kernel
theorem dX5_sleep_31 : decode cX5_sleep 31 = .ok (.baload, 1) := by decide +kernel
theorem dX5_sleep_32 : decode cX5_sleep 32 = .ok (.istore_n 3, 1) := by decide +kernel
theorem dX5_sleep_33 : decode cX5_sleep 33 = .ok (.aload_n 0, 1) := by decide +kernel
theorem dX5_sleep_34 : decode cX5_sleep 34 = .ok (.getfield 25, 3) := by decide +kernel
theorem dX5_sleep_37 : decode cX5_sleep 37 = .ok (.iload_n 1, 1) := by decide +kernel
theorem dX5_sleep_38 : decode cX5_sleep 38 = .ok (.iload_n 2, 1) := by decide +kernel
theorem dX5_sleep_39 : decode cX5_sleep 39 = .ok (.bastore, 1) := by decide +kernel
theorem dX5_sleep_40 : decode cX5_sleep 40 = .ok (.iload_n 3, 1) := by decide +kernel
theorem dX5_sleep_41 : decode cX5_sleep 41 = .ok (.ireturn, 1) := by decide +kernel
theorem dX5_call_0 : decode cX5_call 0 = .ok (.aload_n 0, 1) := by decide +kernel
theorem dX5_call_1 : decode cX5_call 1 = .ok (.aload_n 0, 1) := by decide +kernel
theorem dX5_call_2 : decode cX5_call 2 = .ok (.iload_n 1, 1) := by decide +kernel
theorem dX5_call_3 : decode cX5_call 3 = .ok (.invokevirtual 101, 3) := by decide +kernel
theorem dX5_call_6 : decode cX5_call 6 = .ok (.ifCond .eq 16, 3) := by decide +kernel
theorem dX5_call_9 : decode cX5_call 9 = .ok (.aload_n 0, 1) := by decide +kernel
theorem dX5_call_10 : decode cX5_call 10 = .ok (.iload_n 2, 1) := by decide +kernel
theorem dX5_call_11 : decode cX5_call 11 = .ok (.invokevirtual 101, 3) := by decide +kernel
theorem dX5_call_14 : decode cX5_call 14 = .ok (.ifCond .eq 8, 3) := by decide +kernel
theorem dX5_call_17 : decode cX5_call 17 = .ok (.iload_n 1, 1) := by decide +kernel
theorem dX5_call_18 : decode cX5_call 18 = .ok (.iload_n 2, 1) := by decide +kernel
theorem dX5_call_19 : decode cX5_call 19 = .ok (.if_icmp .ne 7, 3) := by decide +kernel
theorem dX5_call_22 : decode cX5_call 22 = .ok (.iconst 1, 1) := by decide +kernel
theorem dX5_call_23 : decode cX5_call 23 = .ok (.goto 27, 3) := by decide +kernel
theorem dX5_call_26 : decode cX5_call 26 = .ok (.aload_n 0, 1) := by decide +kernel
theorem dX5_call_27 : decode cX5_call 27 = .ok (.getfield 112, 3) := by decide +kernel
theorem dX5_call_30 : decode cX5_call 30 = .ok (.bipush 6, 2) := by decide +kernel
theorem dX5_call_32 : decode cX5_call 32 = .ok (.if_icmp .eq 13, 3) := by decide +kernel
theorem dX5_call_35 : decode cX5_call 35 = .ok (.aload_n 0, 1) := by decide +kernel
theorem dX5_call_36 : decode cX5_call 36 = .ok (.getfield 98, 3) := by decide +kernel
theorem dX5_call_39 : decode cX5_call 39 = .ok (.sipush 400, 3) := by decide +kernel
theorem dX5_call_42 : decode cX5_call 42 = .ok (.if_icmp .ne 7, 3) := by decide +kernel
theorem dX5_call_45 : decode cX5_call 45 = .ok (.iconst 2, 1) := by decide +kernel
theorem dX5_call_46 : decode cX5_call 46 = .ok (.goto 4, 3) := by decide +kernel
theorem dX5_call_49 : decode cX5_call 49 = .ok (.iconst 0, 1) := by decide +kernel
theorem dX5_call_50 : decode cX5_call 50 = .ok (.putfield 88, 3) := by decide +kernel
theorem dX5_call_53 : decode cX5_call 53 = .ok (.aload_n 0, 1) := by decide +kernel
theorem dX5_call_54 : decode cX5_call 54 = .ok (.getfield 88, 3) := by decide +kernel
theorem dX5_call_57 : decode cX5_call 57 = .ok (.ifCond .le 5, 3) := by decide +kernel
theorem dX5_call_60 : decode cX5_call 60 = .ok (.iconst 0, 1) := by decide +kernel
theorem dX5_call_61 : decode cX5_call 61 = .ok (.ireturn, 1) := by decide +kernel
theorem dX5_call_62 : decode cX5_call 62 = .ok (.aload_n 0, 1) := by decide +kernel
theorem dX5_call_63 : decode cX5_call 63 = .ok (.getfield 29, 3) := by decide +kernel
theorem dX5_call_66 : decode cX5_call 66 = .ok (.aload_n 0, 1) := by decide +kernel
theorem dX5_call_67 : decode cX5_call 67 = .ok (.getfield 98, 3) := by decide +kernel
theorem dX5_call_70 : decode cX5_call 70 = .ok (.iload_n 1, 1) := by decide +kernel
theorem dX5_call_71 : decode cX5_call 71 = .ok (.iastore, 1) := by decide +kernel
theorem dX5_call_72 : decode cX5_call 72 = .ok (.aload_n 0, 1) := by decide +kernel
theorem dX5_call_73 : decode cX5_call 73 = .ok (.getfield 32, 3) := by decide +kernel
theorem dX5_call_76 : decode cX5_call 76 = .ok (.aload_n 0, 1) := by decide +kernel
theorem dX5_call_77 : decode cX5_call 77 = .ok (.getfield 98, 3) := by decide +kernel
theorem dX5_call_80 : decode cX5_call 80 = .ok (.iload_n 2, 1) := by decide +kernel
theorem dX5_call_81 : decode cX5_call 81 = .ok (.iastore, 1) := by decide +kernel
theorem dX5_call_82 : decode cX5_call 82 = .ok (.aload_n 0, 1) := by decide +kernel
theorem dX5_call_83 : decode cX5_call 83 = .ok (.getfield 35, 3) := by decide +kernel
theorem dX5_call_86 : decode cX5_call 86 = .ok (.aload_n 0, 1) := by decide +kernel
theorem dX5_call_87 : decode cX5_call 87 = .ok (.getfield 98, 3) := by decide +kernel
theorem dX5_call_90 : decode cX5_call 90 = .ok (.aload_n 0, 1) := by decide +kernel
theorem dX5_call_91 : decode cX5_call 91 = .ok (.getfield 105, 3) := by decide +kernel
theorem dX5_call_94 : decode cX5_call 94 = .ok (.iastore, 1) := by decide +kernel
theorem dX5_call_95 : decode cX5_call 95 = .ok (.aload_n 0, 1) := by decide +kernel
theorem dX5_call_96 : decode cX5_call 96 = .ok (.getfield 38, 3) := by decide +kernel
theorem dX5_call_99 : decode cX5_call 99 = .ok (.aload_n 0, 1) := by decide +kernel
theorem dX5_call_100 : decode cX5_call 100 = .ok (.getfield 98, 3) := by decide +kernel
theorem dX5_call_103 : decode cX5_call 103 = .ok (.iconst 1, 1) := by decide +kernel
theorem dX5_call_104 : decode cX5_call 104 = .ok (.bastore, 1) := by decide +kernel
theorem dX5_call_105 : decode cX5_call 105 = .ok (.aload_n 0, 1) := by decide +kernel
theorem dX5_call_106 : decode cX5_call 106 = .ok (.getfield 44, 3) := by decide +kernel
theorem dX5_call_109 : decode cX5_call 109 = .ok (.aload_n 0, 1) := by decide +kernel
theorem dX5_call_110 : decode cX5_call 110 = .ok (.getfield 98, 3) := by decide +kernel
theorem dX5_call_113 : decode cX5_call 113 = .ok (.iconst (-1), 1) := by decide +kernel
theorem dX5_call_114 : decode cX5_call 114 = .ok (.iastore, 1) := by decide +kernel
theorem dX5_call_115 : decode cX5_call 115 = .ok (.aload_n 0, 1) := by decide +kernel
theorem dX5_call_116 : decode cX5_call 116 = .ok (.dup, 1) := by decide +kernel
theorem dX5_call_117 : decode cX5_call 117 = .ok (.getfield 112, 3) := by decide +kernel
theorem dX5_call_120 : decode cX5_call 120 = .ok (.iconst 1, 1) := by decide +kernel
theorem dX5_call_121 : decode cX5_call 121 = .ok (.iadd, 1) := by decide +kernel
theorem dX5_call_122 : decode cX5_call 122 = .ok (.putfield 112, 3) := by decide +kernel
theorem dX5_call_125 : decode cX5_call 125 = .ok (.aload_n 0, 1) := by decide +kernel
theorem dX5_call_126 : decode cX5_call 126 = .ok (.dup, 1) := by decide +kernel
theorem dX5_call_127 : decode cX5_call 127 = .ok (.getfield 98, 3) := by decide +kernel
theorem dX5_call_130 : decode cX5_call 130 = .ok (.iconst 1, 1) := by decide +kernel
theorem dX5_call_131 : decode cX5_call 131 = .ok (.iadd, 1) := by decide +kernel
theorem dX5_call_132 : decode cX5_call 132 = .ok (.putfield 98, 3) := by decide +kernel
theorem dX5_call_135 : decode cX5_call 135 = .ok (.aload_n 0, 1) := by decide +kernel
theorem dX5_call_136 : decode cX5_call 136 = .ok (.getfield 98, 3) := by decide +kernel
theorem dX5_call_139 : decode cX5_call 139 = .ok (.iconst 1, 1) := by decide +kernel
theorem dX5_call_140 : decode cX5_call 140 = .ok (.isub, 1) := by decide +kernel
theorem dX5_call_141 : decode cX5_call 141 = .ok (.ireturn, 1) := by decide +kernel
theorem dX5_urgent_0 : decode cX5_urgent 0 = .ok (.aload_n 0, 1) := by decide +kernel
theorem dX5_urgent_1 : decode cX5_urgent 1 = .ok (.aload_n 0, 1) := by decide +kernel
theorem dX5_urgent_2 : decode cX5_urgent 2 = .ok (.iload_n 1, 1) := by decide +kernel
theorem dX5_urgent_3 : decode cX5_urgent 3 = .ok (.invokevirtual 115, 3) := by decide +kernel
theorem dX5_urgent_6 : decode cX5_urgent 6 = .ok (.ifCond .eq 7, 3) := by decide +kernel
theorem dX5_urgent_9 : decode cX5_urgent 9 = .ok (.iconst 0, 1) := by decide +kernel
theorem dX5_urgent_10 : decode cX5_urgent 10 = .ok (.goto 4, 3) := by decide +kernel
theorem dX5_urgent_13 : decode cX5_urgent 13 = .ok (.iconst 1, 1) := by decide +kernel
theorem dX5_urgent_14 : decode cX5_urgent 14 = .ok (.putfield 88, 3) := by decide +kernel
theorem dX5_urgent_17 : decode cX5_urgent 17 = .ok (.aload_n 0, 1) := by decide +kernel
theorem dX5_urgent_18 : decode cX5_urgent 18 = .ok (.getfield 88, 3) := by decide +kernel
theorem dX5_urgent_21 : decode cX5_urgent 21 = .ok (.ifCond .le 5, 3) := by decide +kernel
theorem dX5_urgent_24 : decode cX5_urgent 24 = .ok (.iconst 0, 1) := by decide +kernel
theorem dX5_urgent_25 : decode cX5_urgent 25 = .ok (.ireturn, 1) := by decide +kernel
theorem dX5_urgent_26 : decode cX5_urgent 26 = .ok (.aload_n 0, 1) := by decide +kernel
theorem dX5_urgent_27 : decode cX5_urgent 27 = .ok (.getfield 41, 3) := by decide +kernel
theorem dX5_urgent_30 : decode cX5_urgent 30 = .ok (.iload_n 1, 1) := by decide +kernel
theorem dX5_urgent_31 : decode cX5_urgent 31 = .ok (.baload, 1) := by decide +kernel
theorem dX5_urgent_32 : decode cX5_urgent 32 = .ok (.istore_n 3, 1) := by decide +kernel
theorem dX5_urgent_33 : decode cX5_urgent 33 = .ok (.aload_n 0, 1) := by decide +kernel
theorem dX5_urgent_34 : decode cX5_urgent 34 = .ok (.getfield 41, 3) := by decide +kernel
theorem dX5_urgent_37 : decode cX5_urgent 37 = .ok (.iload_n 1, 1) := by decide +kernel
theorem dX5_urgent_38 : decode cX5_urgent 38 = .ok (.iload_n 2, 1) := by decide +kernel
theorem dX5_urgent_39 : decode cX5_urgent 39 = .ok (.bastore, 1) := by decide +kernel
theorem dX5_urgent_40 : decode cX5_urgent 40 = .ok (.iload_n 3, 1) := by decide +kernel
theorem dX5_urgent_41 : decode cX5_urgent 41 = .ok (.ireturn, 1) := by decide +kernel
theorem dX5_isWithin_0 : decode cX5_isWithin 0 = .ok (.aload_n 0, 1) := by decide +kernel
theorem dX5_isWithin_1 : decode cX5_isWithin 1 = .ok (.getfield 29, 3) := by decide +kernel
theorem dX5_isWithin_4 : decode cX5_isWithin 4 = .ok (.iload_n 2, 1) := by decide +kernel
theorem dX5_isWithin_5 : decode cX5_isWithin 5 = .ok (.iaload, 1) := by decide +kernel
theorem dX5_isWithin_6 : decode cX5_isWithin 6 = .ok (.aload_n 0, 1) := by decide +kernel
theorem dX5_isWithin_7 : decode cX5_isWithin 7 = .ok (.getfield 19, 3) := by decide +kernel
theorem dX5_isWithin_10 : decode cX5_isWithin 10 = .ok (.iload_n 1, 1) := by decide +kernel
theorem dX5_isWithin_11 : decode cX5_isWithin 11 = .ok (.iaload, 1) := by decide +kernel
theorem dX5_isWithin_12 : decode cX5_isWithin 12 = .ok (.aload_n 0, 1) := by decide +kernel
theorem dX5_isWithin_13 : decode cX5_isWithin 13 = .ok (.getfield 22, 3) := by decide +kernel
theorem dX5_isWithin_16 : decode cX5_isWithin 16 = .ok (.iload_n 1, 1) := by decide +kernel
theorem dX5_isWithin_17 : decode cX5_isWithin 17 = .ok (.iaload, 1) := by decide +kernel
theorem dX5_isWithin_18 : decode cX5_isWithin 18 = .ok (.invokestatic 91, 3) := by decide +kernel
theorem dX5_isWithin_21 : decode cX5_isWithin 21 = .ok (.ifCond .eq 31, 3) := by decide +kernel
theorem dX5_isWithin_24 : decode cX5_isWithin 24 = .ok (.aload_n 0, 1) := by decide +kernel
theorem dX5_isWithin_25 : decode cX5_isWithin 25 = .ok (.getfield 32, 3) := by decide +kernel
theorem dX5_isWithin_28 : decode cX5_isWithin 28 = .ok (.iload_n 2, 1) := by decide +kernel
theorem dX5_isWithin_29 : decode cX5_isWithin 29 = .ok (.iaload, 1) := by decide +kernel
theorem dX5_isWithin_30 : decode cX5_isWithin 30 = .ok (.aload_n 0, 1) := by decide +kernel
theorem dX5_isWithin_31 : decode cX5_isWithin 31 = .ok (.getfield 19, 3) := by decide +kernel
theorem dX5_isWithin_34 : decode cX5_isWithin 34 = .ok (.iload_n 1, 1) := by decide +kernel
theorem dX5_isWithin_35 : decode cX5_isWithin 35 = .ok (.iaload, 1) := by decide +kernel
theorem dX5_isWithin_36 : decode cX5_isWithin 36 = .ok (.aload_n 0, 1) := by decide +kernel
theorem dX5_isWithin_37 : decode cX5_isWithin 37 = .ok (.getfield 22, 3) := by decide +kernel
theorem dX5_isWithin_40 : decode cX5_isWithin 40 = .ok (.iload_n 1, 1) := by decide +kernel
theorem dX5_isWithin_41 : decode cX5_isWithin 41 = .ok (.iaload, 1) := by decide +kernel
theorem dX5_isWithin_42 : decode cX5_isWithin 42 = .ok (.invokestatic 91, 3) := by decide +kernel
theorem dX5_isWithin_45 : decode cX5_isWithin 45 = .ok (.ifCond .eq 7, 3) := by decide +kernel
theorem dX5_isWithin_48 : decode cX5_isWithin 48 = .ok (.iconst 1, 1) := by decide +kernel
theorem dX5_isWithin_49 : decode cX5_isWithin 49 = .ok (.goto 4, 3) := by decide +kernel
theorem dX5_isWithin_52 : decode cX5_isWithin 52 = .ok (.iconst 0, 1) := by decide +kernel
theorem dX5_isWithin_53 : decode cX5_isWithin 53 = .ok (.ireturn, 1) := by decide +kernel
theorem dX5_begin_0 : decode cX5_begin 0 = .ok (.aload_n 0, 1) := by decide +kernel
theorem dX5_begin_1 : decode cX5_begin 1 = .ok (.aload_n 0, 1) := by decide +kernel
theorem dX5_begin_2 : decode cX5_begin 2 = .ok (.iload_n 1, 1) := by decide +kernel
theorem dX5_begin_3 : decode cX5_begin 3 = .ok (.invokevirtual 115, 3) := by decide +kernel
theorem dX5_begin_6 : decode cX5_begin 6 = .ok (.ifCond .eq 16, 3) := by decide +kernel
theorem dX5_begin_9 : decode cX5_begin 9 = .ok (.iload_n 2, 1) := by decide +kernel
theorem dX5_begin_10 : decode cX5_begin 10 = .ok (.iconst (-1), 1) := by decide +kernel
theorem dX5_begin_11 : decode cX5_begin 11 = .ok (.if_icmp .eq 15, 3) := by decide +kernel
theorem dX5_begin_14 : decode cX5_begin 14 = .ok (.aload_n 0, 1) := by decide +kernel
theorem dX5_begin_15 : decode cX5_begin 15 = .ok (.iload_n 2, 1) := by decide +kernel
theorem dX5_begin_16 : decode cX5_begin 16 = .ok (.invokevirtual 108, 3) := by decide +kernel
theorem dX5_begin_19 : decode cX5_begin 19 = .ok (.ifCond .ne 7, 3) := by decide +kernel
theorem dX5_begin_22 : decode cX5_begin 22 = .ok (.iconst 1, 1) := by decide +kernel
theorem dX5_begin_23 : decode cX5_begin 23 = .ok (.goto 4, 3) := by decide +kernel
theorem dX5_begin_26 : decode cX5_begin 26 = .ok (.iconst 0, 1) := by decide +kernel
theorem dX5_begin_27 : decode cX5_begin 27 = .ok (.putfield 88, 3) := by decide +kernel
theorem dX5_begin_30 : decode cX5_begin 30 = .ok (.aload_n 0, 1) := by decide +kernel
theorem dX5_begin_31 : decode cX5_begin 31 = .ok (.getfield 88, 3) := by decide +kernel
theorem dX5_begin_34 : decode cX5_begin 34 = .ok (.ifCond .le 5, 3) := by decide +kernel
theorem dX5_begin_37 : decode cX5_begin 37 = .ok (.iconst 0, 1) := by decide +kernel
theorem dX5_begin_38 : decode cX5_begin 38 = .ok (.ireturn, 1) := by decide +kernel
theorem dX5_begin_39 : decode cX5_begin 39 = .ok (.iload_n 2, 1) := by decide +kernel
theorem dX5_begin_40 : decode cX5_begin 40 = .ok (.iconst (-1), 1) := by decide +kernel
theorem dX5_begin_41 : decode cX5_begin 41 = .ok (.if_icmp .eq 75, 3) := by decide +kernel
theorem dX5_begin_44 : decode cX5_begin 44 = .ok (.iconst 0, 1) := by decide +kernel
theorem dX5_begin_45 : decode cX5_begin 45 = .ok (.istore_n 3, 1) := by decide +kernel
theorem dX5_begin_46 : decode cX5_begin 46 = .ok (.iconst 0, 1) := by decide +kernel
theorem dX5_begin_47 : decode cX5_begin 47 = .ok (.istore 4, 2) := by decide +kernel
theorem dX5_begin_49 : decode cX5_begin 49 = .ok (.iload 4, 2) := by decide +kernel
theorem dX5_begin_51 : decode cX5_begin 51 = .ok (.aload_n 0, 1) := by decide +kernel
theorem dX5_begin_52 : decode cX5_begin 52 = .ok (.getfield 98, 3) := by decide +kernel
theorem dX5_begin_55 : decode cX5_begin 55 = .ok (.if_icmp .ge 46, 3) := by decide +kernel
theorem dX5_begin_58 : decode cX5_begin 58 = .ok (.iload_n 3, 1) := by decide +kernel
theorem dX5_begin_59 : decode cX5_begin 59 = .ok (.ifCond .ne 30, 3) := by decide +kernel
theorem dX5_begin_62 : decode cX5_begin 62 = .ok (.iload 4, 2) := by decide +kernel
theorem dX5_begin_64 : decode cX5_begin 64 = .ok (.iload_n 1, 1) := by decide +kernel
theorem dX5_begin_65 : decode cX5_begin 65 = .ok (.if_icmp .eq 28, 3) := by decide +kernel
theorem dX5_begin_68 : decode cX5_begin 68 = .ok (.aload_n 0, 1) := by decide +kernel
theorem dX5_begin_69 : decode cX5_begin 69 = .ok (.getfield 38, 3) := by decide +kernel
theorem dX5_begin_72 : decode cX5_begin 72 = .ok (.iload 4, 2) := by decide +kernel
theorem dX5_begin_74 : decode cX5_begin 74 = .ok (.baload, 1) := by decide +kernel
theorem dX5_begin_75 : decode cX5_begin 75 = .ok (.ifCond .eq 18, 3) := by decide +kernel
theorem dX5_begin_78 : decode cX5_begin 78 = .ok (.aload_n 0, 1) := by decide +kernel
theorem dX5_begin_79 : decode cX5_begin 79 = .ok (.getfield 44, 3) := by decide +kernel
theorem dX5_begin_82 : decode cX5_begin 82 = .ok (.iload 4, 2) := by decide +kernel
theorem dX5_begin_84 : decode cX5_begin 84 = .ok (.iaload, 1) := by decide +kernel
theorem dX5_begin_85 : decode cX5_begin 85 = .ok (.iload_n 2, 1) := by decide +kernel
theorem dX5_begin_86 : decode cX5_begin 86 = .ok (.if_icmp .ne 7, 3) := by decide +kernel
theorem dX5_begin_89 : decode cX5_begin 89 = .ok (.iconst 1, 1) := by decide +kernel
theorem dX5_begin_90 : decode cX5_begin 90 = .ok (.goto 4, 3) := by decide +kernel
theorem dX5_begin_93 : decode cX5_begin 93 = .ok (.iconst 0, 1) := by decide +kernel
theorem dX5_begin_94 : decode cX5_begin 94 = .ok (.istore_n 3, 1) := by decide +kernel
theorem dX5_begin_95 : decode cX5_begin 95 = .ok (.iinc 4 1, 3) := by decide +kernel
theorem dX5_begin_98 : decode cX5_begin 98 = .ok (.goto (-49), 3) := by decide +kernel
theorem dX5_begin_101 : decode cX5_begin 101 = .ok (.iload_n 3, 1) := by decide +kernel
theorem dX5_begin_102 : decode cX5_begin 102 = .ok (.ifCond .ne 12, 3) := by decide +kernel
theorem dX5_begin_105 : decode cX5_begin 105 = .ok (.aload_n 0, 1) := by decide +kernel
theorem dX5_begin_106 : decode cX5_begin 106 = .ok (.iload_n 2, 1) := by decide +kernel
theorem dX5_begin_107 : decode cX5_begin 107 = .ok (.iload_n 1, 1) := by decide +kernel
theorem dX5_begin_108 : decode cX5_begin 108 = .ok (.invokevirtual 118, 3) := by decide +kernel
theorem dX5_begin_111 : decode cX5_begin 111 = .ok (.ifCond .ne 5, 3) := by decide +kernel
theorem dX5_begin_114 : decode cX5_begin 114 = .ok (.iconst 0, 1) := by decide +kernel
theorem dX5_begin_115 : decode cX5_begin 115 = .ok (.ireturn, 1) := by decide +kernel
theorem dX5_begin_116 : decode cX5_begin 116 = .ok (.aload_n 0, 1) := by decide +kernel
theorem dX5_begin_117 : decode cX5_begin 117 = .ok (.getfield 44, 3) := by decide +kernel
theorem dX5_begin_120 : decode cX5_begin 120 = .ok (.iload_n 1, 1) := by decide +kernel
theorem dX5_begin_121 : decode cX5_begin 121 = .ok (.iload_n 2, 1) := by decide +kernel
theorem dX5_begin_122 : decode cX5_begin 122 = .ok (.iastore, 1) := by decide +kernel
theorem dX5_begin_123 : decode cX5_begin 123 = .ok (.iconst 1, 1) := by decide +kernel
theorem dX5_begin_124 : decode cX5_begin 124 = .ok (.ireturn, 1) := by decide +kernel
theorem dX5_done_0 : decode cX5_done 0 = .ok (.aload_n 0, 1) := by decide +kernel
theorem dX5_done_1 : decode cX5_done 1 = .ok (.aload_n 0, 1) := by decide +kernel
theorem dX5_done_2 : decode cX5_done 2 = .ok (.iload_n 1, 1) := by decide +kernel
theorem dX5_done_3 : decode cX5_done 3 = .ok (.invokevirtual 115, 3) := by decide +kernel
theorem dX5_done_6 : decode cX5_done 6 = .ok (.ifCond .eq 7, 3) := by decide +kernel
theorem dX5_done_9 : decode cX5_done 9 = .ok (.iconst 0, 1) := by decide +kernel
theorem dX5_done_10 : decode cX5_done 10 = .ok (.goto 4, 3) := by decide +kernel
theorem dX5_done_13 : decode cX5_done 13 = .ok (.iconst 1, 1) := by decide +kernel
theorem dX5_done_14 : decode cX5_done 14 = .ok (.putfield 88, 3) := by decide +kernel
theorem dX5_done_17 : decode cX5_done 17 = .ok (.aload_n 0, 1) := by decide +kernel
theorem dX5_done_18 : decode cX5_done 18 = .ok (.getfield 88, 3) := by decide +kernel
theorem dX5_done_21 : decode cX5_done 21 = .ok (.ifCond .ne 20, 3) := by decide +kernel
theorem dX5_done_24 : decode cX5_done 24 = .ok (.aload_n 0, 1) := by decide +kernel
theorem dX5_done_25 : decode cX5_done 25 = .ok (.getfield 38, 3) := by decide +kernel
theorem dX5_done_28 : decode cX5_done 28 = .ok (.iload_n 1, 1) := by decide +kernel
theorem dX5_done_29 : decode cX5_done 29 = .ok (.iconst 0, 1) := by decide +kernel
theorem dX5_done_30 : decode cX5_done 30 = .ok (.bastore, 1) := by decide +kernel
theorem dX5_done_31 : decode cX5_done 31 = .ok (.aload_n 0, 1) := by decide +kernel
theorem dX5_done_32 : decode cX5_done 32 = .ok (.dup, 1) := by decide +kernel
theorem dX5_done_33 : decode cX5_done 33 = .ok (.getfield 112, 3) := by decide +kernel
theorem dX5_done_36 : decode cX5_done 36 = .ok (.iconst 1, 1) := by decide +kernel
theorem dX5_done_37 : decode cX5_done 37 = .ok (.isub, 1) := by decide +kernel
theorem dX5_done_38 : decode cX5_done 38 = .ok (.putfield 112, 3) := by decide +kernel
theorem dX5_done_41 : decode cX5_done 41 = .ok (.return_, 1) := by decide +kernel
theorem dX5_pass_0 : decode cX5_pass 0 = .ok (.aload_n 0, 1) := by decide +kernel
theorem dX5_pass_1 : decode cX5_pass 1 = .ok (.iload_n 1, 1) := by decide +kernel
theorem dX5_pass_2 : decode cX5_pass 2 = .ok (.iconst 1, 1) := by decide +kernel
theorem dX5_pass_3 : decode cX5_pass 3 = .ok (.sipush 1000, 3) := by decide +kernel
theorem dX5_pass_6 : decode cX5_pass 6 = .ok (.invokestatic 91, 3) := by decide +kernel
theorem dX5_pass_9 : decode cX5_pass 9 = .ok (.ifCond .eq 14, 3) := by decide +kernel
theorem dX5_pass_12 : decode cX5_pass 12 = .ok (.aload_n 0, 1) := by decide +kernel
theorem dX5_pass_13 : decode cX5_pass 13 = .ok (.getfield 105, 3) := by decide +kernel
theorem dX5_pass_16 : decode cX5_pass 16 = .ok (.iload_n 1, 1) := by decide +kernel
theorem dX5_pass_17 : decode cX5_pass 17 = .ok (.iadd, 1) := by decide +kernel
theorem dX5_pass_18 : decode cX5_pass 18 = .ok (.ldc 111, 2) := by decide +kernel
theorem dX5_pass_20 : decode cX5_pass 20 = .ok (.if_icmp .le 7, 3) := by decide +kernel
theorem dX5_pass_23 : decode cX5_pass 23 = .ok (.iconst 1, 1) := by decide +kernel
theorem dX5_pass_24 : decode cX5_pass 24 = .ok (.goto 4, 3) := by decide +kernel
theorem dX5_pass_27 : decode cX5_pass 27 = .ok (.iconst 0, 1) := by decide +kernel
theorem dX5_pass_28 : decode cX5_pass 28 = .ok (.putfield 88, 3) := by decide +kernel
theorem dX5_pass_31 : decode cX5_pass 31 = .ok (.aload_n 0, 1) := by decide +kernel
theorem dX5_pass_32 : decode cX5_pass 32 = .ok (.getfield 88, 3) := by decide +kernel
theorem dX5_pass_35 : decode cX5_pass 35 = .ok (.ifCond .le 5, 3) := by decide +kernel
theorem dX5_pass_38 : decode cX5_pass 38 = .ok (.iconst 0, 1) := by decide +kernel
theorem dX5_pass_39 : decode cX5_pass 39 = .ok (.ireturn, 1) := by decide +kernel
theorem dX5_pass_40 : decode cX5_pass 40 = .ok (.aload_n 0, 1) := by decide +kernel
theorem dX5_pass_41 : decode cX5_pass 41 = .ok (.dup, 1) := by decide +kernel
theorem dX5_pass_42 : decode cX5_pass 42 = .ok (.getfield 105, 3) := by decide +kernel
theorem dX5_pass_45 : decode cX5_pass 45 = .ok (.iload_n 1, 1) := by decide +kernel
theorem dX5_pass_46 : decode cX5_pass 46 = .ok (.iadd, 1) := by decide +kernel
theorem dX5_pass_47 : decode cX5_pass 47 = .ok (.putfield 105, 3) := by decide +kernel
theorem dX5_pass_50 : decode cX5_pass 50 = .ok (.aload_n 0, 1) := by decide +kernel
theorem dX5_pass_51 : decode cX5_pass 51 = .ok (.getfield 105, 3) := by decide +kernel
theorem dX5_pass_54 : decode cX5_pass 54 = .ok (.ireturn, 1) := by decide +kernel
theorem dX5_weightOf_0 : decode cX5_weightOf 0 = .ok (.iconst 1, 1) := by decide +kernel
theorem dX5_weightOf_1 : decode cX5_weightOf 1 = .ok (.aload_n 0, 1) := by decide +kernel
theorem dX5_weightOf_2 : decode cX5_weightOf 2 = .ok (.getfield 105, 3) := by decide +kernel
theorem dX5_weightOf_5 : decode cX5_weightOf 5 = .ok (.aload_n 0, 1) := by decide +kernel
theorem dX5_weightOf_6 : decode cX5_weightOf 6 = .ok (.getfield 35, 3) := by decide +kernel
theorem dX5_weightOf_9 : decode cX5_weightOf 9 = .ok (.iload_n 1, 1) := by decide +kernel
theorem dX5_weightOf_10 : decode cX5_weightOf 10 = .ok (.iaload, 1) := by decide +kernel
theorem dX5_weightOf_11 : decode cX5_weightOf 11 = .ok (.isub, 1) := by decide +kernel
theorem dX5_weightOf_12 : decode cX5_weightOf 12 = .ok (.bipush 30, 2) := by decide +kernel
theorem dX5_weightOf_14 : decode cX5_weightOf 14 = .ok (.idiv, 1) := by decide +kernel
theorem dX5_weightOf_15 : decode cX5_weightOf 15 = .ok (.iadd, 1) := by decide +kernel
theorem dX5_weightOf_16 : decode cX5_weightOf 16 = .ok (.aload_n 0, 1) := by decide +kernel
theorem dX5_weightOf_17 : decode cX5_weightOf 17 = .ok (.getfield 41, 3) := by decide +kernel
theorem dX5_weightOf_20 : decode cX5_weightOf 20 = .ok (.iload_n 1, 1) := by decide +kernel
theorem dX5_weightOf_21 : decode cX5_weightOf 21 = .ok (.baload, 1) := by decide +kernel
theorem dX5_weightOf_22 : decode cX5_weightOf 22 = .ok (.ifCond .eq 7, 3) := by decide +kernel
theorem dX5_weightOf_25 : decode cX5_weightOf 25 = .ok (.iconst 4, 1) := by decide +kernel
theorem dX5_weightOf_26 : decode cX5_weightOf 26 = .ok (.goto 4, 3) := by decide +kernel
theorem dX5_weightOf_29 : decode cX5_weightOf 29 = .ok (.iconst 1, 1) := by decide +kernel
theorem dX5_weightOf_30 : decode cX5_weightOf 30 = .ok (.imul, 1) := by decide +kernel
theorem dX5_weightOf_31 : decode cX5_weightOf 31 = .ok (.ireturn, 1) := by decide +kernel
theorem dX5_carsOf_0 : decode cX5_carsOf 0 = .ok (.iconst 0, 1) := by decide +kernel
theorem dX5_carsOf_1 : decode cX5_carsOf 1 = .ok (.istore_n 2, 1) := by decide +kernel
theorem dX5_carsOf_2 : decode cX5_carsOf 2 = .ok (.iconst 0, 1) := by decide +kernel
theorem dX5_carsOf_3 : decode cX5_carsOf 3 = .ok (.istore_n 3, 1) := by decide +kernel
theorem dX5_carsOf_4 : decode cX5_carsOf 4 = .ok (.iconst 0, 1) := by decide +kernel
theorem dX5_carsOf_5 : decode cX5_carsOf 5 = .ok (.istore 4, 2) := by decide +kernel
theorem dX5_carsOf_7 : decode cX5_carsOf 7 = .ok (.iload 4, 2) := by decide +kernel
theorem dX5_carsOf_9 : decode cX5_carsOf 9 = .ok (.aload_n 0, 1) := by decide +kernel
theorem dX5_carsOf_10 : decode cX5_carsOf 10 = .ok (.getfield 95, 3) := by decide +kernel
theorem dX5_carsOf_13 : decode cX5_carsOf 13 = .ok (.if_icmp .ge 82, 3) := by decide +kernel
theorem dX5_carsOf_16 : decode cX5_carsOf 16 = .ok (.aload_n 0, 1) := by decide +kernel
theorem dX5_carsOf_17 : decode cX5_carsOf 17 = .ok (.iload 4, 2) := by decide +kernel
theorem dX5_carsOf_19 : decode cX5_carsOf 19 = .ok (.iload_n 1, 1) := by decide +kernel
theorem dX5_carsOf_20 : decode cX5_carsOf 20 = .ok (.invokevirtual 118, 3) := by decide +kernel
theorem dX5_carsOf_23 : decode cX5_carsOf 23 = .ok (.ifCond .eq 66, 3) := by decide +kernel
theorem dX5_carsOf_26 : decode cX5_carsOf 26 = .ok (.aload_n 0, 1) := by decide +kernel
theorem dX5_carsOf_27 : decode cX5_carsOf 27 = .ok (.getfield 44, 3) := by decide +kernel
theorem dX5_carsOf_30 : decode cX5_carsOf 30 = .ok (.iload_n 1, 1) := by decide +kernel
theorem dX5_carsOf_31 : decode cX5_carsOf 31 = .ok (.iaload, 1) := by decide +kernel
theorem dX5_carsOf_32 : decode cX5_carsOf 32 = .ok (.iconst (-1), 1) := by decide +kernel
theorem dX5_carsOf_33 : decode cX5_carsOf 33 = .ok (.if_icmp .eq 14, 3) := by decide +kernel
theorem dX5_carsOf_36 : decode cX5_carsOf 36 = .ok (.aload_n 0, 1) := by decide +kernel
theorem dX5_carsOf_37 : decode cX5_carsOf 37 = .ok (.getfield 44, 3) := by decide +kernel
theorem dX5_carsOf_40 : decode cX5_carsOf 40 = .ok (.iload_n 1, 1) := by decide +kernel
theorem dX5_carsOf_41 : decode cX5_carsOf 41 = .ok (.iaload, 1) := by decide +kernel
theorem dX5_carsOf_42 : decode cX5_carsOf 42 = .ok (.iload 4, 2) := by decide +kernel
theorem dX5_carsOf_44 : decode cX5_carsOf 44 = .ok (.if_icmp .ne 45, 3) := by decide +kernel
theorem dX5_carsOf_47 : decode cX5_carsOf 47 = .ok (.iload_n 2, 1) := by decide +kernel
theorem dX5_carsOf_48 : decode cX5_carsOf 48 = .ok (.aload_n 0, 1) := by decide +kernel
theorem dX5_carsOf_49 : decode cX5_carsOf 49 = .ok (.getfield 25, 3) := by decide +kernel
theorem dX5_carsOf_52 : decode cX5_carsOf 52 = .ok (.iload 4, 2) := by decide +kernel
theorem dX5_carsOf_54 : decode cX5_carsOf 54 = .ok (.baload, 1) := by decide +kernel
theorem dX5_carsOf_55 : decode cX5_carsOf 55 = .ok (.ifCond .eq 7, 3) := by decide +kernel
theorem dX5_carsOf_58 : decode cX5_carsOf 58 = .ok (.iconst 0, 1) := by decide +kernel
theorem dX5_carsOf_59 : decode cX5_carsOf 59 = .ok (.goto 7, 3) := by decide +kernel
theorem dX5_carsOf_62 : decode cX5_carsOf 62 = .ok (.iconst 1, 1) := by decide +kernel
theorem dX5_carsOf_63 : decode cX5_carsOf 63 = .ok (.iload 4, 2) := by decide +kernel
theorem dX5_carsOf_65 : decode cX5_carsOf 65 = .ok (.ishl, 1) := by decide +kernel
theorem dX5_carsOf_66 : decode cX5_carsOf 66 = .ok (.ior, 1) := by decide +kernel
theorem dX5_carsOf_67 : decode cX5_carsOf 67 = .ok (.istore_n 2, 1) := by decide +kernel
theorem dX5_carsOf_68 : decode cX5_carsOf 68 = .ok (.iload_n 3, 1) := by decide +kernel
theorem dX5_carsOf_69 : decode cX5_carsOf 69 = .ok (.aload_n 0, 1) := by decide +kernel
theorem dX5_carsOf_70 : decode cX5_carsOf 70 = .ok (.getfield 25, 3) := by decide +kernel
theorem dX5_carsOf_73 : decode cX5_carsOf 73 = .ok (.iload 4, 2) := by decide +kernel
theorem dX5_carsOf_75 : decode cX5_carsOf 75 = .ok (.baload, 1) := by decide +kernel
theorem dX5_carsOf_76 : decode cX5_carsOf 76 = .ok (.ifCond .eq 10, 3) := by decide +kernel
theorem dX5_carsOf_79 : decode cX5_carsOf 79 = .ok (.iconst 1, 1) := by decide +kernel
theorem dX5_carsOf_80 : decode cX5_carsOf 80 = .ok (.iload 4, 2) := by decide +kernel
theorem dX5_carsOf_82 : decode cX5_carsOf 82 = .ok (.ishl, 1) := by decide +kernel
theorem dX5_carsOf_83 : decode cX5_carsOf 83 = .ok (.goto 4, 3) := by decide +kernel
theorem dX5_carsOf_86 : decode cX5_carsOf 86 = .ok (.iconst 0, 1) := by decide +kernel
theorem dX5_carsOf_87 : decode cX5_carsOf 87 = .ok (.ior, 1) := by decide +kernel
theorem dX5_carsOf_88 : decode cX5_carsOf 88 = .ok (.istore_n 3, 1) := by decide +kernel
theorem dX5_carsOf_89 : decode cX5_carsOf 89 = .ok (.iinc 4 1, 3) := by decide +kernel
theorem dX5_carsOf_92 : decode cX5_carsOf 92 = .ok (.goto (-85), 3) := by decide +kernel
theorem dX5_carsOf_95 : decode cX5_carsOf 95 = .ok (.iload_n 2, 1) := by decide +kernel
theorem dX5_carsOf_96 : decode cX5_carsOf 96 = .ok (.ifCond .eq 7, 3) := by decide +kernel
theorem dX5_carsOf_99 : decode cX5_carsOf 99 = .ok (.iload_n 2, 1) := by decide +kernel
theorem dX5_carsOf_100 : decode cX5_carsOf 100 = .ok (.goto 4, 3) := by decide +kernel
theorem dX5_carsOf_103 : decode cX5_carsOf 103 = .ok (.iload_n 3, 1) := by decide +kernel
theorem dX5_carsOf_104 : decode cX5_carsOf 104 = .ok (.ireturn, 1) := by decide +kernel
theorem dX5_way_0 : decode cX5_way 0 = .ok (.iload_n 0, 1) := by decide +kernel
theorem dX5_way_1 : decode cX5_way 1 = .ok (.iload_n 1, 1) := by decide +kernel
theorem dX5_way_2 : decode cX5_way 2 = .ok (.if_icmp .ge 9, 3) := by decide +kernel
theorem dX5_way_5 : decode cX5_way 5 = .ok (.iload_n 1, 1) := by decide +kernel
theorem dX5_way_6 : decode cX5_way 6 = .ok (.iload_n 0, 1) := by decide +kernel
theorem dX5_way_7 : decode cX5_way 7 = .ok (.isub, 1) := by decide +kernel
theorem dX5_way_8 : decode cX5_way 8 = .ok (.goto 6, 3) := by decide +kernel
theorem dX5_way_11 : decode cX5_way 11 = .ok (.iload_n 0, 1) := by decide +kernel
theorem dX5_way_12 : decode cX5_way 12 = .ok (.iload_n 1, 1) := by decide +kernel
theorem dX5_way_13 : decode cX5_way 13 = .ok (.isub, 1) := by decide +kernel
theorem dX5_way_14 : decode cX5_way 14 = .ok (.ireturn, 1) := by decide +kernel
theorem dX5_sumOf_0 : decode cX5_sumOf 0 = .ok (.aload_n 0, 1) := by decide +kernel
theorem dX5_sumOf_1 : decode cX5_sumOf 1 = .ok (.getfield 16, 3) := by decide +kernel
theorem dX5_sumOf_4 : decode cX5_sumOf 4 = .ok (.iload_n 1, 1) := by decide +kernel
theorem dX5_sumOf_5 : decode cX5_sumOf 5 = .ok (.iaload, 1) := by decide +kernel
theorem dX5_sumOf_6 : decode cX5_sumOf 6 = .ok (.aload_n 0, 1) := by decide +kernel
theorem dX5_sumOf_7 : decode cX5_sumOf 7 = .ok (.getfield 105, 3) := by decide +kernel
theorem dX5_sumOf_10 : decode cX5_sumOf 10 = .ok (.if_icmp .le 12, 3) := by decide +kernel
theorem dX5_sumOf_13 : decode cX5_sumOf 13 = .ok (.aload_n 0, 1) := by decide +kernel
theorem dX5_sumOf_14 : decode cX5_sumOf 14 = .ok (.getfield 16, 3) := by decide +kernel
theorem dX5_sumOf_17 : decode cX5_sumOf 17 = .ok (.iload_n 1, 1) := by decide +kernel
theorem dX5_sumOf_18 : decode cX5_sumOf 18 = .ok (.iaload, 1) := by decide +kernel
theorem dX5_sumOf_19 : decode cX5_sumOf 19 = .ok (.goto 7, 3) := by decide +kernel
theorem dX5_sumOf_22 : decode cX5_sumOf 22 = .ok (.aload_n 0, 1) := by decide +kernel
theorem dX5_sumOf_23 : decode cX5_sumOf 23 = .ok (.getfield 105, 3) := by decide +kernel
theorem dX5_sumOf_26 : decode cX5_sumOf 26 = .ok (.istore 4, 2) := by decide +kernel
theorem dX5_sumOf_28 : decode cX5_sumOf 28 = .ok (.aload_n 0, 1) := by decide +kernel
theorem dX5_sumOf_29 : decode cX5_sumOf 29 = .ok (.getfield 13, 3) := by decide +kernel
theorem dX5_sumOf_32 : decode cX5_sumOf 32 = .ok (.iload_n 1, 1) := by decide +kernel
theorem dX5_sumOf_33 : decode cX5_sumOf 33 = .ok (.iaload, 1) := by decide +kernel
theorem dX5_sumOf_34 : decode cX5_sumOf 34 = .ok (.istore 5, 2) := by decide +kernel
theorem dX5_sumOf_36 : decode cX5_sumOf 36 = .ok (.lconst 0, 1) := by decide +kernel
theorem dX5_sumOf_37 : decode cX5_sumOf 37 = .ok (.lstore 6, 2) := by decide +kernel
theorem dX5_sumOf_39 : decode cX5_sumOf 39 = .ok (.iconst 0, 1) := by decide +kernel
theorem dX5_sumOf_40 : decode cX5_sumOf 40 = .ok (.istore 8, 2) := by decide +kernel
theorem dX5_sumOf_42 : decode cX5_sumOf 42 = .ok (.iload 8, 2) := by decide +kernel
theorem dX5_sumOf_44 : decode cX5_sumOf 44 = .ok (.iload_n 2, 1) := by decide +kernel
theorem dX5_sumOf_45 : decode cX5_sumOf 45 = .ok (.if_icmp .ge 185, 3) := by decide +kernel
theorem dX5_sumOf_48 : decode cX5_sumOf 48 = .ok (.aload_n 0, 1) := by decide +kernel
theorem dX5_sumOf_49 : decode cX5_sumOf 49 = .ok (.getfield 65, 3) := by decide +kernel
theorem dX5_sumOf_52 : decode cX5_sumOf 52 = .ok (.aload_n 0, 1) := by decide +kernel
theorem dX5_sumOf_53 : decode cX5_sumOf 53 = .ok (.getfield 78, 3) := by decide +kernel
theorem dX5_sumOf_56 : decode cX5_sumOf 56 = .ok (.iload 8, 2) := by decide +kernel
theorem dX5_sumOf_58 : decode cX5_sumOf 58 = .ok (.iaload, 1) := by decide +kernel
theorem dX5_sumOf_59 : decode cX5_sumOf 59 = .ok (.iaload, 1) := by decide +kernel
theorem dX5_sumOf_60 : decode cX5_sumOf 60 = .ok (.istore 9, 2) := by decide +kernel
theorem dX5_sumOf_62 : decode cX5_sumOf 62 = .ok (.iload 4, 2) := by decide +kernel
theorem dX5_sumOf_64 : decode cX5_sumOf 64 = .ok (.iload 5, 2) := by decide +kernel
theorem dX5_sumOf_66 : decode cX5_sumOf 66 = .ok (.aload_n 0, 1) := by decide +kernel
theorem dX5_sumOf_67 : decode cX5_sumOf 67 = .ok (.getfield 29, 3) := by decide +kernel
theorem dX5_sumOf_70 : decode cX5_sumOf 70 = .ok (.iload 9, 2) := by decide +kernel
theorem dX5_sumOf_72 : decode cX5_sumOf 72 = .ok (.iaload, 1) := by decide +kernel
theorem dX5_sumOf_73 : decode cX5_sumOf 73 = .ok (.invokestatic 122, 3) := by decide +kernel
theorem dX5_sumOf_76 : decode cX5_sumOf 76 = .ok (.aload_n 0, 1) := by decide +kernel
theorem dX5_sumOf_77 : decode cX5_sumOf 77 = .ok (.getfield 7, 3) := by decide +kernel
theorem dX5_sumOf_80 : decode cX5_sumOf 80 = .ok (.iload_n 1, 1) := by decide +kernel
theorem dX5_sumOf_81 : decode cX5_sumOf 81 = .ok (.iaload, 1) := by decide +kernel
theorem dX5_sumOf_82 : decode cX5_sumOf 82 = .ok (.imul, 1) := by decide +kernel
theorem dX5_sumOf_83 : decode cX5_sumOf 83 = .ok (.iadd, 1) := by decide +kernel
theorem dX5_sumOf_84 : decode cX5_sumOf 84 = .ok (.istore 4, 2) := by decide +kernel
theorem dX5_sumOf_86 : decode cX5_sumOf 86 = .ok (.iload 4, 2) := by decide +kernel
theorem dX5_sumOf_88 : decode cX5_sumOf 88 = .ok (.aload_n 0, 1) := by decide +kernel
theorem dX5_sumOf_89 : decode cX5_sumOf 89 = .ok (.getfield 105, 3) := by decide +kernel
theorem dX5_sumOf_92 : decode cX5_sumOf 92 = .ok (.isub, 1) := by decide +kernel
theorem dX5_sumOf_93 : decode cX5_sumOf 93 = .ok (.istore 10, 2) := by decide +kernel
theorem dX5_sumOf_95 : decode cX5_sumOf 95 = .ok (.iload 4, 2) := by decide +kernel
theorem dX5_sumOf_97 : decode cX5_sumOf 97 = .ok (.iconst 3, 1) := by decide +kernel
theorem dX5_sumOf_98 : decode cX5_sumOf 98 = .ok (.aload_n 0, 1) := by decide +kernel
theorem dX5_sumOf_99 : decode cX5_sumOf 99 = .ok (.getfield 29, 3) := by decide +kernel
theorem dX5_sumOf_102 : decode cX5_sumOf 102 = .ok (.iload 9, 2) := by decide +kernel
theorem dX5_sumOf_104 : decode cX5_sumOf 104 = .ok (.iaload, 1) := by decide +kernel
theorem dX5_sumOf_105 : decode cX5_sumOf 105 = .ok (.aload_n 0, 1) := by decide +kernel
theorem dX5_sumOf_106 : decode cX5_sumOf 106 = .ok (.getfield 32, 3) := by decide +kernel
theorem dX5_sumOf_109 : decode cX5_sumOf 109 = .ok (.iload 9, 2) := by decide +kernel
theorem dX5_sumOf_111 : decode cX5_sumOf 111 = .ok (.iaload, 1) := by decide +kernel
theorem dX5_sumOf_112 : decode cX5_sumOf 112 = .ok (.invokestatic 122, 3) := by decide +kernel
theorem dX5_sumOf_115 : decode cX5_sumOf 115 = .ok (.aload_n 0, 1) := by decide +kernel
theorem dX5_sumOf_116 : decode cX5_sumOf 116 = .ok (.getfield 7, 3) := by decide +kernel
theorem dX5_sumOf_119 : decode cX5_sumOf 119 = .ok (.iload_n 1, 1) := by decide +kernel
theorem dX5_sumOf_120 : decode cX5_sumOf 120 = .ok (.iaload, 1) := by decide +kernel
theorem dX5_sumOf_121 : decode cX5_sumOf 121 = .ok (.imul, 1) := by decide +kernel
theorem dX5_sumOf_122 : decode cX5_sumOf 122 = .ok (.iadd, 1) := by decide +kernel
theorem dX5_sumOf_123 : decode cX5_sumOf 123 = .ok (.iadd, 1) := by decide +kernel
theorem dX5_sumOf_124 : decode cX5_sumOf 124 = .ok (.istore 4, 2) := by decide +kernel
theorem dX5_sumOf_126 : decode cX5_sumOf 126 = .ok (.iload 4, 2) := by decide +kernel
theorem dX5_sumOf_128 : decode cX5_sumOf 128 = .ok (.aload_n 0, 1) := by decide +kernel
theorem dX5_sumOf_129 : decode cX5_sumOf 129 = .ok (.getfield 105, 3) := by decide +kernel
theorem dX5_sumOf_132 : decode cX5_sumOf 132 = .ok (.isub, 1) := by decide +kernel
theorem dX5_sumOf_133 : decode cX5_sumOf 133 = .ok (.istore 11, 2) := by decide +kernel
theorem dX5_sumOf_135 : decode cX5_sumOf 135 = .ok (.iinc 4 3, 3) := by decide +kernel
theorem dX5_sumOf_138 : decode cX5_sumOf 138 = .ok (.aload_n 0, 1) := by decide +kernel
theorem dX5_sumOf_139 : decode cX5_sumOf 139 = .ok (.getfield 32, 3) := by decide +kernel
theorem dX5_sumOf_142 : decode cX5_sumOf 142 = .ok (.iload 9, 2) := by decide +kernel
theorem dX5_sumOf_144 : decode cX5_sumOf 144 = .ok (.iaload, 1) := by decide +kernel
theorem dX5_sumOf_145 : decode cX5_sumOf 145 = .ok (.istore 5, 2) := by decide +kernel
theorem dX5_sumOf_147 : decode cX5_sumOf 147 = .ok (.lload 6, 2) := by decide +kernel
theorem dX5_sumOf_149 : decode cX5_sumOf 149 = .ok (.aload_n 0, 1) := by decide +kernel
theorem dX5_sumOf_150 : decode cX5_sumOf 150 = .ok (.iload 9, 2) := by decide +kernel
theorem dX5_sumOf_152 : decode cX5_sumOf 152 = .ok (.invokevirtual 126, 3) := by decide +kernel
theorem dX5_sumOf_155 : decode cX5_sumOf 155 = .ok (.i2l, 1) := by decide +kernel
theorem dX5_sumOf_156 : decode cX5_sumOf 156 = .ok (.iload 10, 2) := by decide +kernel
theorem dX5_sumOf_158 : decode cX5_sumOf 158 = .ok (.i2l, 1) := by decide +kernel
theorem dX5_sumOf_159 : decode cX5_sumOf 159 = .ok (.lmul, 1) := by decide +kernel
theorem dX5_sumOf_160 : decode cX5_sumOf 160 = .ok (.iload 11, 2) := by decide +kernel
theorem dX5_sumOf_162 : decode cX5_sumOf 162 = .ok (.i2l, 1) := by decide +kernel
theorem dX5_sumOf_163 : decode cX5_sumOf 163 = .ok (.ladd, 1) := by decide +kernel
theorem dX5_sumOf_164 : decode cX5_sumOf 164 = .ok (.ladd, 1) := by decide +kernel
theorem dX5_sumOf_165 : decode cX5_sumOf 165 = .ok (.lstore 6, 2) := by decide +kernel
theorem dX5_sumOf_167 : decode cX5_sumOf 167 = .ok (.iload_n 3, 1) := by decide +kernel
theorem dX5_sumOf_168 : decode cX5_sumOf 168 = .ok (.ifCond .eq 56, 3) := by decide +kernel
theorem dX5_sumOf_171 : decode cX5_sumOf 171 = .ok (.aload_n 0, 1) := by decide +kernel
theorem dX5_sumOf_172 : decode cX5_sumOf 172 = .ok (.getfield 47, 3) := by decide +kernel
theorem dX5_sumOf_175 : decode cX5_sumOf 175 = .ok (.iload 9, 2) := by decide +kernel
theorem dX5_sumOf_177 : decode cX5_sumOf 177 = .ok (.iload_n 1, 1) := by decide +kernel
theorem dX5_sumOf_178 : decode cX5_sumOf 178 = .ok (.iastore, 1) := by decide +kernel
theorem dX5_sumOf_179 : decode cX5_sumOf 179 = .ok (.aload_n 0, 1) := by decide +kernel
theorem dX5_sumOf_180 : decode cX5_sumOf 180 = .ok (.getfield 50, 3) := by decide +kernel
theorem dX5_sumOf_183 : decode cX5_sumOf 183 = .ok (.iload 9, 2) := by decide +kernel
theorem dX5_sumOf_185 : decode cX5_sumOf 185 = .ok (.iload 10, 2) := by decide +kernel
