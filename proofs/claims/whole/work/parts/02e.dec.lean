theorem dX5_sumOf_187 : decode cX5_sumOf 187 = .ok (.iastore, 1) := by decide +kernel
theorem dX5_sumOf_188 : decode cX5_sumOf 188 = .ok (.aload_n 0, 1) := by decide +kernel
theorem dX5_sumOf_189 : decode cX5_sumOf 189 = .ok (.getfield 53, 3) := by decide +kernel
theorem dX5_sumOf_192 : decode cX5_sumOf 192 = .ok (.iload 9, 2) := by decide +kernel
theorem dX5_sumOf_194 : decode cX5_sumOf 194 = .ok (.iload 11, 2) := by decide +kernel
theorem dX5_sumOf_196 : decode cX5_sumOf 196 = .ok (.iastore, 1) := by decide +kernel
theorem dX5_sumOf_197 : decode cX5_sumOf 197 = .ok (.aload_n 0, 1) := by decide +kernel
theorem dX5_sumOf_198 : decode cX5_sumOf 198 = .ok (.getfield 56, 3) := by decide +kernel
theorem dX5_sumOf_201 : decode cX5_sumOf 201 = .ok (.iload 9, 2) := by decide +kernel
theorem dX5_sumOf_203 : decode cX5_sumOf 203 = .ok (.aload_n 0, 1) := by decide +kernel
theorem dX5_sumOf_204 : decode cX5_sumOf 204 = .ok (.iload 9, 2) := by decide +kernel
theorem dX5_sumOf_206 : decode cX5_sumOf 206 = .ok (.invokevirtual 126, 3) := by decide +kernel
theorem dX5_sumOf_209 : decode cX5_sumOf 209 = .ok (.iastore, 1) := by decide +kernel
theorem dX5_sumOf_210 : decode cX5_sumOf 210 = .ok (.aload_n 0, 1) := by decide +kernel
theorem dX5_sumOf_211 : decode cX5_sumOf 211 = .ok (.getfield 59, 3) := by decide +kernel
theorem dX5_sumOf_214 : decode cX5_sumOf 214 = .ok (.bipush 6, 2) := by decide +kernel
theorem dX5_sumOf_216 : decode cX5_sumOf 216 = .ok (.iload_n 1, 1) := by decide +kernel
theorem dX5_sumOf_217 : decode cX5_sumOf 217 = .ok (.imul, 1) := by decide +kernel
theorem dX5_sumOf_218 : decode cX5_sumOf 218 = .ok (.iload 8, 2) := by decide +kernel
theorem dX5_sumOf_220 : decode cX5_sumOf 220 = .ok (.iadd, 1) := by decide +kernel
theorem dX5_sumOf_221 : decode cX5_sumOf 221 = .ok (.iload 9, 2) := by decide +kernel
theorem dX5_sumOf_223 : decode cX5_sumOf 223 = .ok (.iastore, 1) := by decide +kernel
theorem dX5_sumOf_224 : decode cX5_sumOf 224 = .ok (.iinc 8 1, 3) := by decide +kernel
theorem dX5_sumOf_227 : decode cX5_sumOf 227 = .ok (.goto (-185), 3) := by decide +kernel
theorem dX5_sumOf_230 : decode cX5_sumOf 230 = .ok (.lload 6, 2) := by decide +kernel
theorem dX5_sumOf_232 : decode cX5_sumOf 232 = .ok (.lreturn, 1) := by decide +kernel
theorem dX5_nextOrder_0 : decode cX5_nextOrder 0 = .ok (.iload_n 1, 1) := by decide +kernel
theorem dX5_nextOrder_1 : decode cX5_nextOrder 1 = .ok (.iconst 2, 1) := by decide +kernel
theorem dX5_nextOrder_2 : decode cX5_nextOrder 2 = .ok (.isub, 1) := by decide +kernel
theorem dX5_nextOrder_3 : decode cX5_nextOrder 3 = .ok (.istore_n 2, 1) := by decide +kernel
theorem dX5_nextOrder_4 : decode cX5_nextOrder 4 = .ok (.iload_n 2, 1) := by decide +kernel
theorem dX5_nextOrder_5 : decode cX5_nextOrder 5 = .ok (.ifCond .lt 26, 3) := by decide +kernel
theorem dX5_nextOrder_8 : decode cX5_nextOrder 8 = .ok (.aload_n 0, 1) := by decide +kernel
theorem dX5_nextOrder_9 : decode cX5_nextOrder 9 = .ok (.getfield 78, 3) := by decide +kernel
theorem dX5_nextOrder_12 : decode cX5_nextOrder 12 = .ok (.iload_n 2, 1) := by decide +kernel
theorem dX5_nextOrder_13 : decode cX5_nextOrder 13 = .ok (.iaload, 1) := by decide +kernel
theorem dX5_nextOrder_14 : decode cX5_nextOrder 14 = .ok (.aload_n 0, 1) := by decide +kernel
theorem dX5_nextOrder_15 : decode cX5_nextOrder 15 = .ok (.getfield 78, 3) := by decide +kernel
theorem dX5_nextOrder_18 : decode cX5_nextOrder 18 = .ok (.iload_n 2, 1) := by decide +kernel
theorem dX5_nextOrder_19 : decode cX5_nextOrder 19 = .ok (.iconst 1, 1) := by decide +kernel
theorem dX5_nextOrder_20 : decode cX5_nextOrder 20 = .ok (.iadd, 1) := by decide +kernel
theorem dX5_nextOrder_21 : decode cX5_nextOrder 21 = .ok (.iaload, 1) := by decide +kernel
theorem dX5_nextOrder_22 : decode cX5_nextOrder 22 = .ok (.if_icmp .le 9, 3) := by decide +kernel
theorem dX5_nextOrder_25 : decode cX5_nextOrder 25 = .ok (.iinc 2 (-1), 3) := by decide +kernel
theorem dX5_nextOrder_28 : decode cX5_nextOrder 28 = .ok (.goto (-24), 3) := by decide +kernel
theorem dX5_nextOrder_31 : decode cX5_nextOrder 31 = .ok (.iload_n 2, 1) := by decide +kernel
theorem dX5_nextOrder_32 : decode cX5_nextOrder 32 = .ok (.ifCond .ge 5, 3) := by decide +kernel
theorem dX5_nextOrder_35 : decode cX5_nextOrder 35 = .ok (.iconst 0, 1) := by decide +kernel
theorem dX5_nextOrder_36 : decode cX5_nextOrder 36 = .ok (.ireturn, 1) := by decide +kernel
theorem dX5_nextOrder_37 : decode cX5_nextOrder 37 = .ok (.iload_n 1, 1) := by decide +kernel
theorem dX5_nextOrder_38 : decode cX5_nextOrder 38 = .ok (.iconst 1, 1) := by decide +kernel
theorem dX5_nextOrder_39 : decode cX5_nextOrder 39 = .ok (.isub, 1) := by decide +kernel
theorem dX5_nextOrder_40 : decode cX5_nextOrder 40 = .ok (.istore_n 3, 1) := by decide +kernel
theorem dX5_nextOrder_41 : decode cX5_nextOrder 41 = .ok (.aload_n 0, 1) := by decide +kernel
theorem dX5_nextOrder_42 : decode cX5_nextOrder 42 = .ok (.getfield 78, 3) := by decide +kernel
theorem dX5_nextOrder_45 : decode cX5_nextOrder 45 = .ok (.iload_n 3, 1) := by decide +kernel
theorem dX5_nextOrder_46 : decode cX5_nextOrder 46 = .ok (.iaload, 1) := by decide +kernel
theorem dX5_nextOrder_47 : decode cX5_nextOrder 47 = .ok (.aload_n 0, 1) := by decide +kernel
theorem dX5_nextOrder_48 : decode cX5_nextOrder 48 = .ok (.getfield 78, 3) := by decide +kernel
theorem dX5_nextOrder_51 : decode cX5_nextOrder 51 = .ok (.iload_n 2, 1) := by decide +kernel
theorem dX5_nextOrder_52 : decode cX5_nextOrder 52 = .ok (.iaload, 1) := by decide +kernel
theorem dX5_nextOrder_53 : decode cX5_nextOrder 53 = .ok (.if_icmp .ge 9, 3) := by decide +kernel
theorem dX5_nextOrder_56 : decode cX5_nextOrder 56 = .ok (.iinc 3 (-1), 3) := by decide +kernel
theorem dX5_nextOrder_59 : decode cX5_nextOrder 59 = .ok (.goto (-18), 3) := by decide +kernel
theorem dX5_nextOrder_62 : decode cX5_nextOrder 62 = .ok (.aload_n 0, 1) := by decide +kernel
theorem dX5_nextOrder_63 : decode cX5_nextOrder 63 = .ok (.getfield 78, 3) := by decide +kernel
theorem dX5_nextOrder_66 : decode cX5_nextOrder 66 = .ok (.iload_n 2, 1) := by decide +kernel
theorem dX5_nextOrder_67 : decode cX5_nextOrder 67 = .ok (.iaload, 1) := by decide +kernel
theorem dX5_nextOrder_68 : decode cX5_nextOrder 68 = .ok (.istore 4, 2) := by decide +kernel
theorem dX5_nextOrder_70 : decode cX5_nextOrder 70 = .ok (.aload_n 0, 1) := by decide +kernel
theorem dX5_nextOrder_71 : decode cX5_nextOrder 71 = .ok (.getfield 78, 3) := by decide +kernel
theorem dX5_nextOrder_74 : decode cX5_nextOrder 74 = .ok (.iload_n 2, 1) := by decide +kernel
theorem dX5_nextOrder_75 : decode cX5_nextOrder 75 = .ok (.aload_n 0, 1) := by decide +kernel
theorem dX5_nextOrder_76 : decode cX5_nextOrder 76 = .ok (.getfield 78, 3) := by decide +kernel
theorem dX5_nextOrder_79 : decode cX5_nextOrder 79 = .ok (.iload_n 3, 1) := by decide +kernel
theorem dX5_nextOrder_80 : decode cX5_nextOrder 80 = .ok (.iaload, 1) := by decide +kernel
theorem dX5_nextOrder_81 : decode cX5_nextOrder 81 = .ok (.iastore, 1) := by decide +kernel
theorem dX5_nextOrder_82 : decode cX5_nextOrder 82 = .ok (.aload_n 0, 1) := by decide +kernel
theorem dX5_nextOrder_83 : decode cX5_nextOrder 83 = .ok (.getfield 78, 3) := by decide +kernel
theorem dX5_nextOrder_86 : decode cX5_nextOrder 86 = .ok (.iload_n 3, 1) := by decide +kernel
theorem dX5_nextOrder_87 : decode cX5_nextOrder 87 = .ok (.iload 4, 2) := by decide +kernel
theorem dX5_nextOrder_89 : decode cX5_nextOrder 89 = .ok (.iastore, 1) := by decide +kernel
theorem dX5_nextOrder_90 : decode cX5_nextOrder 90 = .ok (.iload_n 2, 1) := by decide +kernel
theorem dX5_nextOrder_91 : decode cX5_nextOrder 91 = .ok (.iconst 1, 1) := by decide +kernel
theorem dX5_nextOrder_92 : decode cX5_nextOrder 92 = .ok (.iadd, 1) := by decide +kernel
theorem dX5_nextOrder_93 : decode cX5_nextOrder 93 = .ok (.istore 5, 2) := by decide +kernel
theorem dX5_nextOrder_95 : decode cX5_nextOrder 95 = .ok (.iload_n 1, 1) := by decide +kernel
theorem dX5_nextOrder_96 : decode cX5_nextOrder 96 = .ok (.iconst 1, 1) := by decide +kernel
theorem dX5_nextOrder_97 : decode cX5_nextOrder 97 = .ok (.isub, 1) := by decide +kernel
theorem dX5_nextOrder_98 : decode cX5_nextOrder 98 = .ok (.istore 6, 2) := by decide +kernel
theorem dX5_nextOrder_100 : decode cX5_nextOrder 100 = .ok (.iload 5, 2) := by decide +kernel
theorem dX5_nextOrder_102 : decode cX5_nextOrder 102 = .ok (.iload 6, 2) := by decide +kernel
theorem dX5_nextOrder_104 : decode cX5_nextOrder 104 = .ok (.if_icmp .ge 44, 3) := by decide +kernel
theorem dX5_nextOrder_107 : decode cX5_nextOrder 107 = .ok (.aload_n 0, 1) := by decide +kernel
theorem dX5_nextOrder_108 : decode cX5_nextOrder 108 = .ok (.getfield 78, 3) := by decide +kernel
theorem dX5_nextOrder_111 : decode cX5_nextOrder 111 = .ok (.iload 5, 2) := by decide +kernel
theorem dX5_nextOrder_113 : decode cX5_nextOrder 113 = .ok (.iaload, 1) := by decide +kernel
theorem dX5_nextOrder_114 : decode cX5_nextOrder 114 = .ok (.istore 4, 2) := by decide +kernel
theorem dX5_nextOrder_116 : decode cX5_nextOrder 116 = .ok (.aload_n 0, 1) := by decide +kernel
theorem dX5_nextOrder_117 : decode cX5_nextOrder 117 = .ok (.getfield 78, 3) := by decide +kernel
theorem dX5_nextOrder_120 : decode cX5_nextOrder 120 = .ok (.iload 5, 2) := by decide +kernel
theorem dX5_nextOrder_122 : decode cX5_nextOrder 122 = .ok (.aload_n 0, 1) := by decide +kernel
theorem dX5_nextOrder_123 : decode cX5_nextOrder 123 = .ok (.getfield 78, 3) := by decide +kernel
theorem dX5_nextOrder_126 : decode cX5_nextOrder 126 = .ok (.iload 6, 2) := by decide +kernel
theorem dX5_nextOrder_128 : decode cX5_nextOrder 128 = .ok (.iaload, 1) := by decide +kernel
theorem dX5_nextOrder_129 : decode cX5_nextOrder 129 = .ok (.iastore, 1) := by decide +kernel
theorem dX5_nextOrder_130 : decode cX5_nextOrder 130 = .ok (.aload_n 0, 1) := by decide +kernel
theorem dX5_nextOrder_131 : decode cX5_nextOrder 131 = .ok (.getfield 78, 3) := by decide +kernel
theorem dX5_nextOrder_134 : decode cX5_nextOrder 134 = .ok (.iload 6, 2) := by decide +kernel
theorem dX5_nextOrder_136 : decode cX5_nextOrder 136 = .ok (.iload 4, 2) := by decide +kernel
theorem dX5_nextOrder_138 : decode cX5_nextOrder 138 = .ok (.iastore, 1) := by decide +kernel
theorem dX5_nextOrder_139 : decode cX5_nextOrder 139 = .ok (.iinc 5 1, 3) := by decide +kernel
theorem dX5_nextOrder_142 : decode cX5_nextOrder 142 = .ok (.iinc 6 (-1), 3) := by decide +kernel
theorem dX5_nextOrder_145 : decode cX5_nextOrder 145 = .ok (.goto (-45), 3) := by decide +kernel
theorem dX5_nextOrder_148 : decode cX5_nextOrder 148 = .ok (.iconst 1, 1) := by decide +kernel
theorem dX5_nextOrder_149 : decode cX5_nextOrder 149 = .ok (.ireturn, 1) := by decide +kernel
theorem dX5_findRows_0 : decode cX5_findRows 0 = .ok (.iconst 0, 1) := by decide +kernel
theorem dX5_findRows_1 : decode cX5_findRows 1 = .ok (.istore_n 3, 1) := by decide +kernel
theorem dX5_findRows_2 : decode cX5_findRows 2 = .ok (.iconst (-1), 1) := by decide +kernel
theorem dX5_findRows_3 : decode cX5_findRows 3 = .ok (.istore 4, 2) := by decide +kernel
theorem dX5_findRows_5 : decode cX5_findRows 5 = .ok (.iconst 0, 1) := by decide +kernel
theorem dX5_findRows_6 : decode cX5_findRows 6 = .ok (.istore 5, 2) := by decide +kernel
theorem dX5_findRows_8 : decode cX5_findRows 8 = .ok (.iload 5, 2) := by decide +kernel
theorem dX5_findRows_10 : decode cX5_findRows 10 = .ok (.aload_n 0, 1) := by decide +kernel
theorem dX5_findRows_11 : decode cX5_findRows 11 = .ok (.getfield 130, 3) := by decide +kernel
theorem dX5_findRows_14 : decode cX5_findRows 14 = .ok (.if_icmp .ge 55, 3) := by decide +kernel
theorem dX5_findRows_17 : decode cX5_findRows 17 = .ok (.iload_n 2, 1) := by decide +kernel
theorem dX5_findRows_18 : decode cX5_findRows 18 = .ok (.iload 5, 2) := by decide +kernel
theorem dX5_findRows_20 : decode cX5_findRows 20 = .ok (.ishr, 1) := by decide +kernel
theorem dX5_findRows_21 : decode cX5_findRows 21 = .ok (.iconst 1, 1) := by decide +kernel
theorem dX5_findRows_22 : decode cX5_findRows 22 = .ok (.iand, 1) := by decide +kernel
theorem dX5_findRows_23 : decode cX5_findRows 23 = .ok (.iconst 1, 1) := by decide +kernel
theorem dX5_findRows_24 : decode cX5_findRows 24 = .ok (.if_icmp .ne 39, 3) := by decide +kernel
theorem dX5_findRows_27 : decode cX5_findRows 27 = .ok (.aload_n 0, 1) := by decide +kernel
theorem dX5_findRows_28 : decode cX5_findRows 28 = .ok (.getfield 78, 3) := by decide +kernel
theorem dX5_findRows_31 : decode cX5_findRows 31 = .ok (.iload_n 3, 1) := by decide +kernel
theorem dX5_findRows_32 : decode cX5_findRows 32 = .ok (.iload 5, 2) := by decide +kernel
theorem dX5_findRows_34 : decode cX5_findRows 34 = .ok (.iastore, 1) := by decide +kernel
theorem dX5_findRows_35 : decode cX5_findRows 35 = .ok (.iinc 3 1, 3) := by decide +kernel
theorem dX5_findRows_38 : decode cX5_findRows 38 = .ok (.aload_n 0, 1) := by decide +kernel
theorem dX5_findRows_39 : decode cX5_findRows 39 = .ok (.getfield 44, 3) := by decide +kernel
theorem dX5_findRows_42 : decode cX5_findRows 42 = .ok (.aload_n 0, 1) := by decide +kernel
theorem dX5_findRows_43 : decode cX5_findRows 43 = .ok (.getfield 65, 3) := by decide +kernel
theorem dX5_findRows_46 : decode cX5_findRows 46 = .ok (.iload 5, 2) := by decide +kernel
theorem dX5_findRows_48 : decode cX5_findRows 48 = .ok (.iaload, 1) := by decide +kernel
theorem dX5_findRows_49 : decode cX5_findRows 49 = .ok (.iaload, 1) := by decide +kernel
theorem dX5_findRows_50 : decode cX5_findRows 50 = .ok (.iload_n 1, 1) := by decide +kernel
theorem dX5_findRows_51 : decode cX5_findRows 51 = .ok (.if_icmp .ne 8, 3) := by decide +kernel
theorem dX5_findRows_54 : decode cX5_findRows 54 = .ok (.iload 5, 2) := by decide +kernel
theorem dX5_findRows_56 : decode cX5_findRows 56 = .ok (.goto 5, 3) := by decide +kernel
theorem dX5_findRows_59 : decode cX5_findRows 59 = .ok (.iload 4, 2) := by decide +kernel
theorem dX5_findRows_61 : decode cX5_findRows 61 = .ok (.istore 4, 2) := by decide +kernel
theorem dX5_findRows_63 : decode cX5_findRows 63 = .ok (.iinc 5 1, 3) := by decide +kernel
theorem dX5_findRows_66 : decode cX5_findRows 66 = .ok (.goto (-58), 3) := by decide +kernel
theorem dX5_findRows_69 : decode cX5_findRows 69 = .ok (.bipush 64, 2) := by decide +kernel
theorem dX5_findRows_71 : decode cX5_findRows 71 = .ok (.iload_n 1, 1) := by decide +kernel
theorem dX5_findRows_72 : decode cX5_findRows 72 = .ok (.imul, 1) := by decide +kernel
theorem dX5_findRows_73 : decode cX5_findRows 73 = .ok (.iload_n 2, 1) := by decide +kernel
theorem dX5_findRows_74 : decode cX5_findRows 74 = .ok (.iadd, 1) := by decide +kernel
theorem dX5_findRows_75 : decode cX5_findRows 75 = .ok (.istore 5, 2) := by decide +kernel
theorem dX5_findRows_77 : decode cX5_findRows 77 = .ok (.aload_n 0, 1) := by decide +kernel
theorem dX5_findRows_78 : decode cX5_findRows 78 = .ok (.getfield 71, 3) := by decide +kernel
theorem dX5_findRows_81 : decode cX5_findRows 81 = .ok (.iload 5, 2) := by decide +kernel
theorem dX5_findRows_83 : decode cX5_findRows 83 = .ok (.ldc2_w 133, 3) := by decide +kernel
theorem dX5_findRows_86 : decode cX5_findRows 86 = .ok (.lastore, 1) := by decide +kernel
theorem dX5_findRows_87 : decode cX5_findRows 87 = .ok (.iconst 1, 1) := by decide +kernel
theorem dX5_findRows_88 : decode cX5_findRows 88 = .ok (.istore 6, 2) := by decide +kernel
theorem dX5_findRows_90 : decode cX5_findRows 90 = .ok (.iload 6, 2) := by decide +kernel
theorem dX5_findRows_92 : decode cX5_findRows 92 = .ok (.ifCond .eq 107, 3) := by decide +kernel
theorem dX5_findRows_95 : decode cX5_findRows 95 = .ok (.iload 4, 2) := by decide +kernel
theorem dX5_findRows_97 : decode cX5_findRows 97 = .ok (.ifCond .lt 14, 3) := by decide +kernel
theorem dX5_findRows_100 : decode cX5_findRows 100 = .ok (.aload_n 0, 1) := by decide +kernel
theorem dX5_findRows_101 : decode cX5_findRows 101 = .ok (.getfield 78, 3) := by decide +kernel
theorem dX5_findRows_104 : decode cX5_findRows 104 = .ok (.iconst 0, 1) := by decide +kernel
theorem dX5_findRows_105 : decode cX5_findRows 105 = .ok (.iaload, 1) := by decide +kernel
theorem dX5_findRows_106 : decode cX5_findRows 106 = .ok (.iload 4, 2) := by decide +kernel
theorem dX5_findRows_108 : decode cX5_findRows 108 = .ok (.if_icmp .ne 81, 3) := by decide +kernel
theorem dX5_findRows_111 : decode cX5_findRows 111 = .ok (.aload_n 0, 1) := by decide +kernel
theorem dX5_findRows_112 : decode cX5_findRows 112 = .ok (.iload_n 1, 1) := by decide +kernel
theorem dX5_findRows_113 : decode cX5_findRows 113 = .ok (.iload_n 3, 1) := by decide +kernel
theorem dX5_findRows_114 : decode cX5_findRows 114 = .ok (.iconst 0, 1) := by decide +kernel
theorem dX5_findRows_115 : decode cX5_findRows 115 = .ok (.invokevirtual 135, 3) := by decide +kernel
theorem dX5_findRows_118 : decode cX5_findRows 118 = .ok (.lstore 7, 2) := by decide +kernel
theorem dX5_findRows_120 : decode cX5_findRows 120 = .ok (.aload_n 0, 1) := by decide +kernel
theorem dX5_findRows_121 : decode cX5_findRows 121 = .ok (.getfield 71, 3) := by decide +kernel
theorem dX5_findRows_124 : decode cX5_findRows 124 = .ok (.iload 5, 2) := by decide +kernel
theorem dX5_findRows_126 : decode cX5_findRows 126 = .ok (.laload, 1) := by decide +kernel
theorem dX5_findRows_127 : decode cX5_findRows 127 = .ok (.lconst 0, 1) := by decide +kernel
theorem dX5_findRows_128 : decode cX5_findRows 128 = .ok (.lcmp, 1) := by decide +kernel
theorem dX5_findRows_129 : decode cX5_findRows 129 = .ok (.ifCond .lt 16, 3) := by decide +kernel
theorem dX5_findRows_132 : decode cX5_findRows 132 = .ok (.lload 7, 2) := by decide +kernel
theorem dX5_findRows_134 : decode cX5_findRows 134 = .ok (.aload_n 0, 1) := by decide +kernel
theorem dX5_findRows_135 : decode cX5_findRows 135 = .ok (.getfield 71, 3) := by decide +kernel
theorem dX5_findRows_138 : decode cX5_findRows 138 = .ok (.iload 5, 2) := by decide +kernel
theorem dX5_findRows_140 : decode cX5_findRows 140 = .ok (.laload, 1) := by decide +kernel
theorem dX5_findRows_141 : decode cX5_findRows 141 = .ok (.lcmp, 1) := by decide +kernel
theorem dX5_findRows_142 : decode cX5_findRows 142 = .ok (.ifCond .ge 47, 3) := by decide +kernel
theorem dX5_findRows_145 : decode cX5_findRows 145 = .ok (.aload_n 0, 1) := by decide +kernel
theorem dX5_findRows_146 : decode cX5_findRows 146 = .ok (.getfield 71, 3) := by decide +kernel
theorem dX5_findRows_149 : decode cX5_findRows 149 = .ok (.iload 5, 2) := by decide +kernel
theorem dX5_findRows_151 : decode cX5_findRows 151 = .ok (.lload 7, 2) := by decide +kernel
theorem dX5_findRows_153 : decode cX5_findRows 153 = .ok (.lastore, 1) := by decide +kernel
theorem dX5_findRows_154 : decode cX5_findRows 154 = .ok (.iconst 0, 1) := by decide +kernel
theorem dX5_findRows_155 : decode cX5_findRows 155 = .ok (.istore 9, 2) := by decide +kernel
theorem dX5_findRows_157 : decode cX5_findRows 157 = .ok (.iload 9, 2) := by decide +kernel
theorem dX5_findRows_159 : decode cX5_findRows 159 = .ok (.iload_n 3, 1) := by decide +kernel
theorem dX5_findRows_160 : decode cX5_findRows 160 = .ok (.if_icmp .ge 29, 3) := by decide +kernel
theorem dX5_findRows_163 : decode cX5_findRows 163 = .ok (.aload_n 0, 1) := by decide +kernel
theorem dX5_findRows_164 : decode cX5_findRows 164 = .ok (.getfield 75, 3) := by decide +kernel
theorem dX5_findRows_167 : decode cX5_findRows 167 = .ok (.bipush 6, 2) := by decide +kernel
theorem dX5_findRows_169 : decode cX5_findRows 169 = .ok (.iload 5, 2) := by decide +kernel
theorem dX5_findRows_171 : decode cX5_findRows 171 = .ok (.imul, 1) := by decide +kernel
theorem dX5_findRows_172 : decode cX5_findRows 172 = .ok (.iload 9, 2) := by decide +kernel
theorem dX5_findRows_174 : decode cX5_findRows 174 = .ok (.iadd, 1) := by decide +kernel
theorem dX5_findRows_175 : decode cX5_findRows 175 = .ok (.aload_n 0, 1) := by decide +kernel
theorem dX5_findRows_176 : decode cX5_findRows 176 = .ok (.getfield 78, 3) := by decide +kernel
theorem dX5_findRows_179 : decode cX5_findRows 179 = .ok (.iload 9, 2) := by decide +kernel
theorem dX5_findRows_181 : decode cX5_findRows 181 = .ok (.iaload, 1) := by decide +kernel
theorem dX5_findRows_182 : decode cX5_findRows 182 = .ok (.iastore, 1) := by decide +kernel
theorem dX5_findRows_183 : decode cX5_findRows 183 = .ok (.iinc 9 1, 3) := by decide +kernel
theorem dX5_findRows_186 : decode cX5_findRows 186 = .ok (.goto (-29), 3) := by decide +kernel
theorem dX5_findRows_189 : decode cX5_findRows 189 = .ok (.aload_n 0, 1) := by decide +kernel
theorem dX5_findRows_190 : decode cX5_findRows 190 = .ok (.iload_n 3, 1) := by decide +kernel
theorem dX5_findRows_191 : decode cX5_findRows 191 = .ok (.invokevirtual 139, 3) := by decide +kernel
theorem dX5_findRows_194 : decode cX5_findRows 194 = .ok (.istore 6, 2) := by decide +kernel
theorem dX5_findRows_196 : decode cX5_findRows 196 = .ok (.goto (-106), 3) := by decide +kernel
theorem dX5_findRows_199 : decode cX5_findRows 199 = .ok (.return_, 1) := by decide +kernel
theorem dX5_setOf_0 : decode cX5_setOf 0 = .ok (.iconst 0, 1) := by decide +kernel
theorem dX5_setOf_1 : decode cX5_setOf 1 = .ok (.istore_n 2, 1) := by decide +kernel
theorem dX5_setOf_2 : decode cX5_setOf 2 = .ok (.iconst 0, 1) := by decide +kernel
theorem dX5_setOf_3 : decode cX5_setOf 3 = .ok (.istore_n 3, 1) := by decide +kernel
theorem dX5_setOf_4 : decode cX5_setOf 4 = .ok (.iload_n 3, 1) := by decide +kernel
theorem dX5_setOf_5 : decode cX5_setOf 5 = .ok (.aload_n 0, 1) := by decide +kernel
theorem dX5_setOf_6 : decode cX5_setOf 6 = .ok (.getfield 130, 3) := by decide +kernel
theorem dX5_setOf_9 : decode cX5_setOf 9 = .ok (.if_icmp .ge 29, 3) := by decide +kernel
theorem dX5_setOf_12 : decode cX5_setOf 12 = .ok (.iload_n 2, 1) := by decide +kernel
theorem dX5_setOf_13 : decode cX5_setOf 13 = .ok (.aload_n 0, 1) := by decide +kernel
theorem dX5_setOf_14 : decode cX5_setOf 14 = .ok (.getfield 81, 3) := by decide +kernel
theorem dX5_setOf_17 : decode cX5_setOf 17 = .ok (.iload_n 3, 1) := by decide +kernel
theorem dX5_setOf_18 : decode cX5_setOf 18 = .ok (.iaload, 1) := by decide +kernel
theorem dX5_setOf_19 : decode cX5_setOf 19 = .ok (.iload_n 1, 1) := by decide +kernel
theorem dX5_setOf_20 : decode cX5_setOf 20 = .ok (.if_icmp .ne 9, 3) := by decide +kernel
theorem dX5_setOf_23 : decode cX5_setOf 23 = .ok (.iconst 1, 1) := by decide +kernel
theorem dX5_setOf_24 : decode cX5_setOf 24 = .ok (.iload_n 3, 1) := by decide +kernel
theorem dX5_setOf_25 : decode cX5_setOf 25 = .ok (.ishl, 1) := by decide +kernel
theorem dX5_setOf_26 : decode cX5_setOf 26 = .ok (.goto 4, 3) := by decide +kernel
theorem dX5_setOf_29 : decode cX5_setOf 29 = .ok (.iconst 0, 1) := by decide +kernel
theorem dX5_setOf_30 : decode cX5_setOf 30 = .ok (.ior, 1) := by decide +kernel
theorem dX5_setOf_31 : decode cX5_setOf 31 = .ok (.istore_n 2, 1) := by decide +kernel
theorem dX5_setOf_32 : decode cX5_setOf 32 = .ok (.iinc 3 1, 3) := by decide +kernel
theorem dX5_setOf_35 : decode cX5_setOf 35 = .ok (.goto (-31), 3) := by decide +kernel
theorem dX5_setOf_38 : decode cX5_setOf 38 = .ok (.iload_n 2, 1) := by decide +kernel
theorem dX5_setOf_39 : decode cX5_setOf 39 = .ok (.ireturn, 1) := by decide +kernel
theorem dX5_give_0 : decode cX5_give 0 = .ok (.aload_n 0, 1) := by decide +kernel
theorem dX5_give_1 : decode cX5_give 1 = .ok (.iconst 0, 1) := by decide +kernel
theorem dX5_give_2 : decode cX5_give 2 = .ok (.putfield 88, 3) := by decide +kernel
theorem dX5_give_5 : decode cX5_give 5 = .ok (.aload_n 0, 1) := by decide +kernel
theorem dX5_give_6 : decode cX5_give 6 = .ok (.iconst 0, 1) := by decide +kernel
theorem dX5_give_7 : decode cX5_give 7 = .ok (.putfield 130, 3) := by decide +kernel
theorem dX5_give_10 : decode cX5_give 10 = .ok (.iconst 0, 1) := by decide +kernel
theorem dX5_give_11 : decode cX5_give 11 = .ok (.istore_n 1, 1) := by decide +kernel
theorem dX5_give_12 : decode cX5_give 12 = .ok (.iload_n 1, 1) := by decide +kernel
theorem dX5_give_13 : decode cX5_give 13 = .ok (.aload_n 0, 1) := by decide +kernel
theorem dX5_give_14 : decode cX5_give 14 = .ok (.getfield 98, 3) := by decide +kernel
theorem dX5_give_17 : decode cX5_give 17 = .ok (.if_icmp .ge 67, 3) := by decide +kernel
theorem dX5_give_20 : decode cX5_give 20 = .ok (.aload_n 0, 1) := by decide +kernel
theorem dX5_give_21 : decode cX5_give 21 = .ok (.getfield 47, 3) := by decide +kernel
theorem dX5_give_24 : decode cX5_give 24 = .ok (.iload_n 1, 1) := by decide +kernel
theorem dX5_give_25 : decode cX5_give 25 = .ok (.iconst (-1), 1) := by decide +kernel
theorem dX5_give_26 : decode cX5_give 26 = .ok (.iastore, 1) := by decide +kernel
theorem dX5_give_27 : decode cX5_give 27 = .ok (.aload_n 0, 1) := by decide +kernel
theorem dX5_give_28 : decode cX5_give 28 = .ok (.getfield 38, 3) := by decide +kernel
theorem dX5_give_31 : decode cX5_give 31 = .ok (.iload_n 1, 1) := by decide +kernel
theorem dX5_give_32 : decode cX5_give 32 = .ok (.baload, 1) := by decide +kernel
theorem dX5_give_33 : decode cX5_give 33 = .ok (.ifCond .eq 45, 3) := by decide +kernel
theorem dX5_give_36 : decode cX5_give 36 = .ok (.aload_n 0, 1) := by decide +kernel
theorem dX5_give_37 : decode cX5_give 37 = .ok (.iload_n 1, 1) := by decide +kernel
theorem dX5_give_38 : decode cX5_give 38 = .ok (.invokevirtual 142, 3) := by decide +kernel
theorem dX5_give_41 : decode cX5_give 41 = .ok (.ifCond .eq 37, 3) := by decide +kernel
theorem dX5_give_44 : decode cX5_give 44 = .ok (.aload_n 0, 1) := by decide +kernel
theorem dX5_give_45 : decode cX5_give 45 = .ok (.getfield 65, 3) := by decide +kernel
theorem dX5_give_48 : decode cX5_give 48 = .ok (.aload_n 0, 1) := by decide +kernel
theorem dX5_give_49 : decode cX5_give 49 = .ok (.getfield 130, 3) := by decide +kernel
theorem dX5_give_52 : decode cX5_give 52 = .ok (.iload_n 1, 1) := by decide +kernel
theorem dX5_give_53 : decode cX5_give 53 = .ok (.iastore, 1) := by decide +kernel
theorem dX5_give_54 : decode cX5_give 54 = .ok (.aload_n 0, 1) := by decide +kernel
theorem dX5_give_55 : decode cX5_give 55 = .ok (.getfield 68, 3) := by decide +kernel
theorem dX5_give_58 : decode cX5_give 58 = .ok (.aload_n 0, 1) := by decide +kernel
theorem dX5_give_59 : decode cX5_give 59 = .ok (.getfield 130, 3) := by decide +kernel
theorem dX5_give_62 : decode cX5_give 62 = .ok (.aload_n 0, 1) := by decide +kernel
theorem dX5_give_63 : decode cX5_give 63 = .ok (.iload_n 1, 1) := by decide +kernel
theorem dX5_give_64 : decode cX5_give 64 = .ok (.invokevirtual 142, 3) := by decide +kernel
theorem dX5_give_67 : decode cX5_give 67 = .ok (.iastore, 1) := by decide +kernel
theorem dX5_give_68 : decode cX5_give 68 = .ok (.aload_n 0, 1) := by decide +kernel
theorem dX5_give_69 : decode cX5_give 69 = .ok (.dup, 1) := by decide +kernel
theorem dX5_give_70 : decode cX5_give 70 = .ok (.getfield 130, 3) := by decide +kernel
theorem dX5_give_73 : decode cX5_give 73 = .ok (.iconst 1, 1) := by decide +kernel
theorem dX5_give_74 : decode cX5_give 74 = .ok (.iadd, 1) := by decide +kernel
theorem dX5_give_75 : decode cX5_give 75 = .ok (.putfield 130, 3) := by decide +kernel
theorem dX5_give_78 : decode cX5_give 78 = .ok (.iinc 1 1, 3) := by decide +kernel
theorem dX5_give_81 : decode cX5_give 81 = .ok (.goto (-69), 3) := by decide +kernel
theorem dX5_give_84 : decode cX5_give 84 = .ok (.iconst 0, 1) := by decide +kernel
theorem dX5_give_85 : decode cX5_give 85 = .ok (.istore_n 1, 1) := by decide +kernel
theorem dX5_give_86 : decode cX5_give 86 = .ok (.iload_n 1, 1) := by decide +kernel
theorem dX5_give_87 : decode cX5_give 87 = .ok (.aload_n 0, 1) := by decide +kernel
theorem dX5_give_88 : decode cX5_give 88 = .ok (.getfield 95, 3) := by decide +kernel
theorem dX5_give_91 : decode cX5_give 91 = .ok (.if_icmp .ge 33, 3) := by decide +kernel
theorem dX5_give_94 : decode cX5_give 94 = .ok (.iconst 0, 1) := by decide +kernel
theorem dX5_give_95 : decode cX5_give 95 = .ok (.istore_n 2, 1) := by decide +kernel
theorem dX5_give_96 : decode cX5_give 96 = .ok (.iload_n 2, 1) := by decide +kernel
theorem dX5_give_97 : decode cX5_give 97 = .ok (.iconst 1, 1) := by decide +kernel
theorem dX5_give_98 : decode cX5_give 98 = .ok (.aload_n 0, 1) := by decide +kernel
theorem dX5_give_99 : decode cX5_give 99 = .ok (.getfield 130, 3) := by decide +kernel
theorem dX5_give_102 : decode cX5_give 102 = .ok (.ishl, 1) := by decide +kernel
theorem dX5_give_103 : decode cX5_give 103 = .ok (.if_icmp .ge 15, 3) := by decide +kernel
theorem dX5_give_106 : decode cX5_give 106 = .ok (.aload_n 0, 1) := by decide +kernel
theorem dX5_give_107 : decode cX5_give 107 = .ok (.iload_n 1, 1) := by decide +kernel
theorem dX5_give_108 : decode cX5_give 108 = .ok (.iload_n 2, 1) := by decide +kernel
theorem dX5_give_109 : decode cX5_give 109 = .ok (.invokevirtual 145, 3) := by decide +kernel
theorem dX5_give_112 : decode cX5_give 112 = .ok (.iinc 2 1, 3) := by decide +kernel
theorem dX5_give_115 : decode cX5_give 115 = .ok (.goto (-19), 3) := by decide +kernel
theorem dX5_give_118 : decode cX5_give 118 = .ok (.iinc 1 1, 3) := by decide +kernel
theorem dX5_give_121 : decode cX5_give 121 = .ok (.goto (-35), 3) := by decide +kernel
theorem dX5_give_124 : decode cX5_give 124 = .ok (.iconst 1, 1) := by decide +kernel
theorem dX5_give_125 : decode cX5_give 125 = .ok (.istore_n 1, 1) := by decide +kernel
theorem dX5_give_126 : decode cX5_give 126 = .ok (.iconst 0, 1) := by decide +kernel
theorem dX5_give_127 : decode cX5_give 127 = .ok (.istore_n 2, 1) := by decide +kernel
theorem dX5_give_128 : decode cX5_give 128 = .ok (.iload_n 2, 1) := by decide +kernel
theorem dX5_give_129 : decode cX5_give 129 = .ok (.aload_n 0, 1) := by decide +kernel
theorem dX5_give_130 : decode cX5_give 130 = .ok (.getfield 130, 3) := by decide +kernel
theorem dX5_give_133 : decode cX5_give 133 = .ok (.if_icmp .ge 13, 3) := by decide +kernel
theorem dX5_give_136 : decode cX5_give 136 = .ok (.iload_n 1, 1) := by decide +kernel
theorem dX5_give_137 : decode cX5_give 137 = .ok (.iconst 4, 1) := by decide +kernel
theorem dX5_give_138 : decode cX5_give 138 = .ok (.imul, 1) := by decide +kernel
theorem dX5_give_139 : decode cX5_give 139 = .ok (.istore_n 1, 1) := by decide +kernel
theorem dX5_give_140 : decode cX5_give 140 = .ok (.iinc 2 1, 3) := by decide +kernel
theorem dX5_give_143 : decode cX5_give 143 = .ok (.goto (-15), 3) := by decide +kernel
theorem dX5_give_146 : decode cX5_give 146 = .ok (.iconst (-1), 1) := by decide +kernel
theorem dX5_give_147 : decode cX5_give 147 = .ok (.istore_n 2, 1) := by decide +kernel
theorem dX5_give_148 : decode cX5_give 148 = .ok (.lconst 0, 1) := by decide +kernel
theorem dX5_give_149 : decode cX5_give 149 = .ok (.lstore_n 3, 1) := by decide +kernel
theorem dX5_give_150 : decode cX5_give 150 = .ok (.iconst 0, 1) := by decide +kernel
theorem dX5_give_151 : decode cX5_give 151 = .ok (.istore 5, 2) := by decide +kernel
theorem dX5_give_153 : decode cX5_give 153 = .ok (.iload 5, 2) := by decide +kernel
theorem dX5_give_155 : decode cX5_give 155 = .ok (.iload_n 1, 1) := by decide +kernel
theorem dX5_give_156 : decode cX5_give 156 = .ok (.if_icmp .ge 139, 3) := by decide +kernel
theorem dX5_give_159 : decode cX5_give 159 = .ok (.aload_n 0, 1) := by decide +kernel
theorem dX5_give_160 : decode cX5_give 160 = .ok (.iload 5, 2) := by decide +kernel
theorem dX5_give_162 : decode cX5_give 162 = .ok (.invokevirtual 149, 3) := by decide +kernel
theorem dX5_give_165 : decode cX5_give 165 = .ok (.iconst 1, 1) := by decide +kernel
theorem dX5_give_166 : decode cX5_give 166 = .ok (.istore 6, 2) := by decide +kernel
theorem dX5_give_168 : decode cX5_give 168 = .ok (.iconst 0, 1) := by decide +kernel
theorem dX5_give_169 : decode cX5_give 169 = .ok (.istore 7, 2) := by decide +kernel
theorem dX5_give_171 : decode cX5_give 171 = .ok (.iload 7, 2) := by decide +kernel
theorem dX5_give_173 : decode cX5_give 173 = .ok (.aload_n 0, 1) := by decide +kernel
theorem dX5_give_174 : decode cX5_give 174 = .ok (.getfield 130, 3) := by decide +kernel
theorem dX5_give_177 : decode cX5_give 177 = .ok (.if_icmp .ge 42, 3) := by decide +kernel
theorem dX5_give_180 : decode cX5_give 180 = .ok (.iload 6, 2) := by decide +kernel
theorem dX5_give_182 : decode cX5_give 182 = .ok (.ifCond .eq 28, 3) := by decide +kernel
theorem dX5_give_185 : decode cX5_give 185 = .ok (.aload_n 0, 1) := by decide +kernel
theorem dX5_give_186 : decode cX5_give 186 = .ok (.getfield 68, 3) := by decide +kernel
theorem dX5_give_189 : decode cX5_give 189 = .ok (.iload 7, 2) := by decide +kernel
theorem dX5_give_191 : decode cX5_give 191 = .ok (.iaload, 1) := by decide +kernel
theorem dX5_give_192 : decode cX5_give 192 = .ok (.aload_n 0, 1) := by decide +kernel
theorem dX5_give_193 : decode cX5_give 193 = .ok (.getfield 81, 3) := by decide +kernel
theorem dX5_give_196 : decode cX5_give 196 = .ok (.iload 7, 2) := by decide +kernel
theorem dX5_give_198 : decode cX5_give 198 = .ok (.iaload, 1) := by decide +kernel
theorem dX5_give_199 : decode cX5_give 199 = .ok (.ishr, 1) := by decide +kernel
theorem dX5_give_200 : decode cX5_give 200 = .ok (.iconst 1, 1) := by decide +kernel
theorem dX5_give_201 : decode cX5_give 201 = .ok (.iand, 1) := by decide +kernel
theorem dX5_give_202 : decode cX5_give 202 = .ok (.iconst 1, 1) := by decide +kernel
theorem dX5_give_203 : decode cX5_give 203 = .ok (.if_icmp .ne 7, 3) := by decide +kernel
theorem dX5_give_206 : decode cX5_give 206 = .ok (.iconst 1, 1) := by decide +kernel
theorem dX5_give_207 : decode cX5_give 207 = .ok (.goto 4, 3) := by decide +kernel
theorem dX5_give_210 : decode cX5_give 210 = .ok (.iconst 0, 1) := by decide +kernel
theorem dX5_give_211 : decode cX5_give 211 = .ok (.istore 6, 2) := by decide +kernel
theorem dX5_give_213 : decode cX5_give 213 = .ok (.iinc 7 1, 3) := by decide +kernel
theorem dX5_give_216 : decode cX5_give 216 = .ok (.goto (-45), 3) := by decide +kernel
theorem dX5_give_219 : decode cX5_give 219 = .ok (.lconst 0, 1) := by decide +kernel
theorem dX5_give_220 : decode cX5_give 220 = .ok (.lstore 7, 2) := by decide +kernel
theorem dX5_give_222 : decode cX5_give 222 = .ok (.iconst 0, 1) := by decide +kernel
theorem dX5_give_223 : decode cX5_give 223 = .ok (.istore 9, 2) := by decide +kernel
theorem dX5_give_225 : decode cX5_give 225 = .ok (.iload 9, 2) := by decide +kernel
theorem dX5_give_227 : decode cX5_give 227 = .ok (.aload_n 0, 1) := by decide +kernel
theorem dX5_give_228 : decode cX5_give 228 = .ok (.getfield 95, 3) := by decide +kernel
theorem dX5_give_231 : decode cX5_give 231 = .ok (.if_icmp .ge 36, 3) := by decide +kernel
theorem dX5_give_234 : decode cX5_give 234 = .ok (.iload 6, 2) := by decide +kernel
theorem dX5_give_236 : decode cX5_give 236 = .ok (.ifCond .eq 31, 3) := by decide +kernel
theorem dX5_give_239 : decode cX5_give 239 = .ok (.lload 7, 2) := by decide +kernel
theorem dX5_give_241 : decode cX5_give 241 = .ok (.aload_n 0, 1) := by decide +kernel
theorem dX5_give_242 : decode cX5_give 242 = .ok (.getfield 71, 3) := by decide +kernel
theorem dX5_give_245 : decode cX5_give 245 = .ok (.bipush 64, 2) := by decide +kernel
theorem dX5_give_247 : decode cX5_give 247 = .ok (.iload 9, 2) := by decide +kernel
theorem dX5_give_249 : decode cX5_give 249 = .ok (.imul, 1) := by decide +kernel
theorem dX5_give_250 : decode cX5_give 250 = .ok (.aload_n 0, 1) := by decide +kernel
theorem dX5_give_251 : decode cX5_give 251 = .ok (.iload 9, 2) := by decide +kernel
theorem dX5_give_253 : decode cX5_give 253 = .ok (.invokevirtual 153, 3) := by decide +kernel
theorem dX5_give_256 : decode cX5_give 256 = .ok (.iadd, 1) := by decide +kernel
theorem dX5_give_257 : decode cX5_give 257 = .ok (.laload, 1) := by decide +kernel
theorem dX5_give_258 : decode cX5_give 258 = .ok (.ladd, 1) := by decide +kernel
theorem dX5_give_259 : decode cX5_give 259 = .ok (.lstore 7, 2) := by decide +kernel
theorem dX5_give_261 : decode cX5_give 261 = .ok (.iinc 9 1, 3) := by decide +kernel
theorem dX5_give_264 : decode cX5_give 264 = .ok (.goto (-39), 3) := by decide +kernel
theorem dX5_give_267 : decode cX5_give 267 = .ok (.iload 6, 2) := by decide +kernel
theorem dX5_give_269 : decode cX5_give 269 = .ok (.ifCond .eq 20, 3) := by decide +kernel
theorem dX5_give_272 : decode cX5_give 272 = .ok (.iload_n 2, 1) := by decide +kernel
theorem dX5_give_273 : decode cX5_give 273 = .ok (.ifCond .lt 10, 3) := by decide +kernel
theorem dX5_give_276 : decode cX5_give 276 = .ok (.lload 7, 2) := by decide +kernel
theorem dX5_give_278 : decode cX5_give 278 = .ok (.lload_n 3, 1) := by decide +kernel
theorem dX5_give_279 : decode cX5_give 279 = .ok (.lcmp, 1) := by decide +kernel
theorem dX5_give_280 : decode cX5_give 280 = .ok (.ifCond .ge 9, 3) := by decide +kernel
theorem dX5_give_283 : decode cX5_give 283 = .ok (.iload 5, 2) := by decide +kernel
theorem dX5_give_285 : decode cX5_give 285 = .ok (.istore_n 2, 1) := by decide +kernel
theorem dX5_give_286 : decode cX5_give 286 = .ok (.lload 7, 2) := by decide +kernel
theorem dX5_give_288 : decode cX5_give 288 = .ok (.lstore_n 3, 1) := by decide +kernel
theorem dX5_give_289 : decode cX5_give 289 = .ok (.iinc 5 1, 3) := by decide +kernel
theorem dX5_give_292 : decode cX5_give 292 = .ok (.goto (-139), 3) := by decide +kernel
theorem dX5_give_295 : decode cX5_give 295 = .ok (.aload_n 0, 1) := by decide +kernel
theorem dX5_give_296 : decode cX5_give 296 = .ok (.iload_n 2, 1) := by decide +kernel
theorem dX5_give_297 : decode cX5_give 297 = .ok (.invokevirtual 149, 3) := by decide +kernel
theorem dX5_give_300 : decode cX5_give 300 = .ok (.iconst 0, 1) := by decide +kernel
theorem dX5_give_301 : decode cX5_give 301 = .ok (.istore 5, 2) := by decide +kernel
theorem dX5_give_303 : decode cX5_give 303 = .ok (.iload 5, 2) := by decide +kernel
theorem dX5_give_305 : decode cX5_give 305 = .ok (.iconst 4, 1) := by decide +kernel
theorem dX5_give_306 : decode cX5_give 306 = .ok (.if_icmp .ge 138, 3) := by decide +kernel
theorem dX5_give_309 : decode cX5_give 309 = .ok (.aload_n 0, 1) := by decide +kernel
theorem dX5_give_310 : decode cX5_give 310 = .ok (.getfield 62, 3) := by decide +kernel
theorem dX5_give_313 : decode cX5_give 313 = .ok (.iload 5, 2) := by decide +kernel
theorem dX5_give_315 : decode cX5_give 315 = .ok (.iconst 0, 1) := by decide +kernel
theorem dX5_give_316 : decode cX5_give 316 = .ok (.iastore, 1) := by decide +kernel
theorem dX5_give_317 : decode cX5_give 317 = .ok (.iload 5, 2) := by decide +kernel
theorem dX5_give_319 : decode cX5_give 319 = .ok (.aload_n 0, 1) := by decide +kernel
theorem dX5_give_320 : decode cX5_give 320 = .ok (.getfield 95, 3) := by decide +kernel
theorem dX5_give_323 : decode cX5_give 323 = .ok (.if_icmp .ge 115, 3) := by decide +kernel
theorem dX5_give_326 : decode cX5_give 326 = .ok (.bipush 64, 2) := by decide +kernel
theorem dX5_give_328 : decode cX5_give 328 = .ok (.iload 5, 2) := by decide +kernel
theorem dX5_give_330 : decode cX5_give 330 = .ok (.imul, 1) := by decide +kernel
theorem dX5_give_331 : decode cX5_give 331 = .ok (.aload_n 0, 1) := by decide +kernel
theorem dX5_give_332 : decode cX5_give 332 = .ok (.iload 5, 2) := by decide +kernel
theorem dX5_give_334 : decode cX5_give 334 = .ok (.invokevirtual 153, 3) := by decide +kernel
theorem dX5_give_337 : decode cX5_give 337 = .ok (.iadd, 1) := by decide +kernel
theorem dX5_give_338 : decode cX5_give 338 = .ok (.istore 6, 2) := by decide +kernel
theorem dX5_give_340 : decode cX5_give 340 = .ok (.iconst 0, 1) := by decide +kernel
theorem dX5_give_341 : decode cX5_give 341 = .ok (.istore 7, 2) := by decide +kernel
theorem dX5_give_343 : decode cX5_give 343 = .ok (.iconst 0, 1) := by decide +kernel
theorem dX5_give_344 : decode cX5_give 344 = .ok (.istore 8, 2) := by decide +kernel
theorem dX5_give_346 : decode cX5_give 346 = .ok (.iload 8, 2) := by decide +kernel
theorem dX5_give_348 : decode cX5_give 348 = .ok (.aload_n 0, 1) := by decide +kernel
theorem dX5_give_349 : decode cX5_give 349 = .ok (.getfield 130, 3) := by decide +kernel
theorem dX5_give_352 : decode cX5_give 352 = .ok (.if_icmp .ge 31, 3) := by decide +kernel
theorem dX5_give_355 : decode cX5_give 355 = .ok (.iload 7, 2) := by decide +kernel
theorem dX5_give_357 : decode cX5_give 357 = .ok (.aload_n 0, 1) := by decide +kernel
theorem dX5_give_358 : decode cX5_give 358 = .ok (.getfield 81, 3) := by decide +kernel
theorem dX5_give_361 : decode cX5_give 361 = .ok (.iload 8, 2) := by decide +kernel
theorem dX5_give_363 : decode cX5_give 363 = .ok (.iaload, 1) := by decide +kernel
theorem dX5_give_364 : decode cX5_give 364 = .ok (.iload 5, 2) := by decide +kernel
theorem dX5_give_366 : decode cX5_give 366 = .ok (.if_icmp .ne 7, 3) := by decide +kernel
theorem dX5_give_369 : decode cX5_give 369 = .ok (.iconst 1, 1) := by decide +kernel
theorem dX5_give_370 : decode cX5_give 370 = .ok (.goto 4, 3) := by decide +kernel
theorem dX5_give_373 : decode cX5_give 373 = .ok (.iconst 0, 1) := by decide +kernel
theorem dX5_give_374 : decode cX5_give 374 = .ok (.iadd, 1) := by decide +kernel
theorem dX5_give_375 : decode cX5_give 375 = .ok (.istore 7, 2) := by decide +kernel
theorem dX5_give_377 : decode cX5_give 377 = .ok (.iinc 8 1, 3) := by decide +kernel
theorem dX5_give_380 : decode cX5_give 380 = .ok (.goto (-34), 3) := by decide +kernel
theorem dX5_give_383 : decode cX5_give 383 = .ok (.iconst 0, 1) := by decide +kernel
theorem dX5_give_384 : decode cX5_give 384 = .ok (.istore 8, 2) := by decide +kernel
theorem dX5_give_386 : decode cX5_give 386 = .ok (.iload 8, 2) := by decide +kernel
theorem dX5_give_388 : decode cX5_give 388 = .ok (.iload 7, 2) := by decide +kernel
theorem dX5_give_390 : decode cX5_give 390 = .ok (.if_icmp .ge 29, 3) := by decide +kernel
theorem dX5_give_393 : decode cX5_give 393 = .ok (.aload_n 0, 1) := by decide +kernel
theorem dX5_give_394 : decode cX5_give 394 = .ok (.getfield 78, 3) := by decide +kernel
theorem dX5_give_397 : decode cX5_give 397 = .ok (.iload 8, 2) := by decide +kernel
theorem dX5_give_399 : decode cX5_give 399 = .ok (.aload_n 0, 1) := by decide +kernel
theorem dX5_give_400 : decode cX5_give 400 = .ok (.getfield 75, 3) := by decide +kernel
theorem dX5_give_403 : decode cX5_give 403 = .ok (.bipush 6, 2) := by decide +kernel
theorem dX5_give_405 : decode cX5_give 405 = .ok (.iload 6, 2) := by decide +kernel
theorem dX5_give_407 : decode cX5_give 407 = .ok (.imul, 1) := by decide +kernel
theorem dX5_give_408 : decode cX5_give 408 = .ok (.iload 8, 2) := by decide +kernel
theorem dX5_give_410 : decode cX5_give 410 = .ok (.iadd, 1) := by decide +kernel
theorem dX5_give_411 : decode cX5_give 411 = .ok (.iaload, 1) := by decide +kernel
theorem dX5_give_412 : decode cX5_give 412 = .ok (.iastore, 1) := by decide +kernel
theorem dX5_give_413 : decode cX5_give 413 = .ok (.iinc 8 1, 3) := by decide +kernel
theorem dX5_give_416 : decode cX5_give 416 = .ok (.goto (-30), 3) := by decide +kernel
theorem dX5_give_419 : decode cX5_give 419 = .ok (.aload_n 0, 1) := by decide +kernel
theorem dX5_give_420 : decode cX5_give 420 = .ok (.iload 5, 2) := by decide +kernel
theorem dX5_give_422 : decode cX5_give 422 = .ok (.iload 7, 2) := by decide +kernel
theorem dX5_give_424 : decode cX5_give 424 = .ok (.iconst 1, 1) := by decide +kernel
theorem dX5_give_425 : decode cX5_give 425 = .ok (.invokevirtual 135, 3) := by decide +kernel
theorem dX5_give_428 : decode cX5_give 428 = .ok (.pop2, 1) := by decide +kernel
theorem dX5_give_429 : decode cX5_give 429 = .ok (.aload_n 0, 1) := by decide +kernel
theorem dX5_give_430 : decode cX5_give 430 = .ok (.getfield 62, 3) := by decide +kernel
theorem dX5_give_433 : decode cX5_give 433 = .ok (.iload 5, 2) := by decide +kernel
theorem dX5_give_435 : decode cX5_give 435 = .ok (.iload 7, 2) := by decide +kernel
theorem dX5_give_437 : decode cX5_give 437 = .ok (.iastore, 1) := by decide +kernel
theorem dX5_give_438 : decode cX5_give 438 = .ok (.iinc 5 1, 3) := by decide +kernel
theorem dX5_give_441 : decode cX5_give 441 = .ok (.goto (-138), 3) := by decide +kernel
theorem dX5_give_444 : decode cX5_give 444 = .ok (.lload_n 3, 1) := by decide +kernel
theorem dX5_give_445 : decode cX5_give 445 = .ok (.lreturn, 1) := by decide +kernel
theorem dX5_deal_0 : decode cX5_deal 0 = .ok (.iload_n 1, 1) := by decide +kernel
theorem dX5_deal_1 : decode cX5_deal 1 = .ok (.istore_n 2, 1) := by decide +kernel
theorem dX5_deal_2 : decode cX5_deal 2 = .ok (.aload_n 0, 1) := by decide +kernel
theorem dX5_deal_3 : decode cX5_deal 3 = .ok (.getfield 130, 3) := by decide +kernel
theorem dX5_deal_6 : decode cX5_deal 6 = .ok (.iconst 1, 1) := by decide +kernel
theorem dX5_deal_7 : decode cX5_deal 7 = .ok (.isub, 1) := by decide +kernel
theorem dX5_deal_8 : decode cX5_deal 8 = .ok (.istore_n 3, 1) := by decide +kernel
theorem dX5_deal_9 : decode cX5_deal 9 = .ok (.iload_n 3, 1) := by decide +kernel
theorem dX5_deal_10 : decode cX5_deal 10 = .ok (.ifCond .lt 22, 3) := by decide +kernel
theorem dX5_deal_13 : decode cX5_deal 13 = .ok (.aload_n 0, 1) := by decide +kernel
theorem dX5_deal_14 : decode cX5_deal 14 = .ok (.getfield 81, 3) := by decide +kernel
theorem dX5_deal_17 : decode cX5_deal 17 = .ok (.iload_n 3, 1) := by decide +kernel
theorem dX5_deal_18 : decode cX5_deal 18 = .ok (.iload_n 2, 1) := by decide +kernel
theorem dX5_deal_19 : decode cX5_deal 19 = .ok (.iconst 4, 1) := by decide +kernel
theorem dX5_deal_20 : decode cX5_deal 20 = .ok (.irem, 1) := by decide +kernel
theorem dX5_deal_21 : decode cX5_deal 21 = .ok (.iastore, 1) := by decide +kernel
theorem dX5_deal_22 : decode cX5_deal 22 = .ok (.iload_n 2, 1) := by decide +kernel
theorem dX5_deal_23 : decode cX5_deal 23 = .ok (.iconst 4, 1) := by decide +kernel
theorem dX5_deal_24 : decode cX5_deal 24 = .ok (.idiv, 1) := by decide +kernel
theorem dX5_deal_25 : decode cX5_deal 25 = .ok (.istore_n 2, 1) := by decide +kernel
theorem dX5_deal_26 : decode cX5_deal 26 = .ok (.iinc 3 (-1), 3) := by decide +kernel
theorem dX5_deal_29 : decode cX5_deal 29 = .ok (.goto (-20), 3) := by decide +kernel
theorem dX5_deal_32 : decode cX5_deal 32 = .ok (.return_, 1) := by decide +kernel
theorem dX5_wasCall_0 : decode cX5_wasCall 0 = .ok (.aload_n 0, 1) := by decide +kernel
theorem dX5_wasCall_1 : decode cX5_wasCall 1 = .ok (.iload_n 1, 1) := by decide +kernel
theorem dX5_wasCall_2 : decode cX5_wasCall 2 = .ok (.iconst 0, 1) := by decide +kernel
theorem dX5_wasCall_3 : decode cX5_wasCall 3 = .ok (.aload_n 0, 1) := by decide +kernel
theorem dX5_wasCall_4 : decode cX5_wasCall 4 = .ok (.getfield 98, 3) := by decide +kernel
theorem dX5_wasCall_7 : decode cX5_wasCall 7 = .ok (.iconst 1, 1) := by decide +kernel
theorem dX5_wasCall_8 : decode cX5_wasCall 8 = .ok (.isub, 1) := by decide +kernel
theorem dX5_wasCall_9 : decode cX5_wasCall 9 = .ok (.invokestatic 91, 3) := by decide +kernel
theorem dX5_wasCall_12 : decode cX5_wasCall 12 = .ok (.ifCond .eq 7, 3) := by decide +kernel
theorem dX5_wasCall_15 : decode cX5_wasCall 15 = .ok (.iconst 0, 1) := by decide +kernel
theorem dX5_wasCall_16 : decode cX5_wasCall 16 = .ok (.goto 4, 3) := by decide +kernel
theorem dX5_wasCall_19 : decode cX5_wasCall 19 = .ok (.iconst 1, 1) := by decide +kernel
theorem dX5_wasCall_20 : decode cX5_wasCall 20 = .ok (.putfield 88, 3) := by decide +kernel
theorem dX5_wasCall_23 : decode cX5_wasCall 23 = .ok (.aload_n 0, 1) := by decide +kernel
theorem dX5_wasCall_24 : decode cX5_wasCall 24 = .ok (.getfield 88, 3) := by decide +kernel
theorem dX5_wasCall_27 : decode cX5_wasCall 27 = .ok (.ifCond .ne 7, 3) := by decide +kernel
theorem dX5_wasCall_30 : decode cX5_wasCall 30 = .ok (.iconst 1, 1) := by decide +kernel
theorem dX5_wasCall_31 : decode cX5_wasCall 31 = .ok (.goto 4, 3) := by decide +kernel
theorem dX5_wasCall_34 : decode cX5_wasCall 34 = .ok (.iconst 0, 1) := by decide +kernel
theorem dX5_wasCall_35 : decode cX5_wasCall 35 = .ok (.ireturn, 1) := by decide +kernel
theorem dX5_carOf_0 : decode cX5_carOf 0 = .ok (.aload_n 0, 1) := by decide +kernel
theorem dX5_carOf_1 : decode cX5_carOf 1 = .ok (.iload_n 1, 1) := by decide +kernel
theorem dX5_carOf_2 : decode cX5_carOf 2 = .ok (.invokevirtual 156, 3) := by decide +kernel
theorem dX5_carOf_5 : decode cX5_carOf 5 = .ok (.ifCond .eq 12, 3) := by decide +kernel
theorem dX5_carOf_8 : decode cX5_carOf 8 = .ok (.aload_n 0, 1) := by decide +kernel
theorem dX5_carOf_9 : decode cX5_carOf 9 = .ok (.getfield 47, 3) := by decide +kernel
theorem dX5_carOf_12 : decode cX5_carOf 12 = .ok (.iload_n 1, 1) := by decide +kernel
theorem dX5_carOf_13 : decode cX5_carOf 13 = .ok (.iaload, 1) := by decide +kernel
theorem dX5_carOf_14 : decode cX5_carOf 14 = .ok (.goto 4, 3) := by decide +kernel
theorem dX5_carOf_17 : decode cX5_carOf 17 = .ok (.iconst 0, 1) := by decide +kernel
theorem dX5_carOf_18 : decode cX5_carOf 18 = .ok (.ireturn, 1) := by decide +kernel
theorem dX5_turn_0 : decode cX5_turn 0 = .ok (.aload_n 0, 1) := by decide +kernel
theorem dX5_turn_1 : decode cX5_turn 1 = .ok (.aload_n 0, 1) := by decide +kernel
theorem dX5_turn_2 : decode cX5_turn 2 = .ok (.iload_n 1, 1) := by decide +kernel
theorem dX5_turn_3 : decode cX5_turn 3 = .ok (.invokevirtual 108, 3) := by decide +kernel
theorem dX5_turn_6 : decode cX5_turn 6 = .ok (.ifCond .eq 7, 3) := by decide +kernel
theorem dX5_turn_9 : decode cX5_turn 9 = .ok (.iload_n 2, 1) := by decide +kernel
theorem dX5_turn_10 : decode cX5_turn 10 = .ok (.ifCond .ge 7, 3) := by decide +kernel
theorem dX5_turn_13 : decode cX5_turn 13 = .ok (.iconst 1, 1) := by decide +kernel
theorem dX5_turn_14 : decode cX5_turn 14 = .ok (.goto 4, 3) := by decide +kernel
theorem dX5_turn_17 : decode cX5_turn 17 = .ok (.iconst 0, 1) := by decide +kernel
theorem dX5_turn_18 : decode cX5_turn 18 = .ok (.putfield 88, 3) := by decide +kernel
theorem dX5_turn_21 : decode cX5_turn 21 = .ok (.aload_n 0, 1) := by decide +kernel
theorem dX5_turn_22 : decode cX5_turn 22 = .ok (.getfield 88, 3) := by decide +kernel
theorem dX5_turn_25 : decode cX5_turn 25 = .ok (.ifCond .le 7, 3) := by decide +kernel
theorem dX5_turn_28 : decode cX5_turn 28 = .ok (.iconst 0, 1) := by decide +kernel
theorem dX5_turn_29 : decode cX5_turn 29 = .ok (.goto 28, 3) := by decide +kernel
theorem dX5_turn_32 : decode cX5_turn 32 = .ok (.iload_n 2, 1) := by decide +kernel
theorem dX5_turn_33 : decode cX5_turn 33 = .ok (.aload_n 0, 1) := by decide +kernel
theorem dX5_turn_34 : decode cX5_turn 34 = .ok (.getfield 62, 3) := by decide +kernel
theorem dX5_turn_37 : decode cX5_turn 37 = .ok (.iload_n 1, 1) := by decide +kernel
theorem dX5_turn_38 : decode cX5_turn 38 = .ok (.iaload, 1) := by decide +kernel
theorem dX5_turn_39 : decode cX5_turn 39 = .ok (.if_icmp .ge 17, 3) := by decide +kernel
theorem dX5_turn_42 : decode cX5_turn 42 = .ok (.aload_n 0, 1) := by decide +kernel
theorem dX5_turn_43 : decode cX5_turn 43 = .ok (.getfield 59, 3) := by decide +kernel
theorem dX5_turn_46 : decode cX5_turn 46 = .ok (.bipush 6, 2) := by decide +kernel
theorem dX5_turn_48 : decode cX5_turn 48 = .ok (.iload_n 1, 1) := by decide +kernel
theorem dX5_turn_49 : decode cX5_turn 49 = .ok (.imul, 1) := by decide +kernel
theorem dX5_turn_50 : decode cX5_turn 50 = .ok (.iload_n 2, 1) := by decide +kernel
theorem dX5_turn_51 : decode cX5_turn 51 = .ok (.iadd, 1) := by decide +kernel
theorem dX5_turn_52 : decode cX5_turn 52 = .ok (.iaload, 1) := by decide +kernel
theorem dX5_turn_53 : decode cX5_turn 53 = .ok (.goto 4, 3) := by decide +kernel
theorem dX5_turn_56 : decode cX5_turn 56 = .ok (.iconst (-1), 1) := by decide +kernel
theorem dX5_turn_57 : decode cX5_turn 57 = .ok (.ireturn, 1) := by decide +kernel
theorem dX5_told_0 : decode cX5_told 0 = .ok (.aload_n 0, 1) := by decide +kernel
theorem dX5_told_1 : decode cX5_told 1 = .ok (.iload_n 1, 1) := by decide +kernel
theorem dX5_told_2 : decode cX5_told 2 = .ok (.iconst 0, 1) := by decide +kernel
theorem dX5_told_3 : decode cX5_told 3 = .ok (.aload_n 0, 1) := by decide +kernel
theorem dX5_told_4 : decode cX5_told 4 = .ok (.getfield 98, 3) := by decide +kernel
theorem dX5_told_7 : decode cX5_told 7 = .ok (.iconst 1, 1) := by decide +kernel
theorem dX5_told_8 : decode cX5_told 8 = .ok (.isub, 1) := by decide +kernel
theorem dX5_told_9 : decode cX5_told 9 = .ok (.invokestatic 91, 3) := by decide +kernel
theorem dX5_told_12 : decode cX5_told 12 = .ok (.ifCond .eq 12, 3) := by decide +kernel
theorem dX5_told_15 : decode cX5_told 15 = .ok (.iload_n 2, 1) := by decide +kernel
theorem dX5_told_16 : decode cX5_told 16 = .ok (.iconst 0, 1) := by decide +kernel
theorem dX5_told_17 : decode cX5_told 17 = .ok (.iconst 2, 1) := by decide +kernel
theorem dX5_told_18 : decode cX5_told 18 = .ok (.invokestatic 91, 3) := by decide +kernel
theorem dX5_told_21 : decode cX5_told 21 = .ok (.ifCond .ne 7, 3) := by decide +kernel
theorem dX5_told_24 : decode cX5_told 24 = .ok (.iconst 1, 1) := by decide +kernel
theorem dX5_told_25 : decode cX5_told 25 = .ok (.goto 4, 3) := by decide +kernel
theorem dX5_told_28 : decode cX5_told 28 = .ok (.iconst 0, 1) := by decide +kernel
theorem dX5_told_29 : decode cX5_told 29 = .ok (.putfield 88, 3) := by decide +kernel
theorem dX5_told_32 : decode cX5_told 32 = .ok (.aload_n 0, 1) := by decide +kernel
theorem dX5_told_33 : decode cX5_told 33 = .ok (.getfield 88, 3) := by decide +kernel
theorem dX5_told_36 : decode cX5_told 36 = .ok (.ifCond .le 5, 3) := by decide +kernel
theorem dX5_told_39 : decode cX5_told 39 = .ok (.iconst 0, 1) := by decide +kernel
theorem dX5_told_40 : decode cX5_told 40 = .ok (.ireturn, 1) := by decide +kernel
theorem dX5_told_41 : decode cX5_told 41 = .ok (.aload_n 0, 1) := by decide +kernel
theorem dX5_told_42 : decode cX5_told 42 = .ok (.getfield 47, 3) := by decide +kernel
theorem dX5_told_45 : decode cX5_told 45 = .ok (.iload_n 1, 1) := by decide +kernel
theorem dX5_told_46 : decode cX5_told 46 = .ok (.iaload, 1) := by decide +kernel
theorem dX5_told_47 : decode cX5_told 47 = .ok (.iconst (-1), 1) := by decide +kernel
theorem dX5_told_48 : decode cX5_told 48 = .ok (.if_icmp .ne 7, 3) := by decide +kernel
theorem dX5_told_51 : decode cX5_told 51 = .ok (.iconst (-1), 1) := by decide +kernel
theorem dX5_told_52 : decode cX5_told 52 = .ok (.goto 36, 3) := by decide +kernel
theorem dX5_told_55 : decode cX5_told 55 = .ok (.iload_n 2, 1) := by decide +kernel
theorem dX5_told_56 : decode cX5_told 56 = .ok (.ifCond .ne 12, 3) := by decide +kernel
theorem dX5_told_59 : decode cX5_told 59 = .ok (.aload_n 0, 1) := by decide +kernel
theorem dX5_told_60 : decode cX5_told 60 = .ok (.getfield 50, 3) := by decide +kernel
theorem dX5_told_63 : decode cX5_told 63 = .ok (.iload_n 1, 1) := by decide +kernel
theorem dX5_told_64 : decode cX5_told 64 = .ok (.iaload, 1) := by decide +kernel
theorem dX5_told_65 : decode cX5_told 65 = .ok (.goto 23, 3) := by decide +kernel
theorem dX5_told_68 : decode cX5_told 68 = .ok (.iload_n 2, 1) := by decide +kernel
theorem dX5_told_69 : decode cX5_told 69 = .ok (.iconst 1, 1) := by decide +kernel
theorem dX5_told_70 : decode cX5_told 70 = .ok (.if_icmp .ne 12, 3) := by decide +kernel
theorem dX5_told_73 : decode cX5_told 73 = .ok (.aload_n 0, 1) := by decide +kernel
theorem dX5_told_74 : decode cX5_told 74 = .ok (.getfield 53, 3) := by decide +kernel
theorem dX5_told_77 : decode cX5_told 77 = .ok (.iload_n 1, 1) := by decide +kernel
theorem dX5_told_78 : decode cX5_told 78 = .ok (.iaload, 1) := by decide +kernel
theorem dX5_told_79 : decode cX5_told 79 = .ok (.goto 9, 3) := by decide +kernel
theorem dX5_told_82 : decode cX5_told 82 = .ok (.aload_n 0, 1) := by decide +kernel
theorem dX5_told_83 : decode cX5_told 83 = .ok (.getfield 56, 3) := by decide +kernel
theorem dX5_told_86 : decode cX5_told 86 = .ok (.iload_n 1, 1) := by decide +kernel
theorem dX5_told_87 : decode cX5_told 87 = .ok (.iaload, 1) := by decide +kernel
theorem dX5_told_88 : decode cX5_told 88 = .ok (.ireturn, 1) := by decide +kernel
theorem dX5_left_0 : decode cX5_left 0 = .ok (.aload_n 0, 1) := by decide +kernel
theorem dX5_left_1 : decode cX5_left 1 = .ok (.iconst 0, 1) := by decide +kernel
theorem dX5_left_2 : decode cX5_left 2 = .ok (.putfield 88, 3) := by decide +kernel
theorem dX5_left_5 : decode cX5_left 5 = .ok (.iconst 0, 1) := by decide +kernel
theorem dX5_left_6 : decode cX5_left 6 = .ok (.istore_n 1, 1) := by decide +kernel
theorem dX5_left_7 : decode cX5_left 7 = .ok (.iconst 0, 1) := by decide +kernel
theorem dX5_left_8 : decode cX5_left 8 = .ok (.istore_n 2, 1) := by decide +kernel
theorem dX5_left_9 : decode cX5_left 9 = .ok (.iload_n 2, 1) := by decide +kernel
theorem dX5_left_10 : decode cX5_left 10 = .ok (.aload_n 0, 1) := by decide +kernel
theorem dX5_left_11 : decode cX5_left 11 = .ok (.getfield 98, 3) := by decide +kernel
theorem dX5_left_14 : decode cX5_left 14 = .ok (.if_icmp .ge 34, 3) := by decide +kernel
theorem dX5_left_17 : decode cX5_left 17 = .ok (.iload_n 1, 1) := by decide +kernel
theorem dX5_left_18 : decode cX5_left 18 = .ok (.aload_n 0, 1) := by decide +kernel
theorem dX5_left_19 : decode cX5_left 19 = .ok (.getfield 38, 3) := by decide +kernel
theorem dX5_left_22 : decode cX5_left 22 = .ok (.iload_n 2, 1) := by decide +kernel
theorem dX5_left_23 : decode cX5_left 23 = .ok (.baload, 1) := by decide +kernel
theorem dX5_left_24 : decode cX5_left 24 = .ok (.ifCond .eq 15, 3) := by decide +kernel
theorem dX5_left_27 : decode cX5_left 27 = .ok (.aload_n 0, 1) := by decide +kernel
theorem dX5_left_28 : decode cX5_left 28 = .ok (.iload_n 2, 1) := by decide +kernel
theorem dX5_left_29 : decode cX5_left 29 = .ok (.invokevirtual 142, 3) := by decide +kernel
theorem dX5_left_32 : decode cX5_left 32 = .ok (.ifCond .ne 7, 3) := by decide +kernel
theorem dX5_left_35 : decode cX5_left 35 = .ok (.iconst 1, 1) := by decide +kernel
theorem dX5_left_36 : decode cX5_left 36 = .ok (.goto 4, 3) := by decide +kernel
theorem dX5_left_39 : decode cX5_left 39 = .ok (.iconst 0, 1) := by decide +kernel
theorem dX5_left_40 : decode cX5_left 40 = .ok (.iadd, 1) := by decide +kernel
theorem dX5_left_41 : decode cX5_left 41 = .ok (.istore_n 1, 1) := by decide +kernel
theorem dX5_left_42 : decode cX5_left 42 = .ok (.iinc 2 1, 3) := by decide +kernel
theorem dX5_left_45 : decode cX5_left 45 = .ok (.goto (-36), 3) := by decide +kernel
theorem dX5_left_48 : decode cX5_left 48 = .ok (.iload_n 1, 1) := by decide +kernel
theorem dX5_left_49 : decode cX5_left 49 = .ok (.ireturn, 1) := by decide +kernel
theorem dX5_cars_0 : decode cX5_cars 0 = .ok (.aload_n 0, 1) := by decide +kernel
theorem dX5_cars_1 : decode cX5_cars 1 = .ok (.aload_n 0, 1) := by decide +kernel
theorem dX5_cars_2 : decode cX5_cars 2 = .ok (.iload_n 1, 1) := by decide +kernel
theorem dX5_cars_3 : decode cX5_cars 3 = .ok (.invokevirtual 115, 3) := by decide +kernel
theorem dX5_cars_6 : decode cX5_cars 6 = .ok (.ifCond .eq 7, 3) := by decide +kernel
theorem dX5_cars_9 : decode cX5_cars 9 = .ok (.iconst 0, 1) := by decide +kernel
theorem dX5_cars_10 : decode cX5_cars 10 = .ok (.goto 4, 3) := by decide +kernel
theorem dX5_cars_13 : decode cX5_cars 13 = .ok (.iconst 1, 1) := by decide +kernel
theorem dX5_cars_14 : decode cX5_cars 14 = .ok (.putfield 88, 3) := by decide +kernel
theorem dX5_cars_17 : decode cX5_cars 17 = .ok (.aload_n 0, 1) := by decide +kernel
theorem dX5_cars_18 : decode cX5_cars 18 = .ok (.getfield 88, 3) := by decide +kernel
theorem dX5_cars_21 : decode cX5_cars 21 = .ok (.ifCond .le 7, 3) := by decide +kernel
theorem dX5_cars_24 : decode cX5_cars 24 = .ok (.iconst 0, 1) := by decide +kernel
theorem dX5_cars_25 : decode cX5_cars 25 = .ok (.goto 8, 3) := by decide +kernel
theorem dX5_cars_28 : decode cX5_cars 28 = .ok (.aload_n 0, 1) := by decide +kernel
theorem dX5_cars_29 : decode cX5_cars 29 = .ok (.iload_n 1, 1) := by decide +kernel
theorem dX5_cars_30 : decode cX5_cars 30 = .ok (.invokevirtual 142, 3) := by decide +kernel
theorem dX5_cars_33 : decode cX5_cars 33 = .ok (.ireturn, 1) := by decide +kernel
theorem dX5_open_0 : decode cX5_open 0 = .ok (.aload_n 0, 1) := by decide +kernel
theorem dX5_open_1 : decode cX5_open 1 = .ok (.iconst 0, 1) := by decide +kernel
theorem dX5_open_2 : decode cX5_open 2 = .ok (.putfield 88, 3) := by decide +kernel
theorem dX5_open_5 : decode cX5_open 5 = .ok (.aload_n 0, 1) := by decide +kernel
theorem dX5_open_6 : decode cX5_open 6 = .ok (.getfield 112, 3) := by decide +kernel
theorem dX5_open_9 : decode cX5_open 9 = .ok (.ireturn, 1) := by decide +kernel
theorem dX5_weight_0 : decode cX5_weight 0 = .ok (.aload_n 0, 1) := by decide +kernel
theorem dX5_weight_1 : decode cX5_weight 1 = .ok (.aload_n 0, 1) := by decide +kernel
theorem dX5_weight_2 : decode cX5_weight 2 = .ok (.iload_n 1, 1) := by decide +kernel
theorem dX5_weight_3 : decode cX5_weight 3 = .ok (.invokevirtual 115, 3) := by decide +kernel
theorem dX5_weight_6 : decode cX5_weight 6 = .ok (.ifCond .eq 7, 3) := by decide +kernel
theorem dX5_weight_9 : decode cX5_weight 9 = .ok (.iconst 0, 1) := by decide +kernel
theorem dX5_weight_10 : decode cX5_weight 10 = .ok (.goto 4, 3) := by decide +kernel
theorem dX5_weight_13 : decode cX5_weight 13 = .ok (.iconst 1, 1) := by decide +kernel
theorem dX5_weight_14 : decode cX5_weight 14 = .ok (.putfield 88, 3) := by decide +kernel
theorem dX5_weight_17 : decode cX5_weight 17 = .ok (.aload_n 0, 1) := by decide +kernel
theorem dX5_weight_18 : decode cX5_weight 18 = .ok (.getfield 88, 3) := by decide +kernel
theorem dX5_weight_21 : decode cX5_weight 21 = .ok (.ifCond .le 7, 3) := by decide +kernel
theorem dX5_weight_24 : decode cX5_weight 24 = .ok (.iconst 0, 1) := by decide +kernel
theorem dX5_weight_25 : decode cX5_weight 25 = .ok (.goto 8, 3) := by decide +kernel
theorem dX5_weight_28 : decode cX5_weight 28 = .ok (.aload_n 0, 1) := by decide +kernel
theorem dX5_weight_29 : decode cX5_weight 29 = .ok (.iload_n 1, 1) := by decide +kernel
theorem dX5_weight_30 : decode cX5_weight 30 = .ok (.invokevirtual 126, 3) := by decide +kernel
theorem dX5_weight_33 : decode cX5_weight 33 = .ok (.ireturn, 1) := by decide +kernel
