theorem dL_below_0 : decode cL_below 0 = .ok (.iload_n 0, 1) := by decide +kernel
theorem dL_below_1 : decode cL_below 1 = .ok (.ldc 7, 2) := by decide +kernel
theorem dL_below_3 : decode cL_below 3 = .ok (.iand, 1) := by decide +kernel
theorem dL_below_4 : decode cL_below 4 = .ok (.iload_n 1, 1) := by decide +kernel
theorem dL_below_5 : decode cL_below 5 = .ok (.irem, 1) := by decide +kernel
theorem dL_below_6 : decode cL_below 6 = .ok (.ireturn, 1) := by decide +kernel
theorem dL_cell_0 : decode cL_cell 0 = .ok (.iload_n 1, 1) := by decide +kernel
theorem dL_cell_1 : decode cL_cell 1 = .ok (.aload_n 0, 1) := by decide +kernel
theorem dL_cell_2 : decode cL_cell 2 = .ok (.arraylength, 1) := by decide +kernel
theorem dL_cell_3 : decode cL_cell 3 = .ok (.if_icmp .ge 9, 3) := by decide +kernel
theorem dL_cell_6 : decode cL_cell 6 = .ok (.aload_n 0, 1) := by decide +kernel
theorem dL_cell_7 : decode cL_cell 7 = .ok (.iload_n 1, 1) := by decide +kernel
theorem dL_cell_8 : decode cL_cell 8 = .ok (.iaload, 1) := by decide +kernel
theorem dL_cell_9 : decode cL_cell 9 = .ok (.goto 9, 3) := by decide +kernel
theorem dL_cell_12 : decode cL_cell 12 = .ok (.ldc 8, 2) := by decide +kernel
theorem dL_cell_14 : decode cL_cell 14 = .ok (.iload_n 1, 1) := by decide +kernel
theorem dL_cell_15 : decode cL_cell 15 = .ok (.iconst 3, 1) := by decide +kernel
theorem dL_cell_16 : decode cL_cell 16 = .ok (.iadd, 1) := by decide +kernel
theorem dL_cell_17 : decode cL_cell 17 = .ok (.imul, 1) := by decide +kernel
theorem dL_cell_18 : decode cL_cell 18 = .ok (.ireturn, 1) := by decide +kernel
theorem dL_bridge_0 : decode cL_bridge 0 = .ok (.new 9, 3) := by decide +kernel
theorem dL_bridge_3 : decode cL_bridge 3 = .ok (.dup, 1) := by decide +kernel
theorem dL_bridge_4 : decode cL_bridge 4 = .ok (.invokespecial 11, 3) := by decide +kernel
theorem dL_bridge_7 : decode cL_bridge 7 = .ok (.astore_n 1, 1) := by decide +kernel
theorem dL_bridge_8 : decode cL_bridge 8 = .ok (.aload_n 1, 1) := by decide +kernel
theorem dL_bridge_9 : decode cL_bridge 9 = .ok (.iconst 4, 1) := by decide +kernel
theorem dL_bridge_10 : decode cL_bridge 10 = .ok (.aload_n 0, 1) := by decide +kernel
theorem dL_bridge_11 : decode cL_bridge 11 = .ok (.iconst 0, 1) := by decide +kernel
theorem dL_bridge_12 : decode cL_bridge 12 = .ok (.invokestatic 12, 3) := by decide +kernel
theorem dL_bridge_15 : decode cL_bridge 15 = .ok (.aload_n 0, 1) := by decide +kernel
theorem dL_bridge_16 : decode cL_bridge 16 = .ok (.iconst 0, 1) := by decide +kernel
theorem dL_bridge_17 : decode cL_bridge 17 = .ok (.invokestatic 12, 3) := by decide +kernel
theorem dL_bridge_20 : decode cL_bridge 20 = .ok (.bipush 8, 2) := by decide +kernel
theorem dL_bridge_22 : decode cL_bridge 22 = .ok (.ishr, 1) := by decide +kernel
theorem dL_bridge_23 : decode cL_bridge 23 = .ok (.iconst 2, 1) := by decide +kernel
theorem dL_bridge_24 : decode cL_bridge 24 = .ok (.invokestatic 18, 3) := by decide +kernel
theorem dL_bridge_27 : decode cL_bridge 27 = .ok (.ifCond .ne 8, 3) := by decide +kernel
theorem dL_bridge_30 : decode cL_bridge 30 = .ok (.bipush 27, 2) := by decide +kernel
theorem dL_bridge_32 : decode cL_bridge 32 = .ok (.goto 5, 3) := by decide +kernel
theorem dL_bridge_35 : decode cL_bridge 35 = .ok (.bipush 7, 2) := by decide +kernel
theorem dL_bridge_37 : decode cL_bridge 37 = .ok (.invokestatic 18, 3) := by decide +kernel
theorem dL_bridge_40 : decode cL_bridge 40 = .ok (.iadd, 1) := by decide +kernel
theorem dL_bridge_41 : decode cL_bridge 41 = .ok (.aload_n 0, 1) := by decide +kernel
theorem dL_bridge_42 : decode cL_bridge 42 = .ok (.iconst 1, 1) := by decide +kernel
theorem dL_bridge_43 : decode cL_bridge 43 = .ok (.invokestatic 12, 3) := by decide +kernel
theorem dL_bridge_46 : decode cL_bridge 46 = .ok (.iconst 2, 1) := by decide +kernel
theorem dL_bridge_47 : decode cL_bridge 47 = .ok (.invokestatic 18, 3) := by decide +kernel
theorem dL_bridge_50 : decode cL_bridge 50 = .ok (.ifCond .ne 9, 3) := by decide +kernel
theorem dL_bridge_53 : decode cL_bridge 53 = .ok (.sipush 500, 3) := by decide +kernel
theorem dL_bridge_56 : decode cL_bridge 56 = .ok (.goto 19, 3) := by decide +kernel
theorem dL_bridge_59 : decode cL_bridge 59 = .ok (.bipush 60, 2) := by decide +kernel
theorem dL_bridge_61 : decode cL_bridge 61 = .ok (.aload_n 0, 1) := by decide +kernel
theorem dL_bridge_62 : decode cL_bridge 62 = .ok (.iconst 1, 1) := by decide +kernel
theorem dL_bridge_63 : decode cL_bridge 63 = .ok (.invokestatic 12, 3) := by decide +kernel
theorem dL_bridge_66 : decode cL_bridge 66 = .ok (.iconst 3, 1) := by decide +kernel
theorem dL_bridge_67 : decode cL_bridge 67 = .ok (.ishr, 1) := by decide +kernel
theorem dL_bridge_68 : decode cL_bridge 68 = .ok (.sipush 300, 3) := by decide +kernel
theorem dL_bridge_71 : decode cL_bridge 71 = .ok (.invokestatic 18, 3) := by decide +kernel
theorem dL_bridge_74 : decode cL_bridge 74 = .ok (.iadd, 1) := by decide +kernel
theorem dL_bridge_75 : decode cL_bridge 75 = .ok (.invokevirtual 22, 3) := by decide +kernel
theorem dL_bridge_78 : decode cL_bridge 78 = .ok (.pop, 1) := by decide +kernel
theorem dL_bridge_79 : decode cL_bridge 79 = .ok (.aload_n 1, 1) := by decide +kernel
theorem dL_bridge_80 : decode cL_bridge 80 = .ok (.aload_n 0, 1) := by decide +kernel
theorem dL_bridge_81 : decode cL_bridge 81 = .ok (.iconst 2, 1) := by decide +kernel
theorem dL_bridge_82 : decode cL_bridge 82 = .ok (.invokestatic 12, 3) := by decide +kernel
theorem dL_bridge_85 : decode cL_bridge 85 = .ok (.bipush 10, 2) := by decide +kernel
theorem dL_bridge_87 : decode cL_bridge 87 = .ok (.invokestatic 18, 3) := by decide +kernel
theorem dL_bridge_90 : decode cL_bridge 90 = .ok (.aload_n 0, 1) := by decide +kernel
theorem dL_bridge_91 : decode cL_bridge 91 = .ok (.iconst 2, 1) := by decide +kernel
theorem dL_bridge_92 : decode cL_bridge 92 = .ok (.invokestatic 12, 3) := by decide +kernel
theorem dL_bridge_95 : decode cL_bridge 95 = .ok (.iconst 4, 1) := by decide +kernel
theorem dL_bridge_96 : decode cL_bridge 96 = .ok (.ishr, 1) := by decide +kernel
theorem dL_bridge_97 : decode cL_bridge 97 = .ok (.iconst 4, 1) := by decide +kernel
theorem dL_bridge_98 : decode cL_bridge 98 = .ok (.invokestatic 18, 3) := by decide +kernel
theorem dL_bridge_101 : decode cL_bridge 101 = .ok (.invokevirtual 25, 3) := by decide +kernel
theorem dL_bridge_104 : decode cL_bridge 104 = .ok (.pop, 1) := by decide +kernel
theorem dL_bridge_105 : decode cL_bridge 105 = .ok (.iconst 1, 1) := by decide +kernel
theorem dL_bridge_106 : decode cL_bridge 106 = .ok (.aload_n 0, 1) := by decide +kernel
theorem dL_bridge_107 : decode cL_bridge 107 = .ok (.iconst 3, 1) := by decide +kernel
theorem dL_bridge_108 : decode cL_bridge 108 = .ok (.invokestatic 12, 3) := by decide +kernel
theorem dL_bridge_111 : decode cL_bridge 111 = .ok (.bipush 16, 2) := by decide +kernel
theorem dL_bridge_113 : decode cL_bridge 113 = .ok (.invokestatic 18, 3) := by decide +kernel
theorem dL_bridge_116 : decode cL_bridge 116 = .ok (.iadd, 1) := by decide +kernel
theorem dL_bridge_117 : decode cL_bridge 117 = .ok (.istore_n 2, 1) := by decide +kernel
theorem dL_bridge_118 : decode cL_bridge 118 = .ok (.iconst 0, 1) := by decide +kernel
theorem dL_bridge_119 : decode cL_bridge 119 = .ok (.istore_n 3, 1) := by decide +kernel
theorem dL_bridge_120 : decode cL_bridge 120 = .ok (.iload_n 3, 1) := by decide +kernel
theorem dL_bridge_121 : decode cL_bridge 121 = .ok (.iload_n 2, 1) := by decide +kernel
theorem dL_bridge_122 : decode cL_bridge 122 = .ok (.if_icmp .ge 111, 3) := by decide +kernel
theorem dL_bridge_125 : decode cL_bridge 125 = .ok (.aload_n 0, 1) := by decide +kernel
theorem dL_bridge_126 : decode cL_bridge 126 = .ok (.iconst 4, 1) := by decide +kernel
theorem dL_bridge_127 : decode cL_bridge 127 = .ok (.iload_n 3, 1) := by decide +kernel
theorem dL_bridge_128 : decode cL_bridge 128 = .ok (.iconst 5, 1) := by decide +kernel
theorem dL_bridge_129 : decode cL_bridge 129 = .ok (.irem, 1) := by decide +kernel
theorem dL_bridge_130 : decode cL_bridge 130 = .ok (.iadd, 1) := by decide +kernel
theorem dL_bridge_131 : decode cL_bridge 131 = .ok (.invokestatic 12, 3) := by decide +kernel
theorem dL_bridge_134 : decode cL_bridge 134 = .ok (.iload_n 3, 1) := by decide +kernel
theorem dL_bridge_135 : decode cL_bridge 135 = .ok (.iconst 5, 1) := by decide +kernel
theorem dL_bridge_136 : decode cL_bridge 136 = .ok (.idiv, 1) := by decide +kernel
theorem dL_bridge_137 : decode cL_bridge 137 = .ok (.iconst 5, 1) := by decide +kernel
theorem dL_bridge_138 : decode cL_bridge 138 = .ok (.imul, 1) := by decide +kernel
theorem dL_bridge_139 : decode cL_bridge 139 = .ok (.ishr, 1) := by decide +kernel
theorem dL_bridge_140 : decode cL_bridge 140 = .ok (.istore 4, 2) := by decide +kernel
theorem dL_bridge_142 : decode cL_bridge 142 = .ok (.aload_n 1, 1) := by decide +kernel
theorem dL_bridge_143 : decode cL_bridge 143 = .ok (.iload 4, 2) := by decide +kernel
theorem dL_bridge_145 : decode cL_bridge 145 = .ok (.iconst 2, 1) := by decide +kernel
theorem dL_bridge_146 : decode cL_bridge 146 = .ok (.invokestatic 18, 3) := by decide +kernel
theorem dL_bridge_149 : decode cL_bridge 149 = .ok (.iconst 1, 1) := by decide +kernel
theorem dL_bridge_150 : decode cL_bridge 150 = .ok (.iload 4, 2) := by decide +kernel
theorem dL_bridge_152 : decode cL_bridge 152 = .ok (.iconst 1, 1) := by decide +kernel
theorem dL_bridge_153 : decode cL_bridge 153 = .ok (.ishr, 1) := by decide +kernel
theorem dL_bridge_154 : decode cL_bridge 154 = .ok (.iconst 4, 1) := by decide +kernel
theorem dL_bridge_155 : decode cL_bridge 155 = .ok (.invokestatic 18, 3) := by decide +kernel
theorem dL_bridge_158 : decode cL_bridge 158 = .ok (.iadd, 1) := by decide +kernel
theorem dL_bridge_159 : decode cL_bridge 159 = .ok (.iconst 1, 1) := by decide +kernel
theorem dL_bridge_160 : decode cL_bridge 160 = .ok (.iload 4, 2) := by decide +kernel
theorem dL_bridge_162 : decode cL_bridge 162 = .ok (.iconst 3, 1) := by decide +kernel
theorem dL_bridge_163 : decode cL_bridge 163 = .ok (.ishr, 1) := by decide +kernel
theorem dL_bridge_164 : decode cL_bridge 164 = .ok (.sipush 200, 3) := by decide +kernel
theorem dL_bridge_167 : decode cL_bridge 167 = .ok (.invokestatic 18, 3) := by decide +kernel
theorem dL_bridge_170 : decode cL_bridge 170 = .ok (.iadd, 1) := by decide +kernel
theorem dL_bridge_171 : decode cL_bridge 171 = .ok (.iconst 1, 1) := by decide +kernel
theorem dL_bridge_172 : decode cL_bridge 172 = .ok (.iload 4, 2) := by decide +kernel
theorem dL_bridge_174 : decode cL_bridge 174 = .ok (.iconst 5, 1) := by decide +kernel
theorem dL_bridge_175 : decode cL_bridge 175 = .ok (.ishr, 1) := by decide +kernel
theorem dL_bridge_176 : decode cL_bridge 176 = .ok (.iconst 3, 1) := by decide +kernel
theorem dL_bridge_177 : decode cL_bridge 177 = .ok (.invokestatic 18, 3) := by decide +kernel
theorem dL_bridge_180 : decode cL_bridge 180 = .ok (.iadd, 1) := by decide +kernel
theorem dL_bridge_181 : decode cL_bridge 181 = .ok (.iload 4, 2) := by decide +kernel
theorem dL_bridge_183 : decode cL_bridge 183 = .ok (.iconst 4, 1) := by decide +kernel
theorem dL_bridge_184 : decode cL_bridge 184 = .ok (.ishr, 1) := by decide +kernel
theorem dL_bridge_185 : decode cL_bridge 185 = .ok (.iconst 4, 1) := by decide +kernel
theorem dL_bridge_186 : decode cL_bridge 186 = .ok (.invokestatic 18, 3) := by decide +kernel
theorem dL_bridge_189 : decode cL_bridge 189 = .ok (.ifCond .le 8, 3) := by decide +kernel
theorem dL_bridge_192 : decode cL_bridge 192 = .ok (.bipush 100, 2) := by decide +kernel
theorem dL_bridge_194 : decode cL_bridge 194 = .ok (.goto 13, 3) := by decide +kernel
theorem dL_bridge_197 : decode cL_bridge 197 = .ok (.iload 4, 2) := by decide +kernel
theorem dL_bridge_199 : decode cL_bridge 199 = .ok (.bipush 6, 2) := by decide +kernel
theorem dL_bridge_201 : decode cL_bridge 201 = .ok (.ishr, 1) := by decide +kernel
theorem dL_bridge_202 : decode cL_bridge 202 = .ok (.bipush 60, 2) := by decide +kernel
theorem dL_bridge_204 : decode cL_bridge 204 = .ok (.invokestatic 18, 3) := by decide +kernel
theorem dL_bridge_207 : decode cL_bridge 207 = .ok (.iload 4, 2) := by decide +kernel
theorem dL_bridge_209 : decode cL_bridge 209 = .ok (.iconst 2, 1) := by decide +kernel
theorem dL_bridge_210 : decode cL_bridge 210 = .ok (.ishr, 1) := by decide +kernel
theorem dL_bridge_211 : decode cL_bridge 211 = .ok (.iconst 3, 1) := by decide +kernel
theorem dL_bridge_212 : decode cL_bridge 212 = .ok (.invokestatic 18, 3) := by decide +kernel
theorem dL_bridge_215 : decode cL_bridge 215 = .ok (.ifCond .ne 7, 3) := by decide +kernel
theorem dL_bridge_218 : decode cL_bridge 218 = .ok (.iconst 1, 1) := by decide +kernel
theorem dL_bridge_219 : decode cL_bridge 219 = .ok (.goto 4, 3) := by decide +kernel
theorem dL_bridge_222 : decode cL_bridge 222 = .ok (.iconst 0, 1) := by decide +kernel
theorem dL_bridge_223 : decode cL_bridge 223 = .ok (.invokevirtual 28, 3) := by decide +kernel
theorem dL_bridge_226 : decode cL_bridge 226 = .ok (.pop, 1) := by decide +kernel
theorem dL_bridge_227 : decode cL_bridge 227 = .ok (.iinc 3 1, 3) := by decide +kernel
theorem dL_bridge_230 : decode cL_bridge 230 = .ok (.goto (-110), 3) := by decide +kernel
theorem dL_bridge_233 : decode cL_bridge 233 = .ok (.aload_n 1, 1) := by decide +kernel
theorem dL_bridge_234 : decode cL_bridge 234 = .ok (.areturn, 1) := by decide +kernel
theorem dL_law_0 : decode cL_law 0 = .ok (.aload_n 0, 1) := by decide +kernel
theorem dL_law_1 : decode cL_law 1 = .ok (.invokestatic 32, 3) := by decide +kernel
theorem dL_law_4 : decode cL_law 4 = .ok (.astore_n 1, 1) := by decide +kernel
theorem dL_law_5 : decode cL_law 5 = .ok (.aload_n 1, 1) := by decide +kernel
theorem dL_law_6 : decode cL_law 6 = .ok (.iconst 2, 1) := by decide +kernel
theorem dL_law_7 : decode cL_law 7 = .ok (.invokevirtual 36, 3) := by decide +kernel
theorem dL_law_10 : decode cL_law 10 = .ok (.istore_n 2, 1) := by decide +kernel
theorem dL_law_11 : decode cL_law 11 = .ok (.aload_n 1, 1) := by decide +kernel
theorem dL_law_12 : decode cL_law 12 = .ok (.bipush 9, 2) := by decide +kernel
theorem dL_law_14 : decode cL_law 14 = .ok (.invokevirtual 36, 3) := by decide +kernel
theorem dL_law_17 : decode cL_law 17 = .ok (.istore_n 3, 1) := by decide +kernel
theorem dL_law_18 : decode cL_law 18 = .ok (.aload_n 1, 1) := by decide +kernel
theorem dL_law_19 : decode cL_law 19 = .ok (.bipush 10, 2) := by decide +kernel
theorem dL_law_21 : decode cL_law 21 = .ok (.invokevirtual 36, 3) := by decide +kernel
theorem dL_law_24 : decode cL_law 24 = .ok (.istore 4, 2) := by decide +kernel
theorem dL_law_26 : decode cL_law 26 = .ok (.bipush 16, 2) := by decide +kernel
theorem dL_law_28 : decode cL_law 28 = .ok (.newarray .int, 2) := by decide +kernel
theorem dL_law_30 : decode cL_law 30 = .ok (.astore 5, 2) := by decide +kernel
theorem dL_law_32 : decode cL_law 32 = .ok (.iconst 0, 1) := by decide +kernel
theorem dL_law_33 : decode cL_law 33 = .ok (.istore 6, 2) := by decide +kernel
theorem dL_law_35 : decode cL_law 35 = .ok (.iconst 0, 1) := by decide +kernel
theorem dL_law_36 : decode cL_law 36 = .ok (.istore 7, 2) := by decide +kernel
theorem dL_law_38 : decode cL_law 38 = .ok (.iload 7, 2) := by decide +kernel
theorem dL_law_40 : decode cL_law 40 = .ok (.iload_n 2, 1) := by decide +kernel
theorem dL_law_41 : decode cL_law 41 = .ok (.if_icmp .ge 31, 3) := by decide +kernel
theorem dL_law_44 : decode cL_law 44 = .ok (.aload 5, 2) := by decide +kernel
theorem dL_law_46 : decode cL_law 46 = .ok (.iload 7, 2) := by decide +kernel
theorem dL_law_48 : decode cL_law 48 = .ok (.aload_n 1, 1) := by decide +kernel
theorem dL_law_49 : decode cL_law 49 = .ok (.iload 7, 2) := by decide +kernel
theorem dL_law_51 : decode cL_law 51 = .ok (.iconst 3, 1) := by decide +kernel
theorem dL_law_52 : decode cL_law 52 = .ok (.invokevirtual 40, 3) := by decide +kernel
theorem dL_law_55 : decode cL_law 55 = .ok (.iastore, 1) := by decide +kernel
theorem dL_law_56 : decode cL_law 56 = .ok (.iload 6, 2) := by decide +kernel
theorem dL_law_58 : decode cL_law 58 = .ok (.aload 5, 2) := by decide +kernel
theorem dL_law_60 : decode cL_law 60 = .ok (.iload 7, 2) := by decide +kernel
theorem dL_law_62 : decode cL_law 62 = .ok (.iaload, 1) := by decide +kernel
theorem dL_law_63 : decode cL_law 63 = .ok (.iadd, 1) := by decide +kernel
theorem dL_law_64 : decode cL_law 64 = .ok (.istore 6, 2) := by decide +kernel
theorem dL_law_66 : decode cL_law 66 = .ok (.iinc 7 1, 3) := by decide +kernel
theorem dL_law_69 : decode cL_law 69 = .ok (.goto (-31), 3) := by decide +kernel
theorem dL_law_72 : decode cL_law 72 = .ok (.bipush 16, 2) := by decide +kernel
theorem dL_law_74 : decode cL_law 74 = .ok (.newarray .int, 2) := by decide +kernel
theorem dL_law_76 : decode cL_law 76 = .ok (.astore 7, 2) := by decide +kernel
theorem dL_law_78 : decode cL_law 78 = .ok (.aload 5, 2) := by decide +kernel
theorem dL_law_80 : decode cL_law 80 = .ok (.invokevirtual 43, 3) := by decide +kernel
theorem dL_law_83 : decode cL_law 83 = .ok (.checkcast 44, 3) := by decide +kernel
theorem dL_law_86 : decode cL_law 86 = .ok (.astore 8, 2) := by decide +kernel
theorem dL_law_88 : decode cL_law 88 = .ok (.iconst 0, 1) := by decide +kernel
theorem dL_law_89 : decode cL_law 89 = .ok (.istore 9, 2) := by decide +kernel
theorem dL_law_91 : decode cL_law 91 = .ok (.iconst 0, 1) := by decide +kernel
theorem dL_law_92 : decode cL_law 92 = .ok (.istore 10, 2) := by decide +kernel
theorem dL_law_94 : decode cL_law 94 = .ok (.iload 10, 2) := by decide +kernel
theorem dL_law_96 : decode cL_law 96 = .ok (.bipush 40, 2) := by decide +kernel
theorem dL_law_98 : decode cL_law 98 = .ok (.if_icmp .ge 992, 3) := by decide +kernel
theorem dL_law_101 : decode cL_law 101 = .ok (.aload_n 0, 1) := by decide +kernel
theorem dL_law_102 : decode cL_law 102 = .ok (.iload 10, 2) := by decide +kernel
theorem dL_law_104 : decode cL_law 104 = .ok (.bipush 16, 2) := by decide +kernel
theorem dL_law_106 : decode cL_law 106 = .ok (.irem, 1) := by decide +kernel
theorem dL_law_107 : decode cL_law 107 = .ok (.invokestatic 12, 3) := by decide +kernel
theorem dL_law_110 : decode cL_law 110 = .ok (.iload 10, 2) := by decide +kernel
theorem dL_law_112 : decode cL_law 112 = .ok (.bipush 16, 2) := by decide +kernel
theorem dL_law_114 : decode cL_law 114 = .ok (.idiv, 1) := by decide +kernel
theorem dL_law_115 : decode cL_law 115 = .ok (.bipush 6, 2) := by decide +kernel
theorem dL_law_117 : decode cL_law 117 = .ok (.imul, 1) := by decide +kernel
theorem dL_law_118 : decode cL_law 118 = .ok (.ishr, 1) := by decide +kernel
theorem dL_law_119 : decode cL_law 119 = .ok (.istore 11, 2) := by decide +kernel
theorem dL_law_121 : decode cL_law 121 = .ok (.iload 11, 2) := by decide +kernel
theorem dL_law_123 : decode cL_law 123 = .ok (.iconst 3, 1) := by decide +kernel
theorem dL_law_124 : decode cL_law 124 = .ok (.ishr, 1) := by decide +kernel
theorem dL_law_125 : decode cL_law 125 = .ok (.iconst 2, 1) := by decide +kernel
theorem dL_law_126 : decode cL_law 126 = .ok (.invokestatic 18, 3) := by decide +kernel
theorem dL_law_129 : decode cL_law 129 = .ok (.istore 12, 2) := by decide +kernel
theorem dL_law_131 : decode cL_law 131 = .ok (.iload 11, 2) := by decide +kernel
theorem dL_law_133 : decode cL_law 133 = .ok (.bipush 6, 2) := by decide +kernel
theorem dL_law_135 : decode cL_law 135 = .ok (.invokestatic 18, 3) := by decide +kernel
theorem dL_law_138 : decode cL_law 138 = .ok (.tableswitch 148 0 2 #[26, 41, 122], 26) := by decide +kernel
theorem dL_law_164 : decode cL_law 164 = .ok (.aload_n 1, 1) := by decide +kernel
theorem dL_law_165 : decode cL_law 165 = .ok (.invokevirtual 49, 3) := by decide +kernel
theorem dL_law_168 : decode cL_law 168 = .ok (.aload_n 1, 1) := by decide +kernel
theorem dL_law_169 : decode cL_law 169 = .ok (.bipush 7, 2) := by decide +kernel
theorem dL_law_171 : decode cL_law 171 = .ok (.invokevirtual 36, 3) := by decide +kernel
theorem dL_law_174 : decode cL_law 174 = .ok (.if_icmp .eq 112, 3) := by decide +kernel
theorem dL_law_177 : decode cL_law 177 = .ok (.iconst 0, 1) := by decide +kernel
theorem dL_law_178 : decode cL_law 178 = .ok (.ireturn, 1) := by decide +kernel
theorem dL_law_179 : decode cL_law 179 = .ok (.aload_n 1, 1) := by decide +kernel
theorem dL_law_180 : decode cL_law 180 = .ok (.iload 12, 2) := by decide +kernel
theorem dL_law_182 : decode cL_law 182 = .ok (.iconst 0, 1) := by decide +kernel
theorem dL_law_183 : decode cL_law 183 = .ok (.invokevirtual 53, 3) := by decide +kernel
theorem dL_law_186 : decode cL_law 186 = .ok (.istore 13, 2) := by decide +kernel
theorem dL_law_188 : decode cL_law 188 = .ok (.aload_n 1, 1) := by decide +kernel
theorem dL_law_189 : decode cL_law 189 = .ok (.iload 12, 2) := by decide +kernel
theorem dL_law_191 : decode cL_law 191 = .ok (.iconst 1, 1) := by decide +kernel
theorem dL_law_192 : decode cL_law 192 = .ok (.invokevirtual 53, 3) := by decide +kernel
theorem dL_law_195 : decode cL_law 195 = .ok (.istore 14, 2) := by decide +kernel
theorem dL_law_197 : decode cL_law 197 = .ok (.aload_n 1, 1) := by decide +kernel
theorem dL_law_198 : decode cL_law 198 = .ok (.iload 12, 2) := by decide +kernel
theorem dL_law_200 : decode cL_law 200 = .ok (.invokevirtual 56, 3) := by decide +kernel
theorem dL_law_203 : decode cL_law 203 = .ok (.istore 15, 2) := by decide +kernel
theorem dL_law_205 : decode cL_law 205 = .ok (.iload 9, 2) := by decide +kernel
theorem dL_law_207 : decode cL_law 207 = .ok (.iload 13, 2) := by decide +kernel
theorem dL_law_209 : decode cL_law 209 = .ok (.iadd, 1) := by decide +kernel
theorem dL_law_210 : decode cL_law 210 = .ok (.istore 9, 2) := by decide +kernel
theorem dL_law_212 : decode cL_law 212 = .ok (.iload 15, 2) := by decide +kernel
theorem dL_law_214 : decode cL_law 214 = .ok (.ifCond .lt 44, 3) := by decide +kernel
theorem dL_law_217 : decode cL_law 217 = .ok (.iload 15, 2) := by decide +kernel
theorem dL_law_219 : decode cL_law 219 = .ok (.bipush 27, 2) := by decide +kernel
theorem dL_law_221 : decode cL_law 221 = .ok (.iload 14, 2) := by decide +kernel
theorem dL_law_223 : decode cL_law 223 = .ok (.imul, 1) := by decide +kernel
theorem dL_law_224 : decode cL_law 224 = .ok (.if_icmp .gt 34, 3) := by decide +kernel
theorem dL_law_227 : decode cL_law 227 = .ok (.aload_n 1, 1) := by decide +kernel
theorem dL_law_228 : decode cL_law 228 = .ok (.iload 12, 2) := by decide +kernel
theorem dL_law_230 : decode cL_law 230 = .ok (.iconst 0, 1) := by decide +kernel
theorem dL_law_231 : decode cL_law 231 = .ok (.invokevirtual 53, 3) := by decide +kernel
theorem dL_law_234 : decode cL_law 234 = .ok (.ifCond .ne 24, 3) := by decide +kernel
theorem dL_law_237 : decode cL_law 237 = .ok (.aload_n 1, 1) := by decide +kernel
theorem dL_law_238 : decode cL_law 238 = .ok (.iload 12, 2) := by decide +kernel
theorem dL_law_240 : decode cL_law 240 = .ok (.iconst 1, 1) := by decide +kernel
theorem dL_law_241 : decode cL_law 241 = .ok (.invokevirtual 53, 3) := by decide +kernel
theorem dL_law_244 : decode cL_law 244 = .ok (.iload 14, 2) := by decide +kernel
theorem dL_law_246 : decode cL_law 246 = .ok (.if_icmp .ne 12, 3) := by decide +kernel
theorem dL_law_249 : decode cL_law 249 = .ok (.aload_n 1, 1) := by decide +kernel
theorem dL_law_250 : decode cL_law 250 = .ok (.iload 12, 2) := by decide +kernel
theorem dL_law_252 : decode cL_law 252 = .ok (.invokevirtual 56, 3) := by decide +kernel
theorem dL_law_255 : decode cL_law 255 = .ok (.ifCond .eq 31, 3) := by decide +kernel
theorem dL_law_258 : decode cL_law 258 = .ok (.iconst 0, 1) := by decide +kernel
theorem dL_law_259 : decode cL_law 259 = .ok (.ireturn, 1) := by decide +kernel
theorem dL_law_260 : decode cL_law 260 = .ok (.aload_n 1, 1) := by decide +kernel
theorem dL_law_261 : decode cL_law 261 = .ok (.iload 11, 2) := by decide +kernel
theorem dL_law_263 : decode cL_law 263 = .ok (.iconst 4, 1) := by decide +kernel
theorem dL_law_264 : decode cL_law 264 = .ok (.ishr, 1) := by decide +kernel
theorem dL_law_265 : decode cL_law 265 = .ok (.bipush 10, 2) := by decide +kernel
theorem dL_law_267 : decode cL_law 267 = .ok (.invokestatic 18, 3) := by decide +kernel
theorem dL_law_270 : decode cL_law 270 = .ok (.iload 11, 2) := by decide +kernel
theorem dL_law_272 : decode cL_law 272 = .ok (.bipush 6, 2) := by decide +kernel
theorem dL_law_274 : decode cL_law 274 = .ok (.ishr, 1) := by decide +kernel
theorem dL_law_275 : decode cL_law 275 = .ok (.iconst 4, 1) := by decide +kernel
theorem dL_law_276 : decode cL_law 276 = .ok (.invokestatic 18, 3) := by decide +kernel
theorem dL_law_279 : decode cL_law 279 = .ok (.invokevirtual 25, 3) := by decide +kernel
theorem dL_law_282 : decode cL_law 282 = .ok (.pop, 1) := by decide +kernel
theorem dL_law_283 : decode cL_law 283 = .ok (.goto 3, 3) := by decide +kernel
theorem dL_law_286 : decode cL_law 286 = .ok (.aload_n 1, 1) := by decide +kernel
theorem dL_law_287 : decode cL_law 287 = .ok (.invokevirtual 59, 3) := by decide +kernel
theorem dL_law_290 : decode cL_law 290 = .ok (.lstore 13, 2) := by decide +kernel
theorem dL_law_292 : decode cL_law 292 = .ok (.aload_n 1, 1) := by decide +kernel
theorem dL_law_293 : decode cL_law 293 = .ok (.iconst 1, 1) := by decide +kernel
theorem dL_law_294 : decode cL_law 294 = .ok (.iconst 0, 1) := by decide +kernel
theorem dL_law_295 : decode cL_law 295 = .ok (.invokevirtual 63, 3) := by decide +kernel
theorem dL_law_298 : decode cL_law 298 = .ok (.istore 15, 2) := by decide +kernel
theorem dL_law_300 : decode cL_law 300 = .ok (.aload_n 1, 1) := by decide +kernel
theorem dL_law_301 : decode cL_law 301 = .ok (.iconst 1, 1) := by decide +kernel
theorem dL_law_302 : decode cL_law 302 = .ok (.iconst 1, 1) := by decide +kernel
theorem dL_law_303 : decode cL_law 303 = .ok (.invokevirtual 63, 3) := by decide +kernel
theorem dL_law_306 : decode cL_law 306 = .ok (.istore 16, 2) := by decide +kernel
theorem dL_law_308 : decode cL_law 308 = .ok (.iload 10, 2) := by decide +kernel
theorem dL_law_310 : decode cL_law 310 = .ok (.bipush 8, 2) := by decide +kernel
theorem dL_law_312 : decode cL_law 312 = .ok (.irem, 1) := by decide +kernel
theorem dL_law_313 : decode cL_law 313 = .ok (.ifCond .ne 10, 3) := by decide +kernel
theorem dL_law_316 : decode cL_law 316 = .ok (.aload_n 1, 1) := by decide +kernel
theorem dL_law_317 : decode cL_law 317 = .ok (.invokevirtual 66, 3) := by decide +kernel
theorem dL_law_320 : decode cL_law 320 = .ok (.goto 4, 3) := by decide +kernel
theorem dL_law_323 : decode cL_law 323 = .ok (.iconst 0, 1) := by decide +kernel
theorem dL_law_324 : decode cL_law 324 = .ok (.istore 17, 2) := by decide +kernel
theorem dL_law_326 : decode cL_law 326 = .ok (.iload 11, 2) := by decide +kernel
theorem dL_law_328 : decode cL_law 328 = .ok (.iconst 5, 1) := by decide +kernel
theorem dL_law_329 : decode cL_law 329 = .ok (.ishr, 1) := by decide +kernel
theorem dL_law_330 : decode cL_law 330 = .ok (.iload_n 2, 1) := by decide +kernel
theorem dL_law_331 : decode cL_law 331 = .ok (.invokestatic 18, 3) := by decide +kernel
theorem dL_law_334 : decode cL_law 334 = .ok (.istore 18, 2) := by decide +kernel
theorem dL_law_336 : decode cL_law 336 = .ok (.aload_n 1, 1) := by decide +kernel
theorem dL_law_337 : decode cL_law 337 = .ok (.iload 18, 2) := by decide +kernel
theorem dL_law_339 : decode cL_law 339 = .ok (.invokevirtual 69, 3) := by decide +kernel
theorem dL_law_342 : decode cL_law 342 = .ok (.istore 19, 2) := by decide +kernel
theorem dL_law_344 : decode cL_law 344 = .ok (.iload 17, 2) := by decide +kernel
theorem dL_law_346 : decode cL_law 346 = .ok (.iconst (-1), 1) := by decide +kernel
theorem dL_law_347 : decode cL_law 347 = .ok (.if_icmp .lt 34, 3) := by decide +kernel
theorem dL_law_350 : decode cL_law 350 = .ok (.iload 17, 2) := by decide +kernel
theorem dL_law_352 : decode cL_law 352 = .ok (.bipush 59, 2) := by decide +kernel
theorem dL_law_354 : decode cL_law 354 = .ok (.if_icmp .gt 27, 3) := by decide +kernel
theorem dL_law_357 : decode cL_law 357 = .ok (.iload 19, 2) := by decide +kernel
theorem dL_law_359 : decode cL_law 359 = .ok (.iconst (-1), 1) := by decide +kernel
theorem dL_law_360 : decode cL_law 360 = .ok (.if_icmp .lt 21, 3) := by decide +kernel
theorem dL_law_363 : decode cL_law 363 = .ok (.iload 19, 2) := by decide +kernel
theorem dL_law_365 : decode cL_law 365 = .ok (.sipush 200, 3) := by decide +kernel
theorem dL_law_368 : decode cL_law 368 = .ok (.if_icmp .gt 13, 3) := by decide +kernel
theorem dL_law_371 : decode cL_law 371 = .ok (.aload_n 1, 1) := by decide +kernel
theorem dL_law_372 : decode cL_law 372 = .ok (.invokevirtual 59, 3) := by decide +kernel
theorem dL_law_375 : decode cL_law 375 = .ok (.lload 13, 2) := by decide +kernel
theorem dL_law_377 : decode cL_law 377 = .ok (.lcmp, 1) := by decide +kernel
theorem dL_law_378 : decode cL_law 378 = .ok (.ifCond .eq 5, 3) := by decide +kernel
theorem dL_law_381 : decode cL_law 381 = .ok (.iconst 0, 1) := by decide +kernel
theorem dL_law_382 : decode cL_law 382 = .ok (.ireturn, 1) := by decide +kernel
theorem dL_law_383 : decode cL_law 383 = .ok (.aload_n 1, 1) := by decide +kernel
theorem dL_law_384 : decode cL_law 384 = .ok (.iconst 0, 1) := by decide +kernel
theorem dL_law_385 : decode cL_law 385 = .ok (.iconst 0, 1) := by decide +kernel
theorem dL_law_386 : decode cL_law 386 = .ok (.invokevirtual 53, 3) := by decide +kernel
theorem dL_law_389 : decode cL_law 389 = .ok (.aload_n 1, 1) := by decide +kernel
theorem dL_law_390 : decode cL_law 390 = .ok (.iconst 1, 1) := by decide +kernel
theorem dL_law_391 : decode cL_law 391 = .ok (.iconst 0, 1) := by decide +kernel
theorem dL_law_392 : decode cL_law 392 = .ok (.invokevirtual 53, 3) := by decide +kernel
theorem dL_law_395 : decode cL_law 395 = .ok (.iadd, 1) := by decide +kernel
theorem dL_law_396 : decode cL_law 396 = .ok (.istore 20, 2) := by decide +kernel
theorem dL_law_398 : decode cL_law 398 = .ok (.aload_n 1, 1) := by decide +kernel
theorem dL_law_399 : decode cL_law 399 = .ok (.iconst 5, 1) := by decide +kernel
theorem dL_law_400 : decode cL_law 400 = .ok (.invokevirtual 36, 3) := by decide +kernel
theorem dL_law_403 : decode cL_law 403 = .ok (.istore 21, 2) := by decide +kernel
theorem dL_law_405 : decode cL_law 405 = .ok (.aload_n 1, 1) := by decide +kernel
theorem dL_law_406 : decode cL_law 406 = .ok (.iconst 1, 1) := by decide +kernel
theorem dL_law_407 : decode cL_law 407 = .ok (.invokevirtual 72, 3) := by decide +kernel
theorem dL_law_410 : decode cL_law 410 = .ok (.iload 15, 2) := by decide +kernel
theorem dL_law_412 : decode cL_law 412 = .ok (.if_icmp .ne 49, 3) := by decide +kernel
theorem dL_law_415 : decode cL_law 415 = .ok (.aload_n 1, 1) := by decide +kernel
theorem dL_law_416 : decode cL_law 416 = .ok (.iconst 5, 1) := by decide +kernel
theorem dL_law_417 : decode cL_law 417 = .ok (.invokevirtual 36, 3) := by decide +kernel
theorem dL_law_420 : decode cL_law 420 = .ok (.iload 21, 2) := by decide +kernel
theorem dL_law_422 : decode cL_law 422 = .ok (.iload 15, 2) := by decide +kernel
theorem dL_law_424 : decode cL_law 424 = .ok (.iadd, 1) := by decide +kernel
theorem dL_law_425 : decode cL_law 425 = .ok (.if_icmp .ne 36, 3) := by decide +kernel
theorem dL_law_428 : decode cL_law 428 = .ok (.iload 15, 2) := by decide +kernel
theorem dL_law_430 : decode cL_law 430 = .ok (.ifCond .lt 31, 3) := by decide +kernel
theorem dL_law_433 : decode cL_law 433 = .ok (.iload 15, 2) := by decide +kernel
theorem dL_law_435 : decode cL_law 435 = .ok (.bipush 16, 2) := by decide +kernel
theorem dL_law_437 : decode cL_law 437 = .ok (.if_icmp .gt 24, 3) := by decide +kernel
theorem dL_law_440 : decode cL_law 440 = .ok (.aload_n 1, 1) := by decide +kernel
theorem dL_law_441 : decode cL_law 441 = .ok (.iconst 0, 1) := by decide +kernel
theorem dL_law_442 : decode cL_law 442 = .ok (.iconst 0, 1) := by decide +kernel
theorem dL_law_443 : decode cL_law 443 = .ok (.invokevirtual 53, 3) := by decide +kernel
theorem dL_law_446 : decode cL_law 446 = .ok (.aload_n 1, 1) := by decide +kernel
theorem dL_law_447 : decode cL_law 447 = .ok (.iconst 1, 1) := by decide +kernel
theorem dL_law_448 : decode cL_law 448 = .ok (.iconst 0, 1) := by decide +kernel
theorem dL_law_449 : decode cL_law 449 = .ok (.invokevirtual 53, 3) := by decide +kernel
theorem dL_law_452 : decode cL_law 452 = .ok (.iadd, 1) := by decide +kernel
theorem dL_law_453 : decode cL_law 453 = .ok (.iload 20, 2) := by decide +kernel
theorem dL_law_455 : decode cL_law 455 = .ok (.iload 16, 2) := by decide +kernel
theorem dL_law_457 : decode cL_law 457 = .ok (.iadd, 1) := by decide +kernel
theorem dL_law_458 : decode cL_law 458 = .ok (.if_icmp .eq 5, 3) := by decide +kernel
theorem dL_law_461 : decode cL_law 461 = .ok (.iconst 0, 1) := by decide +kernel
theorem dL_law_462 : decode cL_law 462 = .ok (.ireturn, 1) := by decide +kernel
theorem dL_law_463 : decode cL_law 463 = .ok (.iload 19, 2) := by decide +kernel
theorem dL_law_465 : decode cL_law 465 = .ok (.ifCond .le 16, 3) := by decide +kernel
theorem dL_law_468 : decode cL_law 468 = .ok (.aload_n 1, 1) := by decide +kernel
theorem dL_law_469 : decode cL_law 469 = .ok (.iload 18, 2) := by decide +kernel
theorem dL_law_471 : decode cL_law 471 = .ok (.invokevirtual 69, 3) := by decide +kernel
theorem dL_law_474 : decode cL_law 474 = .ok (.iload 19, 2) := by decide +kernel
theorem dL_law_476 : decode cL_law 476 = .ok (.iconst 1, 1) := by decide +kernel
theorem dL_law_477 : decode cL_law 477 = .ok (.isub, 1) := by decide +kernel
theorem dL_law_478 : decode cL_law 478 = .ok (.if_icmp .ne 17, 3) := by decide +kernel
theorem dL_law_481 : decode cL_law 481 = .ok (.iload 19, 2) := by decide +kernel
theorem dL_law_483 : decode cL_law 483 = .ok (.ifCond .ne 14, 3) := by decide +kernel
theorem dL_law_486 : decode cL_law 486 = .ok (.aload_n 1, 1) := by decide +kernel
theorem dL_law_487 : decode cL_law 487 = .ok (.iload 18, 2) := by decide +kernel
theorem dL_law_489 : decode cL_law 489 = .ok (.invokevirtual 69, 3) := by decide +kernel
theorem dL_law_492 : decode cL_law 492 = .ok (.ifCond .eq 5, 3) := by decide +kernel
theorem dL_law_495 : decode cL_law 495 = .ok (.iconst 0, 1) := by decide +kernel
theorem dL_law_496 : decode cL_law 496 = .ok (.ireturn, 1) := by decide +kernel
theorem dL_law_497 : decode cL_law 497 = .ok (.aload_n 1, 1) := by decide +kernel
theorem dL_law_498 : decode cL_law 498 = .ok (.bipush 7, 2) := by decide +kernel
theorem dL_law_500 : decode cL_law 500 = .ok (.invokevirtual 36, 3) := by decide +kernel
theorem dL_law_503 : decode cL_law 503 = .ok (.istore 22, 2) := by decide +kernel
theorem dL_law_505 : decode cL_law 505 = .ok (.iconst 4, 1) := by decide +kernel
theorem dL_law_506 : decode cL_law 506 = .ok (.newarray .int, 2) := by decide +kernel
theorem dL_law_508 : decode cL_law 508 = .ok (.astore 23, 2) := by decide +kernel
theorem dL_law_510 : decode cL_law 510 = .ok (.iconst 0, 1) := by decide +kernel
theorem dL_law_511 : decode cL_law 511 = .ok (.istore 24, 2) := by decide +kernel
theorem dL_law_513 : decode cL_law 513 = .ok (.iconst 0, 1) := by decide +kernel
theorem dL_law_514 : decode cL_law 514 = .ok (.istore 25, 2) := by decide +kernel
theorem dL_law_516 : decode cL_law 516 = .ok (.iconst 0, 1) := by decide +kernel
theorem dL_law_517 : decode cL_law 517 = .ok (.istore 26, 2) := by decide +kernel
theorem dL_law_519 : decode cL_law 519 = .ok (.iconst 0, 1) := by decide +kernel
theorem dL_law_520 : decode cL_law 520 = .ok (.istore 27, 2) := by decide +kernel
theorem dL_law_522 : decode cL_law 522 = .ok (.iconst 0, 1) := by decide +kernel
theorem dL_law_523 : decode cL_law 523 = .ok (.istore 28, 2) := by decide +kernel
theorem dL_law_525 : decode cL_law 525 = .ok (.iload 28, 2) := by decide +kernel
theorem dL_law_527 : decode cL_law 527 = .ok (.iload_n 2, 1) := by decide +kernel
theorem dL_law_528 : decode cL_law 528 = .ok (.if_icmp .ge 289, 3) := by decide +kernel
theorem dL_law_531 : decode cL_law 531 = .ok (.aload_n 1, 1) := by decide +kernel
theorem dL_law_532 : decode cL_law 532 = .ok (.iload 28, 2) := by decide +kernel
theorem dL_law_534 : decode cL_law 534 = .ok (.iconst 5, 1) := by decide +kernel
theorem dL_law_535 : decode cL_law 535 = .ok (.invokevirtual 40, 3) := by decide +kernel
theorem dL_law_538 : decode cL_law 538 = .ok (.istore 29, 2) := by decide +kernel
theorem dL_law_540 : decode cL_law 540 = .ok (.aload_n 1, 1) := by decide +kernel
theorem dL_law_541 : decode cL_law 541 = .ok (.iload 28, 2) := by decide +kernel
theorem dL_law_543 : decode cL_law 543 = .ok (.bipush 6, 2) := by decide +kernel
theorem dL_law_545 : decode cL_law 545 = .ok (.invokevirtual 40, 3) := by decide +kernel
theorem dL_law_548 : decode cL_law 548 = .ok (.istore 30, 2) := by decide +kernel
theorem dL_law_550 : decode cL_law 550 = .ok (.aload 23, 2) := by decide +kernel
theorem dL_law_552 : decode cL_law 552 = .ok (.iload 29, 2) := by decide +kernel
theorem dL_law_554 : decode cL_law 554 = .ok (.dup2, 1) := by decide +kernel
theorem dL_law_555 : decode cL_law 555 = .ok (.iaload, 1) := by decide +kernel
theorem dL_law_556 : decode cL_law 556 = .ok (.iconst 1, 1) := by decide +kernel
theorem dL_law_557 : decode cL_law 557 = .ok (.iadd, 1) := by decide +kernel
theorem dL_law_558 : decode cL_law 558 = .ok (.iastore, 1) := by decide +kernel
theorem dL_law_559 : decode cL_law 559 = .ok (.iload 27, 2) := by decide +kernel
theorem dL_law_561 : decode cL_law 561 = .ok (.aload_n 1, 1) := by decide +kernel
theorem dL_law_562 : decode cL_law 562 = .ok (.iload 28, 2) := by decide +kernel
theorem dL_law_564 : decode cL_law 564 = .ok (.iconst 3, 1) := by decide +kernel
theorem dL_law_565 : decode cL_law 565 = .ok (.invokevirtual 40, 3) := by decide +kernel
theorem dL_law_568 : decode cL_law 568 = .ok (.iadd, 1) := by decide +kernel
theorem dL_law_569 : decode cL_law 569 = .ok (.istore 27, 2) := by decide +kernel
theorem dL_law_571 : decode cL_law 571 = .ok (.iload 29, 2) := by decide +kernel
theorem dL_law_573 : decode cL_law 573 = .ok (.iconst 1, 1) := by decide +kernel
theorem dL_law_574 : decode cL_law 574 = .ok (.if_icmp .ne 7, 3) := by decide +kernel
theorem dL_law_577 : decode cL_law 577 = .ok (.iconst 1, 1) := by decide +kernel
theorem dL_law_578 : decode cL_law 578 = .ok (.goto 4, 3) := by decide +kernel
theorem dL_law_581 : decode cL_law 581 = .ok (.iconst 0, 1) := by decide +kernel
theorem dL_law_582 : decode cL_law 582 = .ok (.iload 30, 2) := by decide +kernel
theorem dL_law_584 : decode cL_law 584 = .ok (.ifCond .lt 7, 3) := by decide +kernel
theorem dL_law_587 : decode cL_law 587 = .ok (.iconst 1, 1) := by decide +kernel
theorem dL_law_588 : decode cL_law 588 = .ok (.goto 4, 3) := by decide +kernel
theorem dL_law_591 : decode cL_law 591 = .ok (.iconst 0, 1) := by decide +kernel
theorem dL_law_592 : decode cL_law 592 = .ok (.if_icmp .ne 39, 3) := by decide +kernel
theorem dL_law_595 : decode cL_law 595 = .ok (.aload_n 1, 1) := by decide +kernel
theorem dL_law_596 : decode cL_law 596 = .ok (.iload 28, 2) := by decide +kernel
theorem dL_law_598 : decode cL_law 598 = .ok (.bipush 8, 2) := by decide +kernel
theorem dL_law_600 : decode cL_law 600 = .ok (.invokevirtual 40, 3) := by decide +kernel
theorem dL_law_603 : decode cL_law 603 = .ok (.ifCond .lt 7, 3) := by decide +kernel
theorem dL_law_606 : decode cL_law 606 = .ok (.iconst 1, 1) := by decide +kernel
theorem dL_law_607 : decode cL_law 607 = .ok (.goto 4, 3) := by decide +kernel
theorem dL_law_610 : decode cL_law 610 = .ok (.iconst 0, 1) := by decide +kernel
theorem dL_law_611 : decode cL_law 611 = .ok (.iload 29, 2) := by decide +kernel
theorem dL_law_613 : decode cL_law 613 = .ok (.iconst 2, 1) := by decide +kernel
theorem dL_law_614 : decode cL_law 614 = .ok (.if_icmp .ne 7, 3) := by decide +kernel
theorem dL_law_617 : decode cL_law 617 = .ok (.iconst 1, 1) := by decide +kernel
theorem dL_law_618 : decode cL_law 618 = .ok (.goto 4, 3) := by decide +kernel
theorem dL_law_621 : decode cL_law 621 = .ok (.iconst 0, 1) := by decide +kernel
theorem dL_law_622 : decode cL_law 622 = .ok (.if_icmp .ne 9, 3) := by decide +kernel
theorem dL_law_625 : decode cL_law 625 = .ok (.iload 30, 2) := by decide +kernel
theorem dL_law_627 : decode cL_law 627 = .ok (.iload_n 3, 1) := by decide +kernel
theorem dL_law_628 : decode cL_law 628 = .ok (.if_icmp .lt 5, 3) := by decide +kernel
theorem dL_law_631 : decode cL_law 631 = .ok (.iconst 0, 1) := by decide +kernel
theorem dL_law_632 : decode cL_law 632 = .ok (.ireturn, 1) := by decide +kernel
theorem dL_law_633 : decode cL_law 633 = .ok (.aload 7, 2) := by decide +kernel
theorem dL_law_635 : decode cL_law 635 = .ok (.iload 28, 2) := by decide +kernel
theorem dL_law_637 : decode cL_law 637 = .ok (.iaload, 1) := by decide +kernel
theorem dL_law_638 : decode cL_law 638 = .ok (.iconst 1, 1) := by decide +kernel
theorem dL_law_639 : decode cL_law 639 = .ok (.if_icmp .le 13, 3) := by decide +kernel
theorem dL_law_642 : decode cL_law 642 = .ok (.iload 29, 2) := by decide +kernel
theorem dL_law_644 : decode cL_law 644 = .ok (.aload 7, 2) := by decide +kernel
theorem dL_law_646 : decode cL_law 646 = .ok (.iload 28, 2) := by decide +kernel
theorem dL_law_648 : decode cL_law 648 = .ok (.iaload, 1) := by decide +kernel
theorem dL_law_649 : decode cL_law 649 = .ok (.if_icmp .ne 49, 3) := by decide +kernel
theorem dL_law_652 : decode cL_law 652 = .ok (.aload_n 1, 1) := by decide +kernel
theorem dL_law_653 : decode cL_law 653 = .ok (.iload 28, 2) := by decide +kernel
theorem dL_law_655 : decode cL_law 655 = .ok (.iconst 3, 1) := by decide +kernel
theorem dL_law_656 : decode cL_law 656 = .ok (.invokevirtual 40, 3) := by decide +kernel
theorem dL_law_659 : decode cL_law 659 = .ok (.aload 5, 2) := by decide +kernel
theorem dL_law_661 : decode cL_law 661 = .ok (.iload 28, 2) := by decide +kernel
theorem dL_law_663 : decode cL_law 663 = .ok (.iaload, 1) := by decide +kernel
theorem dL_law_664 : decode cL_law 664 = .ok (.if_icmp .gt 34, 3) := by decide +kernel
theorem dL_law_667 : decode cL_law 667 = .ok (.aload_n 1, 1) := by decide +kernel
theorem dL_law_668 : decode cL_law 668 = .ok (.iload 28, 2) := by decide +kernel
theorem dL_law_670 : decode cL_law 670 = .ok (.iconst 3, 1) := by decide +kernel
theorem dL_law_671 : decode cL_law 671 = .ok (.invokevirtual 40, 3) := by decide +kernel
theorem dL_law_674 : decode cL_law 674 = .ok (.ifCond .lt 24, 3) := by decide +kernel
theorem dL_law_677 : decode cL_law 677 = .ok (.iload 29, 2) := by decide +kernel
theorem dL_law_679 : decode cL_law 679 = .ok (.iconst 3, 1) := by decide +kernel
theorem dL_law_680 : decode cL_law 680 = .ok (.if_icmp .ne 20, 3) := by decide +kernel
theorem dL_law_683 : decode cL_law 683 = .ok (.aload_n 1, 1) := by decide +kernel
theorem dL_law_684 : decode cL_law 684 = .ok (.iload 28, 2) := by decide +kernel
theorem dL_law_686 : decode cL_law 686 = .ok (.iconst 3, 1) := by decide +kernel
theorem dL_law_687 : decode cL_law 687 = .ok (.invokevirtual 40, 3) := by decide +kernel
theorem dL_law_690 : decode cL_law 690 = .ok (.aload 5, 2) := by decide +kernel
theorem dL_law_692 : decode cL_law 692 = .ok (.iload 28, 2) := by decide +kernel
theorem dL_law_694 : decode cL_law 694 = .ok (.iaload, 1) := by decide +kernel
theorem dL_law_695 : decode cL_law 695 = .ok (.if_icmp .eq 5, 3) := by decide +kernel
theorem dL_law_698 : decode cL_law 698 = .ok (.iconst 0, 1) := by decide +kernel
theorem dL_law_699 : decode cL_law 699 = .ok (.ireturn, 1) := by decide +kernel
theorem dL_law_700 : decode cL_law 700 = .ok (.iload 29, 2) := by decide +kernel
theorem dL_law_702 : decode cL_law 702 = .ok (.iconst 1, 1) := by decide +kernel
theorem dL_law_703 : decode cL_law 703 = .ok (.if_icmp .ne 59, 3) := by decide +kernel
theorem dL_law_706 : decode cL_law 706 = .ok (.iload 24, 2) := by decide +kernel
theorem dL_law_708 : decode cL_law 708 = .ok (.iload 30, 2) := by decide +kernel
theorem dL_law_710 : decode cL_law 710 = .ok (.ishr, 1) := by decide +kernel
theorem dL_law_711 : decode cL_law 711 = .ok (.iconst 1, 1) := by decide +kernel
theorem dL_law_712 : decode cL_law 712 = .ok (.iand, 1) := by decide +kernel
theorem dL_law_713 : decode cL_law 713 = .ok (.iconst 1, 1) := by decide +kernel
theorem dL_law_714 : decode cL_law 714 = .ok (.if_icmp .ne 5, 3) := by decide +kernel
theorem dL_law_717 : decode cL_law 717 = .ok (.iconst 0, 1) := by decide +kernel
theorem dL_law_718 : decode cL_law 718 = .ok (.ireturn, 1) := by decide +kernel
theorem dL_law_719 : decode cL_law 719 = .ok (.iload 24, 2) := by decide +kernel
theorem dL_law_721 : decode cL_law 721 = .ok (.iconst 1, 1) := by decide +kernel
theorem dL_law_722 : decode cL_law 722 = .ok (.iload 30, 2) := by decide +kernel
theorem dL_law_724 : decode cL_law 724 = .ok (.ishl, 1) := by decide +kernel
theorem dL_law_725 : decode cL_law 725 = .ok (.ior, 1) := by decide +kernel
theorem dL_law_726 : decode cL_law 726 = .ok (.istore 24, 2) := by decide +kernel
theorem dL_law_728 : decode cL_law 728 = .ok (.iload 25, 2) := by decide +kernel
theorem dL_law_730 : decode cL_law 730 = .ok (.aload_n 1, 1) := by decide +kernel
theorem dL_law_731 : decode cL_law 731 = .ok (.iload 28, 2) := by decide +kernel
theorem dL_law_733 : decode cL_law 733 = .ok (.iconst 1, 1) := by decide +kernel
theorem dL_law_734 : decode cL_law 734 = .ok (.invokevirtual 40, 3) := by decide +kernel
theorem dL_law_737 : decode cL_law 737 = .ok (.iadd, 1) := by decide +kernel
theorem dL_law_738 : decode cL_law 738 = .ok (.istore 25, 2) := by decide +kernel
theorem dL_law_740 : decode cL_law 740 = .ok (.iload 26, 2) := by decide +kernel
theorem dL_law_742 : decode cL_law 742 = .ok (.aload_n 1, 1) := by decide +kernel
theorem dL_law_743 : decode cL_law 743 = .ok (.iload 28, 2) := by decide +kernel
theorem dL_law_745 : decode cL_law 745 = .ok (.iconst 4, 1) := by decide +kernel
theorem dL_law_746 : decode cL_law 746 = .ok (.invokevirtual 40, 3) := by decide +kernel
theorem dL_law_749 : decode cL_law 749 = .ok (.iload 22, 2) := by decide +kernel
theorem dL_law_751 : decode cL_law 751 = .ok (.if_icmp .ne 7, 3) := by decide +kernel
theorem dL_law_754 : decode cL_law 754 = .ok (.iconst 0, 1) := by decide +kernel
theorem dL_law_755 : decode cL_law 755 = .ok (.goto 4, 3) := by decide +kernel
theorem dL_law_758 : decode cL_law 758 = .ok (.iconst 1, 1) := by decide +kernel
theorem dL_law_759 : decode cL_law 759 = .ok (.iadd, 1) := by decide +kernel
theorem dL_law_760 : decode cL_law 760 = .ok (.istore 26, 2) := by decide +kernel
theorem dL_law_762 : decode cL_law 762 = .ok (.aload_n 1, 1) := by decide +kernel
theorem dL_law_763 : decode cL_law 763 = .ok (.iload 28, 2) := by decide +kernel
theorem dL_law_765 : decode cL_law 765 = .ok (.iconst 3, 1) := by decide +kernel
theorem dL_law_766 : decode cL_law 766 = .ok (.invokevirtual 40, 3) := by decide +kernel
theorem dL_law_769 : decode cL_law 769 = .ok (.aload 8, 2) := by decide +kernel
theorem dL_law_771 : decode cL_law 771 = .ok (.iload 28, 2) := by decide +kernel
theorem dL_law_773 : decode cL_law 773 = .ok (.iaload, 1) := by decide +kernel
theorem dL_law_774 : decode cL_law 774 = .ok (.if_icmp .eq 18, 3) := by decide +kernel
theorem dL_law_777 : decode cL_law 777 = .ok (.aload 8, 2) := by decide +kernel
theorem dL_law_779 : decode cL_law 779 = .ok (.iload 28, 2) := by decide +kernel
theorem dL_law_781 : decode cL_law 781 = .ok (.iaload, 1) := by decide +kernel
theorem dL_law_782 : decode cL_law 782 = .ok (.aload 5, 2) := by decide +kernel
theorem dL_law_784 : decode cL_law 784 = .ok (.iload 28, 2) := by decide +kernel
theorem dL_law_786 : decode cL_law 786 = .ok (.iaload, 1) := by decide +kernel
theorem dL_law_787 : decode cL_law 787 = .ok (.if_icmp .eq 5, 3) := by decide +kernel
theorem dL_law_790 : decode cL_law 790 = .ok (.iconst 0, 1) := by decide +kernel
theorem dL_law_791 : decode cL_law 791 = .ok (.ireturn, 1) := by decide +kernel
theorem dL_law_792 : decode cL_law 792 = .ok (.aload 8, 2) := by decide +kernel
theorem dL_law_794 : decode cL_law 794 = .ok (.iload 28, 2) := by decide +kernel
theorem dL_law_796 : decode cL_law 796 = .ok (.aload_n 1, 1) := by decide +kernel
theorem dL_law_797 : decode cL_law 797 = .ok (.iload 28, 2) := by decide +kernel
theorem dL_law_799 : decode cL_law 799 = .ok (.iconst 3, 1) := by decide +kernel
theorem dL_law_800 : decode cL_law 800 = .ok (.invokevirtual 40, 3) := by decide +kernel
theorem dL_law_803 : decode cL_law 803 = .ok (.iastore, 1) := by decide +kernel
theorem dL_law_804 : decode cL_law 804 = .ok (.aload 7, 2) := by decide +kernel
theorem dL_law_806 : decode cL_law 806 = .ok (.iload 28, 2) := by decide +kernel
theorem dL_law_808 : decode cL_law 808 = .ok (.iload 29, 2) := by decide +kernel
theorem dL_law_810 : decode cL_law 810 = .ok (.iastore, 1) := by decide +kernel
theorem dL_law_811 : decode cL_law 811 = .ok (.iinc 28 1, 3) := by decide +kernel
theorem dL_law_814 : decode cL_law 814 = .ok (.goto (-289), 3) := by decide +kernel
theorem dL_law_817 : decode cL_law 817 = .ok (.iconst 0, 1) := by decide +kernel
theorem dL_law_818 : decode cL_law 818 = .ok (.istore 28, 2) := by decide +kernel
theorem dL_law_820 : decode cL_law 820 = .ok (.iload 28, 2) := by decide +kernel
theorem dL_law_822 : decode cL_law 822 = .ok (.iconst 4, 1) := by decide +kernel
theorem dL_law_823 : decode cL_law 823 = .ok (.if_icmp .ge 27, 3) := by decide +kernel
theorem dL_law_826 : decode cL_law 826 = .ok (.aload_n 1, 1) := by decide +kernel
theorem dL_law_827 : decode cL_law 827 = .ok (.iconst 3, 1) := by decide +kernel
theorem dL_law_828 : decode cL_law 828 = .ok (.iload 28, 2) := by decide +kernel
theorem dL_law_830 : decode cL_law 830 = .ok (.iadd, 1) := by decide +kernel
theorem dL_law_831 : decode cL_law 831 = .ok (.invokevirtual 36, 3) := by decide +kernel
theorem dL_law_834 : decode cL_law 834 = .ok (.aload 23, 2) := by decide +kernel
theorem dL_law_836 : decode cL_law 836 = .ok (.iload 28, 2) := by decide +kernel
theorem dL_law_838 : decode cL_law 838 = .ok (.iaload, 1) := by decide +kernel
theorem dL_law_839 : decode cL_law 839 = .ok (.if_icmp .eq 5, 3) := by decide +kernel
theorem dL_law_842 : decode cL_law 842 = .ok (.iconst 0, 1) := by decide +kernel
theorem dL_law_843 : decode cL_law 843 = .ok (.ireturn, 1) := by decide +kernel
theorem dL_law_844 : decode cL_law 844 = .ok (.iinc 28 1, 3) := by decide +kernel
theorem dL_law_847 : decode cL_law 847 = .ok (.goto (-27), 3) := by decide +kernel
theorem dL_law_850 : decode cL_law 850 = .ok (.iload 26, 2) := by decide +kernel
theorem dL_law_852 : decode cL_law 852 = .ok (.ifCond .le 12, 3) := by decide +kernel
theorem dL_law_855 : decode cL_law 855 = .ok (.iload 26, 2) := by decide +kernel
theorem dL_law_857 : decode cL_law 857 = .ok (.aload 23, 2) := by decide +kernel
theorem dL_law_859 : decode cL_law 859 = .ok (.iconst 1, 1) := by decide +kernel
theorem dL_law_860 : decode cL_law 860 = .ok (.iaload, 1) := by decide +kernel
theorem dL_law_861 : decode cL_law 861 = .ok (.if_icmp .lt 45, 3) := by decide +kernel
theorem dL_law_864 : decode cL_law 864 = .ok (.iload 25, 2) := by decide +kernel
theorem dL_law_866 : decode cL_law 866 = .ok (.aload_n 1, 1) := by decide +kernel
theorem dL_law_867 : decode cL_law 867 = .ok (.bipush 8, 2) := by decide +kernel
theorem dL_law_869 : decode cL_law 869 = .ok (.invokevirtual 36, 3) := by decide +kernel
theorem dL_law_872 : decode cL_law 872 = .ok (.if_icmp .ne 34, 3) := by decide +kernel
theorem dL_law_875 : decode cL_law 875 = .ok (.iload 25, 2) := by decide +kernel
theorem dL_law_877 : decode cL_law 877 = .ok (.iload 4, 2) := by decide +kernel
theorem dL_law_879 : decode cL_law 879 = .ok (.if_icmp .gt 27, 3) := by decide +kernel
theorem dL_law_882 : decode cL_law 882 = .ok (.iload 27, 2) := by decide +kernel
theorem dL_law_884 : decode cL_law 884 = .ok (.iload 9, 2) := by decide +kernel
theorem dL_law_886 : decode cL_law 886 = .ok (.iadd, 1) := by decide +kernel
theorem dL_law_887 : decode cL_law 887 = .ok (.aload_n 1, 1) := by decide +kernel
theorem dL_law_888 : decode cL_law 888 = .ok (.iconst 0, 1) := by decide +kernel
theorem dL_law_889 : decode cL_law 889 = .ok (.iconst 0, 1) := by decide +kernel
theorem dL_law_890 : decode cL_law 890 = .ok (.invokevirtual 53, 3) := by decide +kernel
theorem dL_law_893 : decode cL_law 893 = .ok (.iadd, 1) := by decide +kernel
theorem dL_law_894 : decode cL_law 894 = .ok (.aload_n 1, 1) := by decide +kernel
theorem dL_law_895 : decode cL_law 895 = .ok (.iconst 1, 1) := by decide +kernel
theorem dL_law_896 : decode cL_law 896 = .ok (.iconst 0, 1) := by decide +kernel
theorem dL_law_897 : decode cL_law 897 = .ok (.invokevirtual 53, 3) := by decide +kernel
theorem dL_law_900 : decode cL_law 900 = .ok (.iadd, 1) := by decide +kernel
theorem dL_law_901 : decode cL_law 901 = .ok (.iload 6, 2) := by decide +kernel
theorem dL_law_903 : decode cL_law 903 = .ok (.if_icmp .eq 5, 3) := by decide +kernel
theorem dL_law_906 : decode cL_law 906 = .ok (.iconst 0, 1) := by decide +kernel
theorem dL_law_907 : decode cL_law 907 = .ok (.ireturn, 1) := by decide +kernel
theorem dL_law_908 : decode cL_law 908 = .ok (.iconst 0, 1) := by decide +kernel
theorem dL_law_909 : decode cL_law 909 = .ok (.istore 28, 2) := by decide +kernel
theorem dL_law_911 : decode cL_law 911 = .ok (.iconst 0, 1) := by decide +kernel
theorem dL_law_912 : decode cL_law 912 = .ok (.istore 29, 2) := by decide +kernel
theorem dL_law_914 : decode cL_law 914 = .ok (.iload 29, 2) := by decide +kernel
theorem dL_law_916 : decode cL_law 916 = .ok (.iconst 2, 1) := by decide +kernel
theorem dL_law_917 : decode cL_law 917 = .ok (.if_icmp .ge 156, 3) := by decide +kernel
theorem dL_law_920 : decode cL_law 920 = .ok (.iload 28, 2) := by decide +kernel
theorem dL_law_922 : decode cL_law 922 = .ok (.aload_n 1, 1) := by decide +kernel
theorem dL_law_923 : decode cL_law 923 = .ok (.iload 29, 2) := by decide +kernel
theorem dL_law_925 : decode cL_law 925 = .ok (.iconst 3, 1) := by decide +kernel
theorem dL_law_926 : decode cL_law 926 = .ok (.invokevirtual 53, 3) := by decide +kernel
theorem dL_law_929 : decode cL_law 929 = .ok (.iadd, 1) := by decide +kernel
theorem dL_law_930 : decode cL_law 930 = .ok (.istore 28, 2) := by decide +kernel
theorem dL_law_932 : decode cL_law 932 = .ok (.iconst 0, 1) := by decide +kernel
theorem dL_law_933 : decode cL_law 933 = .ok (.istore 30, 2) := by decide +kernel
theorem dL_law_935 : decode cL_law 935 = .ok (.iload 30, 2) := by decide +kernel
theorem dL_law_937 : decode cL_law 937 = .ok (.aload_n 1, 1) := by decide +kernel
theorem dL_law_938 : decode cL_law 938 = .ok (.iload 29, 2) := by decide +kernel
theorem dL_law_940 : decode cL_law 940 = .ok (.iconst 3, 1) := by decide +kernel
theorem dL_law_941 : decode cL_law 941 = .ok (.invokevirtual 53, 3) := by decide +kernel
theorem dL_law_944 : decode cL_law 944 = .ok (.if_icmp .ge 74, 3) := by decide +kernel
theorem dL_law_947 : decode cL_law 947 = .ok (.aload_n 1, 1) := by decide +kernel
theorem dL_law_948 : decode cL_law 948 = .ok (.iload 29, 2) := by decide +kernel
theorem dL_law_950 : decode cL_law 950 = .ok (.iload 30, 2) := by decide +kernel
theorem dL_law_952 : decode cL_law 952 = .ok (.invokevirtual 75, 3) := by decide +kernel
theorem dL_law_955 : decode cL_law 955 = .ok (.istore 31, 2) := by decide +kernel
theorem dL_law_957 : decode cL_law 957 = .ok (.aload_n 1, 1) := by decide +kernel
theorem dL_law_958 : decode cL_law 958 = .ok (.iload 31, 2) := by decide +kernel
theorem dL_law_960 : decode cL_law 960 = .ok (.iconst 5, 1) := by decide +kernel
theorem dL_law_961 : decode cL_law 961 = .ok (.invokevirtual 40, 3) := by decide +kernel
theorem dL_law_964 : decode cL_law 964 = .ok (.ifCond .ne 15, 3) := by decide +kernel
theorem dL_law_967 : decode cL_law 967 = .ok (.aload_n 1, 1) := by decide +kernel
theorem dL_law_968 : decode cL_law 968 = .ok (.iload 31, 2) := by decide +kernel
theorem dL_law_970 : decode cL_law 970 = .ok (.iconst 4, 1) := by decide +kernel
theorem dL_law_971 : decode cL_law 971 = .ok (.invokevirtual 40, 3) := by decide +kernel
theorem dL_law_974 : decode cL_law 974 = .ok (.iload 29, 2) := by decide +kernel
theorem dL_law_976 : decode cL_law 976 = .ok (.if_icmp .eq 5, 3) := by decide +kernel
theorem dL_law_979 : decode cL_law 979 = .ok (.iconst 0, 1) := by decide +kernel
theorem dL_law_980 : decode cL_law 980 = .ok (.ireturn, 1) := by decide +kernel
theorem dL_law_981 : decode cL_law 981 = .ok (.iconst 0, 1) := by decide +kernel
theorem dL_law_982 : decode cL_law 982 = .ok (.istore 32, 2) := by decide +kernel
theorem dL_law_984 : decode cL_law 984 = .ok (.iload 32, 2) := by decide +kernel
theorem dL_law_986 : decode cL_law 986 = .ok (.iload 30, 2) := by decide +kernel
theorem dL_law_988 : decode cL_law 988 = .ok (.if_icmp .ge 24, 3) := by decide +kernel
theorem dL_law_991 : decode cL_law 991 = .ok (.aload_n 1, 1) := by decide +kernel
theorem dL_law_992 : decode cL_law 992 = .ok (.iload 29, 2) := by decide +kernel
theorem dL_law_994 : decode cL_law 994 = .ok (.iload 32, 2) := by decide +kernel
theorem dL_law_996 : decode cL_law 996 = .ok (.invokevirtual 75, 3) := by decide +kernel
theorem dL_law_999 : decode cL_law 999 = .ok (.iload 31, 2) := by decide +kernel
theorem dL_law_1001 : decode cL_law 1001 = .ok (.if_icmp .ne 5, 3) := by decide +kernel
theorem dL_law_1004 : decode cL_law 1004 = .ok (.iconst 0, 1) := by decide +kernel
theorem dL_law_1005 : decode cL_law 1005 = .ok (.ireturn, 1) := by decide +kernel
theorem dL_law_1006 : decode cL_law 1006 = .ok (.iinc 32 1, 3) := by decide +kernel
theorem dL_law_1009 : decode cL_law 1009 = .ok (.goto (-25), 3) := by decide +kernel
theorem dL_law_1012 : decode cL_law 1012 = .ok (.iinc 30 1, 3) := by decide +kernel
theorem dL_law_1015 : decode cL_law 1015 = .ok (.goto (-80), 3) := by decide +kernel
theorem dL_law_1018 : decode cL_law 1018 = .ok (.aload_n 1, 1) := by decide +kernel
theorem dL_law_1019 : decode cL_law 1019 = .ok (.iload 29, 2) := by decide +kernel
theorem dL_law_1021 : decode cL_law 1021 = .ok (.iconst 1, 1) := by decide +kernel
theorem dL_law_1022 : decode cL_law 1022 = .ok (.invokevirtual 53, 3) := by decide +kernel
theorem dL_law_1025 : decode cL_law 1025 = .ok (.iload_n 2, 1) := by decide +kernel
theorem dL_law_1026 : decode cL_law 1026 = .ok (.if_icmp .gt 39, 3) := by decide +kernel
theorem dL_law_1029 : decode cL_law 1029 = .ok (.aload_n 1, 1) := by decide +kernel
theorem dL_law_1030 : decode cL_law 1030 = .ok (.iload 29, 2) := by decide +kernel
theorem dL_law_1032 : decode cL_law 1032 = .ok (.iconst 2, 1) := by decide +kernel
theorem dL_law_1033 : decode cL_law 1033 = .ok (.invokevirtual 53, 3) := by decide +kernel
theorem dL_law_1036 : decode cL_law 1036 = .ok (.aload_n 1, 1) := by decide +kernel
theorem dL_law_1037 : decode cL_law 1037 = .ok (.iload 29, 2) := by decide +kernel
theorem dL_law_1039 : decode cL_law 1039 = .ok (.iconst 1, 1) := by decide +kernel
theorem dL_law_1040 : decode cL_law 1040 = .ok (.invokevirtual 53, 3) := by decide +kernel
theorem dL_law_1043 : decode cL_law 1043 = .ok (.if_icmp .lt 22, 3) := by decide +kernel
theorem dL_law_1046 : decode cL_law 1046 = .ok (.aload_n 1, 1) := by decide +kernel
theorem dL_law_1047 : decode cL_law 1047 = .ok (.iload 29, 2) := by decide +kernel
theorem dL_law_1049 : decode cL_law 1049 = .ok (.iconst 2, 1) := by decide +kernel
theorem dL_law_1050 : decode cL_law 1050 = .ok (.invokevirtual 53, 3) := by decide +kernel
theorem dL_law_1053 : decode cL_law 1053 = .ok (.iconst 4, 1) := by decide +kernel
theorem dL_law_1054 : decode cL_law 1054 = .ok (.aload_n 1, 1) := by decide +kernel
theorem dL_law_1055 : decode cL_law 1055 = .ok (.iload 29, 2) := by decide +kernel
theorem dL_law_1057 : decode cL_law 1057 = .ok (.iconst 1, 1) := by decide +kernel
theorem dL_law_1058 : decode cL_law 1058 = .ok (.invokevirtual 53, 3) := by decide +kernel
theorem dL_law_1061 : decode cL_law 1061 = .ok (.imul, 1) := by decide +kernel
theorem dL_law_1062 : decode cL_law 1062 = .ok (.if_icmp .le 5, 3) := by decide +kernel
theorem dL_law_1065 : decode cL_law 1065 = .ok (.iconst 0, 1) := by decide +kernel
theorem dL_law_1066 : decode cL_law 1066 = .ok (.ireturn, 1) := by decide +kernel
theorem dL_law_1067 : decode cL_law 1067 = .ok (.iinc 29 1, 3) := by decide +kernel
theorem dL_law_1070 : decode cL_law 1070 = .ok (.goto (-156), 3) := by decide +kernel
theorem dL_law_1073 : decode cL_law 1073 = .ok (.iload 28, 2) := by decide +kernel
theorem dL_law_1075 : decode cL_law 1075 = .ok (.aload 23, 2) := by decide +kernel
theorem dL_law_1077 : decode cL_law 1077 = .ok (.iconst 0, 1) := by decide +kernel
theorem dL_law_1078 : decode cL_law 1078 = .ok (.iaload, 1) := by decide +kernel
theorem dL_law_1079 : decode cL_law 1079 = .ok (.if_icmp .eq 5, 3) := by decide +kernel
theorem dL_law_1082 : decode cL_law 1082 = .ok (.iconst 0, 1) := by decide +kernel
theorem dL_law_1083 : decode cL_law 1083 = .ok (.ireturn, 1) := by decide +kernel
theorem dL_law_1084 : decode cL_law 1084 = .ok (.iinc 10 1, 3) := by decide +kernel
theorem dL_law_1087 : decode cL_law 1087 = .ok (.goto (-993), 3) := by decide +kernel
theorem dL_law_1090 : decode cL_law 1090 = .ok (.iconst 1, 1) := by decide +kernel
theorem dL_law_1091 : decode cL_law 1091 = .ok (.ireturn, 1) := by decide +kernel
