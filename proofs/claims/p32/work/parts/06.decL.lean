theorem dL_low_0 : decode cL_low 0 = .ok (.iload_n 0, 1) := by decide +kernel
theorem dL_low_1 : decode cL_low 1 = .ok (.ldc 7, 2) := by decide +kernel
theorem dL_low_3 : decode cL_low 3 = .ok (.iand, 1) := by decide +kernel
theorem dL_low_4 : decode cL_low 4 = .ok (.iload_n 1, 1) := by decide +kernel
theorem dL_low_5 : decode cL_low 5 = .ok (.irem, 1) := by decide +kernel
theorem dL_low_6 : decode cL_low 6 = .ok (.ireturn, 1) := by decide +kernel
theorem dL_cell_0 : decode cL_cell 0 = .ok (.iload_n 1, 1) := by decide +kernel
theorem dL_cell_1 : decode cL_cell 1 = .ok (.aload_n 0, 1) := by decide +kernel
theorem dL_cell_2 : decode cL_cell 2 = .ok (.arraylength, 1) := by decide +kernel
theorem dL_cell_3 : decode cL_cell 3 = .ok (.if_icmp .ge 9, 3) := by decide +kernel
theorem dL_cell_6 : decode cL_cell 6 = .ok (.aload_n 0, 1) := by decide +kernel
theorem dL_cell_7 : decode cL_cell 7 = .ok (.iload_n 1, 1) := by decide +kernel
theorem dL_cell_8 : decode cL_cell 8 = .ok (.iaload, 1) := by decide +kernel
theorem dL_cell_9 : decode cL_cell 9 = .ok (.goto 11, 3) := by decide +kernel
theorem dL_cell_12 : decode cL_cell 12 = .ok (.ldc 8, 2) := by decide +kernel
theorem dL_cell_14 : decode cL_cell 14 = .ok (.iload_n 1, 1) := by decide +kernel
theorem dL_cell_15 : decode cL_cell 15 = .ok (.imul, 1) := by decide +kernel
theorem dL_cell_16 : decode cL_cell 16 = .ok (.sipush 977, 3) := by decide +kernel
theorem dL_cell_19 : decode cL_cell 19 = .ok (.iadd, 1) := by decide +kernel
theorem dL_cell_20 : decode cL_cell 20 = .ok (.ireturn, 1) := by decide +kernel
theorem dL_act_0 : decode cL_act 0 = .ok (.aload_n 1, 1) := by decide +kernel
theorem dL_act_1 : decode cL_act 1 = .ok (.iload_n 2, 1) := by decide +kernel
theorem dL_act_2 : decode cL_act 2 = .ok (.iconst 1, 1) := by decide +kernel
theorem dL_act_3 : decode cL_act 3 = .ok (.iadd, 1) := by decide +kernel
theorem dL_act_4 : decode cL_act 4 = .ok (.invokestatic 9, 3) := by decide +kernel
theorem dL_act_7 : decode cL_act 7 = .ok (.istore_n 3, 1) := by decide +kernel
theorem dL_act_8 : decode cL_act 8 = .ok (.aload_n 1, 1) := by decide +kernel
theorem dL_act_9 : decode cL_act 9 = .ok (.iload_n 2, 1) := by decide +kernel
theorem dL_act_10 : decode cL_act 10 = .ok (.iconst 2, 1) := by decide +kernel
theorem dL_act_11 : decode cL_act 11 = .ok (.iadd, 1) := by decide +kernel
theorem dL_act_12 : decode cL_act 12 = .ok (.invokestatic 9, 3) := by decide +kernel
theorem dL_act_15 : decode cL_act 15 = .ok (.istore 4, 2) := by decide +kernel
theorem dL_act_17 : decode cL_act 17 = .ok (.iload_n 3, 1) := by decide +kernel
theorem dL_act_18 : decode cL_act 18 = .ok (.iconst 4, 1) := by decide +kernel
theorem dL_act_19 : decode cL_act 19 = .ok (.invokestatic 15, 3) := by decide +kernel
theorem dL_act_22 : decode cL_act 22 = .ok (.istore 5, 2) := by decide +kernel
theorem dL_act_24 : decode cL_act 24 = .ok (.aload_n 1, 1) := by decide +kernel
theorem dL_act_25 : decode cL_act 25 = .ok (.iload_n 2, 1) := by decide +kernel
theorem dL_act_26 : decode cL_act 26 = .ok (.invokestatic 9, 3) := by decide +kernel
theorem dL_act_29 : decode cL_act 29 = .ok (.bipush 16, 2) := by decide +kernel
theorem dL_act_31 : decode cL_act 31 = .ok (.invokestatic 15, 3) := by decide +kernel
theorem dL_act_34 : decode cL_act 34 = .ok (.tableswitch 237 0 14 #[74, 74, 74, 74, 74, 93, 93, 104, 118, 123, 123, 139, 146, 169, 200], 74) := by decide +kernel
theorem dL_act_108 : decode cL_act 108 = .ok (.aload_n 0, 1) := by decide +kernel
theorem dL_act_109 : decode cL_act 109 = .ok (.iload_n 3, 1) := by decide +kernel
theorem dL_act_110 : decode cL_act 110 = .ok (.bipush 6, 2) := by decide +kernel
theorem dL_act_112 : decode cL_act 112 = .ok (.invokestatic 15, 3) := by decide +kernel
theorem dL_act_115 : decode cL_act 115 = .ok (.iload 4, 2) := by decide +kernel
theorem dL_act_117 : decode cL_act 117 = .ok (.sipush 1000, 3) := by decide +kernel
theorem dL_act_120 : decode cL_act 120 = .ok (.invokestatic 15, 3) := by decide +kernel
theorem dL_act_123 : decode cL_act 123 = .ok (.invokevirtual 19, 3) := by decide +kernel
theorem dL_act_126 : decode cL_act 126 = .ok (.ireturn, 1) := by decide +kernel
theorem dL_act_127 : decode cL_act 127 = .ok (.aload_n 0, 1) := by decide +kernel
theorem dL_act_128 : decode cL_act 128 = .ok (.iload_n 3, 1) := by decide +kernel
theorem dL_act_129 : decode cL_act 129 = .ok (.bipush 6, 2) := by decide +kernel
theorem dL_act_131 : decode cL_act 131 = .ok (.invokestatic 15, 3) := by decide +kernel
theorem dL_act_134 : decode cL_act 134 = .ok (.invokevirtual 24, 3) := by decide +kernel
theorem dL_act_137 : decode cL_act 137 = .ok (.ireturn, 1) := by decide +kernel
theorem dL_act_138 : decode cL_act 138 = .ok (.aload_n 0, 1) := by decide +kernel
theorem dL_act_139 : decode cL_act 139 = .ok (.iconst 1, 1) := by decide +kernel
theorem dL_act_140 : decode cL_act 140 = .ok (.iload 4, 2) := by decide +kernel
theorem dL_act_142 : decode cL_act 142 = .ok (.bipush 40, 2) := by decide +kernel
theorem dL_act_144 : decode cL_act 144 = .ok (.invokestatic 15, 3) := by decide +kernel
theorem dL_act_147 : decode cL_act 147 = .ok (.iadd, 1) := by decide +kernel
theorem dL_act_148 : decode cL_act 148 = .ok (.invokevirtual 28, 3) := by decide +kernel
theorem dL_act_151 : decode cL_act 151 = .ok (.ireturn, 1) := by decide +kernel
theorem dL_act_152 : decode cL_act 152 = .ok (.aload_n 0, 1) := by decide +kernel
theorem dL_act_153 : decode cL_act 153 = .ok (.invokevirtual 31, 3) := by decide +kernel
theorem dL_act_156 : decode cL_act 156 = .ok (.ireturn, 1) := by decide +kernel
theorem dL_act_157 : decode cL_act 157 = .ok (.aload_n 0, 1) := by decide +kernel
theorem dL_act_158 : decode cL_act 158 = .ok (.iload 5, 2) := by decide +kernel
theorem dL_act_160 : decode cL_act 160 = .ok (.iconst 1, 1) := by decide +kernel
theorem dL_act_161 : decode cL_act 161 = .ok (.iload 4, 2) := by decide +kernel
theorem dL_act_163 : decode cL_act 163 = .ok (.bipush 9, 2) := by decide +kernel
theorem dL_act_165 : decode cL_act 165 = .ok (.invokestatic 15, 3) := by decide +kernel
theorem dL_act_168 : decode cL_act 168 = .ok (.iadd, 1) := by decide +kernel
theorem dL_act_169 : decode cL_act 169 = .ok (.invokevirtual 35, 3) := by decide +kernel
theorem dL_act_172 : decode cL_act 172 = .ok (.ireturn, 1) := by decide +kernel
theorem dL_act_173 : decode cL_act 173 = .ok (.aload_n 0, 1) := by decide +kernel
theorem dL_act_174 : decode cL_act 174 = .ok (.iload 5, 2) := by decide +kernel
theorem dL_act_176 : decode cL_act 176 = .ok (.invokevirtual 38, 3) := by decide +kernel
theorem dL_act_179 : decode cL_act 179 = .ok (.ireturn, 1) := by decide +kernel
theorem dL_act_180 : decode cL_act 180 = .ok (.iload 4, 2) := by decide +kernel
theorem dL_act_182 : decode cL_act 182 = .ok (.iconst 2, 1) := by decide +kernel
theorem dL_act_183 : decode cL_act 183 = .ok (.invokestatic 15, 3) := by decide +kernel
theorem dL_act_186 : decode cL_act 186 = .ok (.ifCond .ne 12, 3) := by decide +kernel
theorem dL_act_189 : decode cL_act 189 = .ok (.aload_n 0, 1) := by decide +kernel
theorem dL_act_190 : decode cL_act 190 = .ok (.iload 5, 2) := by decide +kernel
theorem dL_act_192 : decode cL_act 192 = .ok (.invokevirtual 41, 3) := by decide +kernel
theorem dL_act_195 : decode cL_act 195 = .ok (.goto 7, 3) := by decide +kernel
theorem dL_act_198 : decode cL_act 198 = .ok (.aload_n 0, 1) := by decide +kernel
theorem dL_act_199 : decode cL_act 199 = .ok (.invokevirtual 44, 3) := by decide +kernel
theorem dL_act_202 : decode cL_act 202 = .ok (.ireturn, 1) := by decide +kernel
theorem dL_act_203 : decode cL_act 203 = .ok (.iload 4, 2) := by decide +kernel
theorem dL_act_205 : decode cL_act 205 = .ok (.iconst 3, 1) := by decide +kernel
theorem dL_act_206 : decode cL_act 206 = .ok (.invokestatic 15, 3) := by decide +kernel
theorem dL_act_209 : decode cL_act 209 = .ok (.ifCond .ne 12, 3) := by decide +kernel
theorem dL_act_212 : decode cL_act 212 = .ok (.aload_n 0, 1) := by decide +kernel
theorem dL_act_213 : decode cL_act 213 = .ok (.iload 5, 2) := by decide +kernel
theorem dL_act_215 : decode cL_act 215 = .ok (.invokevirtual 47, 3) := by decide +kernel
theorem dL_act_218 : decode cL_act 218 = .ok (.goto 15, 3) := by decide +kernel
theorem dL_act_221 : decode cL_act 221 = .ok (.aload_n 0, 1) := by decide +kernel
theorem dL_act_222 : decode cL_act 222 = .ok (.iload 5, 2) := by decide +kernel
theorem dL_act_224 : decode cL_act 224 = .ok (.iload 4, 2) := by decide +kernel
theorem dL_act_226 : decode cL_act 226 = .ok (.iconst 4, 1) := by decide +kernel
theorem dL_act_227 : decode cL_act 227 = .ok (.invokestatic 15, 3) := by decide +kernel
theorem dL_act_230 : decode cL_act 230 = .ok (.invokevirtual 50, 3) := by decide +kernel
theorem dL_act_233 : decode cL_act 233 = .ok (.ireturn, 1) := by decide +kernel
theorem dL_act_234 : decode cL_act 234 = .ok (.iload 4, 2) := by decide +kernel
theorem dL_act_236 : decode cL_act 236 = .ok (.iconst 2, 1) := by decide +kernel
theorem dL_act_237 : decode cL_act 237 = .ok (.invokestatic 15, 3) := by decide +kernel
theorem dL_act_240 : decode cL_act 240 = .ok (.ifCond .ne 19, 3) := by decide +kernel
theorem dL_act_243 : decode cL_act 243 = .ok (.aload_n 0, 1) := by decide +kernel
theorem dL_act_244 : decode cL_act 244 = .ok (.iconst 0, 1) := by decide +kernel
theorem dL_act_245 : decode cL_act 245 = .ok (.iconst 1, 1) := by decide +kernel
theorem dL_act_246 : decode cL_act 246 = .ok (.iload_n 3, 1) := by decide +kernel
theorem dL_act_247 : decode cL_act 247 = .ok (.bipush 20, 2) := by decide +kernel
theorem dL_act_249 : decode cL_act 249 = .ok (.invokestatic 15, 3) := by decide +kernel
theorem dL_act_252 : decode cL_act 252 = .ok (.iadd, 1) := by decide +kernel
theorem dL_act_253 : decode cL_act 253 = .ok (.invokevirtual 53, 3) := by decide +kernel
theorem dL_act_256 : decode cL_act 256 = .ok (.goto 14, 3) := by decide +kernel
theorem dL_act_259 : decode cL_act 259 = .ok (.aload_n 0, 1) := by decide +kernel
theorem dL_act_260 : decode cL_act 260 = .ok (.iconst 1, 1) := by decide +kernel
theorem dL_act_261 : decode cL_act 261 = .ok (.iload_n 3, 1) := by decide +kernel
theorem dL_act_262 : decode cL_act 262 = .ok (.bipush 60, 2) := by decide +kernel
theorem dL_act_264 : decode cL_act 264 = .ok (.invokestatic 15, 3) := by decide +kernel
theorem dL_act_267 : decode cL_act 267 = .ok (.invokevirtual 53, 3) := by decide +kernel
theorem dL_act_270 : decode cL_act 270 = .ok (.ireturn, 1) := by decide +kernel
theorem dL_act_271 : decode cL_act 271 = .ok (.aload_n 0, 1) := by decide +kernel
theorem dL_act_272 : decode cL_act 272 = .ok (.invokevirtual 56, 3) := by decide +kernel
theorem dL_act_275 : decode cL_act 275 = .ok (.ireturn, 1) := by decide +kernel
theorem dL_feed_0 : decode cL_feed 0 = .ok (.iconst (-1), 1) := by decide +kernel
theorem dL_feed_1 : decode cL_feed 1 = .ok (.istore_n 1, 1) := by decide +kernel
theorem dL_feed_2 : decode cL_feed 2 = .ok (.iconst 0, 1) := by decide +kernel
theorem dL_feed_3 : decode cL_feed 3 = .ok (.istore_n 2, 1) := by decide +kernel
theorem dL_feed_4 : decode cL_feed 4 = .ok (.iconst 0, 1) := by decide +kernel
theorem dL_feed_5 : decode cL_feed 5 = .ok (.istore_n 3, 1) := by decide +kernel
theorem dL_feed_6 : decode cL_feed 6 = .ok (.aload_n 0, 1) := by decide +kernel
theorem dL_feed_7 : decode cL_feed 7 = .ok (.iconst 0, 1) := by decide +kernel
theorem dL_feed_8 : decode cL_feed 8 = .ok (.invokevirtual 59, 3) := by decide +kernel
theorem dL_feed_11 : decode cL_feed 11 = .ok (.bipush 60, 2) := by decide +kernel
theorem dL_feed_13 : decode cL_feed 13 = .ok (.if_icmp .gt 39, 3) := by decide +kernel
theorem dL_feed_16 : decode cL_feed 16 = .ok (.aload_n 0, 1) := by decide +kernel
theorem dL_feed_17 : decode cL_feed 17 = .ok (.iconst 0, 1) := by decide +kernel
theorem dL_feed_18 : decode cL_feed 18 = .ok (.invokevirtual 59, 3) := by decide +kernel
theorem dL_feed_21 : decode cL_feed 21 = .ok (.aload_n 0, 1) := by decide +kernel
theorem dL_feed_22 : decode cL_feed 22 = .ok (.iconst 5, 1) := by decide +kernel
theorem dL_feed_23 : decode cL_feed 23 = .ok (.invokevirtual 59, 3) := by decide +kernel
theorem dL_feed_26 : decode cL_feed 26 = .ok (.iadd, 1) := by decide +kernel
theorem dL_feed_27 : decode cL_feed 27 = .ok (.aload_n 0, 1) := by decide +kernel
theorem dL_feed_28 : decode cL_feed 28 = .ok (.iconst 1, 1) := by decide +kernel
theorem dL_feed_29 : decode cL_feed 29 = .ok (.invokevirtual 59, 3) := by decide +kernel
theorem dL_feed_32 : decode cL_feed 32 = .ok (.if_icmp .ne 20, 3) := by decide +kernel
theorem dL_feed_35 : decode cL_feed 35 = .ok (.aload_n 0, 1) := by decide +kernel
theorem dL_feed_36 : decode cL_feed 36 = .ok (.iconst 4, 1) := by decide +kernel
theorem dL_feed_37 : decode cL_feed 37 = .ok (.invokevirtual 59, 3) := by decide +kernel
theorem dL_feed_40 : decode cL_feed 40 = .ok (.aload_n 0, 1) := by decide +kernel
theorem dL_feed_41 : decode cL_feed 41 = .ok (.iconst 1, 1) := by decide +kernel
theorem dL_feed_42 : decode cL_feed 42 = .ok (.invokevirtual 59, 3) := by decide +kernel
theorem dL_feed_45 : decode cL_feed 45 = .ok (.if_icmp .gt 7, 3) := by decide +kernel
theorem dL_feed_48 : decode cL_feed 48 = .ok (.iconst 1, 1) := by decide +kernel
theorem dL_feed_49 : decode cL_feed 49 = .ok (.goto 4, 3) := by decide +kernel
theorem dL_feed_52 : decode cL_feed 52 = .ok (.iconst 0, 1) := by decide +kernel
theorem dL_feed_53 : decode cL_feed 53 = .ok (.istore 4, 2) := by decide +kernel
theorem dL_feed_55 : decode cL_feed 55 = .ok (.iconst 0, 1) := by decide +kernel
theorem dL_feed_56 : decode cL_feed 56 = .ok (.istore 5, 2) := by decide +kernel
theorem dL_feed_58 : decode cL_feed 58 = .ok (.iload 5, 2) := by decide +kernel
theorem dL_feed_60 : decode cL_feed 60 = .ok (.aload_n 0, 1) := by decide +kernel
theorem dL_feed_61 : decode cL_feed 61 = .ok (.iconst 0, 1) := by decide +kernel
theorem dL_feed_62 : decode cL_feed 62 = .ok (.invokevirtual 59, 3) := by decide +kernel
theorem dL_feed_65 : decode cL_feed 65 = .ok (.if_icmp .ge 132, 3) := by decide +kernel
theorem dL_feed_68 : decode cL_feed 68 = .ok (.iload 4, 2) := by decide +kernel
theorem dL_feed_70 : decode cL_feed 70 = .ok (.ifCond .eq 127, 3) := by decide +kernel
theorem dL_feed_73 : decode cL_feed 73 = .ok (.aload_n 0, 1) := by decide +kernel
theorem dL_feed_74 : decode cL_feed 74 = .ok (.iload 5, 2) := by decide +kernel
theorem dL_feed_76 : decode cL_feed 76 = .ok (.iconst 0, 1) := by decide +kernel
theorem dL_feed_77 : decode cL_feed 77 = .ok (.invokevirtual 62, 3) := by decide +kernel
theorem dL_feed_80 : decode cL_feed 80 = .ok (.iload_n 1, 1) := by decide +kernel
theorem dL_feed_81 : decode cL_feed 81 = .ok (.if_icmp .le 48, 3) := by decide +kernel
theorem dL_feed_84 : decode cL_feed 84 = .ok (.aload_n 0, 1) := by decide +kernel
theorem dL_feed_85 : decode cL_feed 85 = .ok (.iload 5, 2) := by decide +kernel
theorem dL_feed_87 : decode cL_feed 87 = .ok (.iconst 0, 1) := by decide +kernel
theorem dL_feed_88 : decode cL_feed 88 = .ok (.invokevirtual 62, 3) := by decide +kernel
theorem dL_feed_91 : decode cL_feed 91 = .ok (.aload_n 0, 1) := by decide +kernel
theorem dL_feed_92 : decode cL_feed 92 = .ok (.iconst 1, 1) := by decide +kernel
theorem dL_feed_93 : decode cL_feed 93 = .ok (.invokevirtual 59, 3) := by decide +kernel
theorem dL_feed_96 : decode cL_feed 96 = .ok (.if_icmp .ge 33, 3) := by decide +kernel
theorem dL_feed_99 : decode cL_feed 99 = .ok (.aload_n 0, 1) := by decide +kernel
theorem dL_feed_100 : decode cL_feed 100 = .ok (.iload 5, 2) := by decide +kernel
theorem dL_feed_102 : decode cL_feed 102 = .ok (.iconst 3, 1) := by decide +kernel
theorem dL_feed_103 : decode cL_feed 103 = .ok (.invokevirtual 62, 3) := by decide +kernel
theorem dL_feed_106 : decode cL_feed 106 = .ok (.iload_n 2, 1) := by decide +kernel
theorem dL_feed_107 : decode cL_feed 107 = .ok (.if_icmp .lt 22, 3) := by decide +kernel
theorem dL_feed_110 : decode cL_feed 110 = .ok (.aload_n 0, 1) := by decide +kernel
theorem dL_feed_111 : decode cL_feed 111 = .ok (.iload 5, 2) := by decide +kernel
theorem dL_feed_113 : decode cL_feed 113 = .ok (.iconst 3, 1) := by decide +kernel
theorem dL_feed_114 : decode cL_feed 114 = .ok (.invokevirtual 62, 3) := by decide +kernel
theorem dL_feed_117 : decode cL_feed 117 = .ok (.aload_n 0, 1) := by decide +kernel
theorem dL_feed_118 : decode cL_feed 118 = .ok (.iconst 3, 1) := by decide +kernel
theorem dL_feed_119 : decode cL_feed 119 = .ok (.invokevirtual 59, 3) := by decide +kernel
theorem dL_feed_122 : decode cL_feed 122 = .ok (.if_icmp .gt 7, 3) := by decide +kernel
theorem dL_feed_125 : decode cL_feed 125 = .ok (.iconst 1, 1) := by decide +kernel
theorem dL_feed_126 : decode cL_feed 126 = .ok (.goto 4, 3) := by decide +kernel
theorem dL_feed_129 : decode cL_feed 129 = .ok (.iconst 0, 1) := by decide +kernel
theorem dL_feed_130 : decode cL_feed 130 = .ok (.istore 4, 2) := by decide +kernel
theorem dL_feed_132 : decode cL_feed 132 = .ok (.iload 4, 2) := by decide +kernel
theorem dL_feed_134 : decode cL_feed 134 = .ok (.ifCond .eq 38, 3) := by decide +kernel
theorem dL_feed_137 : decode cL_feed 137 = .ok (.aload_n 0, 1) := by decide +kernel
theorem dL_feed_138 : decode cL_feed 138 = .ok (.iload 5, 2) := by decide +kernel
theorem dL_feed_140 : decode cL_feed 140 = .ok (.iconst 4, 1) := by decide +kernel
theorem dL_feed_141 : decode cL_feed 141 = .ok (.invokevirtual 62, 3) := by decide +kernel
theorem dL_feed_144 : decode cL_feed 144 = .ok (.ifCond .eq 24, 3) := by decide +kernel
theorem dL_feed_147 : decode cL_feed 147 = .ok (.aload_n 0, 1) := by decide +kernel
theorem dL_feed_148 : decode cL_feed 148 = .ok (.aload_n 0, 1) := by decide +kernel
theorem dL_feed_149 : decode cL_feed 149 = .ok (.iload 5, 2) := by decide +kernel
theorem dL_feed_151 : decode cL_feed 151 = .ok (.iconst 1, 1) := by decide +kernel
theorem dL_feed_152 : decode cL_feed 152 = .ok (.invokevirtual 62, 3) := by decide +kernel
theorem dL_feed_155 : decode cL_feed 155 = .ok (.invokevirtual 65, 3) := by decide +kernel
theorem dL_feed_158 : decode cL_feed 158 = .ok (.aload_n 0, 1) := by decide +kernel
theorem dL_feed_159 : decode cL_feed 159 = .ok (.iload 5, 2) := by decide +kernel
theorem dL_feed_161 : decode cL_feed 161 = .ok (.iconst 2, 1) := by decide +kernel
theorem dL_feed_162 : decode cL_feed 162 = .ok (.invokevirtual 62, 3) := by decide +kernel
theorem dL_feed_165 : decode cL_feed 165 = .ok (.if_icmp .ne 7, 3) := by decide +kernel
theorem dL_feed_168 : decode cL_feed 168 = .ok (.iconst 1, 1) := by decide +kernel
theorem dL_feed_169 : decode cL_feed 169 = .ok (.goto 4, 3) := by decide +kernel
theorem dL_feed_172 : decode cL_feed 172 = .ok (.iconst 0, 1) := by decide +kernel
theorem dL_feed_173 : decode cL_feed 173 = .ok (.istore 4, 2) := by decide +kernel
theorem dL_feed_175 : decode cL_feed 175 = .ok (.aload_n 0, 1) := by decide +kernel
theorem dL_feed_176 : decode cL_feed 176 = .ok (.iload 5, 2) := by decide +kernel
theorem dL_feed_178 : decode cL_feed 178 = .ok (.iconst 0, 1) := by decide +kernel
theorem dL_feed_179 : decode cL_feed 179 = .ok (.invokevirtual 62, 3) := by decide +kernel
theorem dL_feed_182 : decode cL_feed 182 = .ok (.istore_n 1, 1) := by decide +kernel
theorem dL_feed_183 : decode cL_feed 183 = .ok (.aload_n 0, 1) := by decide +kernel
theorem dL_feed_184 : decode cL_feed 184 = .ok (.iload 5, 2) := by decide +kernel
theorem dL_feed_186 : decode cL_feed 186 = .ok (.iconst 3, 1) := by decide +kernel
theorem dL_feed_187 : decode cL_feed 187 = .ok (.invokevirtual 62, 3) := by decide +kernel
theorem dL_feed_190 : decode cL_feed 190 = .ok (.istore_n 2, 1) := by decide +kernel
theorem dL_feed_191 : decode cL_feed 191 = .ok (.iinc 5 1, 3) := by decide +kernel
theorem dL_feed_194 : decode cL_feed 194 = .ok (.goto (-136), 3) := by decide +kernel
theorem dL_feed_197 : decode cL_feed 197 = .ok (.iconst 0, 1) := by decide +kernel
theorem dL_feed_198 : decode cL_feed 198 = .ok (.istore 5, 2) := by decide +kernel
theorem dL_feed_200 : decode cL_feed 200 = .ok (.iload 5, 2) := by decide +kernel
theorem dL_feed_202 : decode cL_feed 202 = .ok (.bipush 12, 2) := by decide +kernel
theorem dL_feed_204 : decode cL_feed 204 = .ok (.if_icmp .ge 100, 3) := by decide +kernel
theorem dL_feed_207 : decode cL_feed 207 = .ok (.iload 4, 2) := by decide +kernel
theorem dL_feed_209 : decode cL_feed 209 = .ok (.ifCond .eq 95, 3) := by decide +kernel
theorem dL_feed_212 : decode cL_feed 212 = .ok (.iconst 0, 1) := by decide +kernel
theorem dL_feed_213 : decode cL_feed 213 = .ok (.istore 6, 2) := by decide +kernel
theorem dL_feed_215 : decode cL_feed 215 = .ok (.iconst 0, 1) := by decide +kernel
theorem dL_feed_216 : decode cL_feed 216 = .ok (.istore 7, 2) := by decide +kernel
theorem dL_feed_218 : decode cL_feed 218 = .ok (.iload 7, 2) := by decide +kernel
theorem dL_feed_220 : decode cL_feed 220 = .ok (.aload_n 0, 1) := by decide +kernel
theorem dL_feed_221 : decode cL_feed 221 = .ok (.iconst 0, 1) := by decide +kernel
theorem dL_feed_222 : decode cL_feed 222 = .ok (.invokevirtual 59, 3) := by decide +kernel
theorem dL_feed_225 : decode cL_feed 225 = .ok (.if_icmp .ge 33, 3) := by decide +kernel
theorem dL_feed_228 : decode cL_feed 228 = .ok (.iload 6, 2) := by decide +kernel
theorem dL_feed_230 : decode cL_feed 230 = .ok (.ifCond .ne 15, 3) := by decide +kernel
theorem dL_feed_233 : decode cL_feed 233 = .ok (.aload_n 0, 1) := by decide +kernel
theorem dL_feed_234 : decode cL_feed 234 = .ok (.iload 7, 2) := by decide +kernel
theorem dL_feed_236 : decode cL_feed 236 = .ok (.iconst 1, 1) := by decide +kernel
theorem dL_feed_237 : decode cL_feed 237 = .ok (.invokevirtual 62, 3) := by decide +kernel
theorem dL_feed_240 : decode cL_feed 240 = .ok (.iload 5, 2) := by decide +kernel
theorem dL_feed_242 : decode cL_feed 242 = .ok (.if_icmp .ne 7, 3) := by decide +kernel
theorem dL_feed_245 : decode cL_feed 245 = .ok (.iconst 1, 1) := by decide +kernel
theorem dL_feed_246 : decode cL_feed 246 = .ok (.goto 4, 3) := by decide +kernel
theorem dL_feed_249 : decode cL_feed 249 = .ok (.iconst 0, 1) := by decide +kernel
theorem dL_feed_250 : decode cL_feed 250 = .ok (.istore 6, 2) := by decide +kernel
theorem dL_feed_252 : decode cL_feed 252 = .ok (.iinc 7 1, 3) := by decide +kernel
theorem dL_feed_255 : decode cL_feed 255 = .ok (.goto (-37), 3) := by decide +kernel
theorem dL_feed_258 : decode cL_feed 258 = .ok (.iload_n 3, 1) := by decide +kernel
theorem dL_feed_259 : decode cL_feed 259 = .ok (.aload_n 0, 1) := by decide +kernel
theorem dL_feed_260 : decode cL_feed 260 = .ok (.iload 5, 2) := by decide +kernel
theorem dL_feed_262 : decode cL_feed 262 = .ok (.invokevirtual 65, 3) := by decide +kernel
theorem dL_feed_265 : decode cL_feed 265 = .ok (.ifCond .lt 7, 3) := by decide +kernel
theorem dL_feed_268 : decode cL_feed 268 = .ok (.iconst 1, 1) := by decide +kernel
theorem dL_feed_269 : decode cL_feed 269 = .ok (.goto 4, 3) := by decide +kernel
theorem dL_feed_272 : decode cL_feed 272 = .ok (.iconst 0, 1) := by decide +kernel
theorem dL_feed_273 : decode cL_feed 273 = .ok (.iadd, 1) := by decide +kernel
theorem dL_feed_274 : decode cL_feed 274 = .ok (.istore_n 3, 1) := by decide +kernel
theorem dL_feed_275 : decode cL_feed 275 = .ok (.iload 6, 2) := by decide +kernel
theorem dL_feed_277 : decode cL_feed 277 = .ok (.ifCond .ne 14, 3) := by decide +kernel
theorem dL_feed_280 : decode cL_feed 280 = .ok (.aload_n 0, 1) := by decide +kernel
theorem dL_feed_281 : decode cL_feed 281 = .ok (.iload 5, 2) := by decide +kernel
theorem dL_feed_283 : decode cL_feed 283 = .ok (.invokevirtual 65, 3) := by decide +kernel
theorem dL_feed_286 : decode cL_feed 286 = .ok (.bipush (-6), 2) := by decide +kernel
theorem dL_feed_288 : decode cL_feed 288 = .ok (.if_icmp .ne 7, 3) := by decide +kernel
theorem dL_feed_291 : decode cL_feed 291 = .ok (.iconst 1, 1) := by decide +kernel
theorem dL_feed_292 : decode cL_feed 292 = .ok (.goto 4, 3) := by decide +kernel
theorem dL_feed_295 : decode cL_feed 295 = .ok (.iconst 0, 1) := by decide +kernel
theorem dL_feed_296 : decode cL_feed 296 = .ok (.istore 4, 2) := by decide +kernel
theorem dL_feed_298 : decode cL_feed 298 = .ok (.iinc 5 1, 3) := by decide +kernel
theorem dL_feed_301 : decode cL_feed 301 = .ok (.goto (-101), 3) := by decide +kernel
theorem dL_feed_304 : decode cL_feed 304 = .ok (.iload 4, 2) := by decide +kernel
theorem dL_feed_306 : decode cL_feed 306 = .ok (.ifCond .eq 16, 3) := by decide +kernel
theorem dL_feed_309 : decode cL_feed 309 = .ok (.aload_n 0, 1) := by decide +kernel
theorem dL_feed_310 : decode cL_feed 310 = .ok (.iconst 2, 1) := by decide +kernel
theorem dL_feed_311 : decode cL_feed 311 = .ok (.invokevirtual 59, 3) := by decide +kernel
theorem dL_feed_314 : decode cL_feed 314 = .ok (.iload_n 3, 1) := by decide +kernel
theorem dL_feed_315 : decode cL_feed 315 = .ok (.if_icmp .ne 7, 3) := by decide +kernel
theorem dL_feed_318 : decode cL_feed 318 = .ok (.iconst 1, 1) := by decide +kernel
theorem dL_feed_319 : decode cL_feed 319 = .ok (.goto 4, 3) := by decide +kernel
theorem dL_feed_322 : decode cL_feed 322 = .ok (.iconst 0, 1) := by decide +kernel
theorem dL_feed_323 : decode cL_feed 323 = .ok (.ireturn, 1) := by decide +kernel
theorem dL_readers_0 : decode cL_readers 0 = .ok (.iconst 1, 1) := by decide +kernel
theorem dL_readers_1 : decode cL_readers 1 = .ok (.istore_n 1, 1) := by decide +kernel
theorem dL_readers_2 : decode cL_readers 2 = .ok (.iconst 0, 1) := by decide +kernel
theorem dL_readers_3 : decode cL_readers 3 = .ok (.istore_n 2, 1) := by decide +kernel
theorem dL_readers_4 : decode cL_readers 4 = .ok (.iload_n 2, 1) := by decide +kernel
theorem dL_readers_5 : decode cL_readers 5 = .ok (.aload_n 0, 1) := by decide +kernel
theorem dL_readers_6 : decode cL_readers 6 = .ok (.bipush 6, 2) := by decide +kernel
theorem dL_readers_8 : decode cL_readers 8 = .ok (.invokevirtual 59, 3) := by decide +kernel
theorem dL_readers_11 : decode cL_readers 11 = .ok (.if_icmp .ge 254, 3) := by decide +kernel
theorem dL_readers_14 : decode cL_readers 14 = .ok (.iload_n 1, 1) := by decide +kernel
theorem dL_readers_15 : decode cL_readers 15 = .ok (.ifCond .eq 250, 3) := by decide +kernel
theorem dL_readers_18 : decode cL_readers 18 = .ok (.iconst 0, 1) := by decide +kernel
theorem dL_readers_19 : decode cL_readers 19 = .ok (.istore_n 3, 1) := by decide +kernel
theorem dL_readers_20 : decode cL_readers 20 = .ok (.iconst 0, 1) := by decide +kernel
theorem dL_readers_21 : decode cL_readers 21 = .ok (.istore 4, 2) := by decide +kernel
theorem dL_readers_23 : decode cL_readers 23 = .ok (.iconst 0, 1) := by decide +kernel
theorem dL_readers_24 : decode cL_readers 24 = .ok (.istore 5, 2) := by decide +kernel
theorem dL_readers_26 : decode cL_readers 26 = .ok (.iload 5, 2) := by decide +kernel
theorem dL_readers_28 : decode cL_readers 28 = .ok (.aload_n 0, 1) := by decide +kernel
theorem dL_readers_29 : decode cL_readers 29 = .ok (.iconst 0, 1) := by decide +kernel
theorem dL_readers_30 : decode cL_readers 30 = .ok (.invokevirtual 59, 3) := by decide +kernel
theorem dL_readers_33 : decode cL_readers 33 = .ok (.if_icmp .ge 33, 3) := by decide +kernel
theorem dL_readers_36 : decode cL_readers 36 = .ok (.iload_n 3, 1) := by decide +kernel
theorem dL_readers_37 : decode cL_readers 37 = .ok (.aload_n 0, 1) := by decide +kernel
theorem dL_readers_38 : decode cL_readers 38 = .ok (.iload 5, 2) := by decide +kernel
theorem dL_readers_40 : decode cL_readers 40 = .ok (.iconst 0, 1) := by decide +kernel
theorem dL_readers_41 : decode cL_readers 41 = .ok (.invokevirtual 62, 3) := by decide +kernel
theorem dL_readers_44 : decode cL_readers 44 = .ok (.aload_n 0, 1) := by decide +kernel
theorem dL_readers_45 : decode cL_readers 45 = .ok (.iload_n 2, 1) := by decide +kernel
theorem dL_readers_46 : decode cL_readers 46 = .ok (.iconst 0, 1) := by decide +kernel
theorem dL_readers_47 : decode cL_readers 47 = .ok (.invokevirtual 68, 3) := by decide +kernel
theorem dL_readers_50 : decode cL_readers 50 = .ok (.if_icmp .lt 7, 3) := by decide +kernel
theorem dL_readers_53 : decode cL_readers 53 = .ok (.iconst 1, 1) := by decide +kernel
theorem dL_readers_54 : decode cL_readers 54 = .ok (.goto 4, 3) := by decide +kernel
theorem dL_readers_57 : decode cL_readers 57 = .ok (.iconst 0, 1) := by decide +kernel
theorem dL_readers_58 : decode cL_readers 58 = .ok (.iadd, 1) := by decide +kernel
theorem dL_readers_59 : decode cL_readers 59 = .ok (.istore_n 3, 1) := by decide +kernel
theorem dL_readers_60 : decode cL_readers 60 = .ok (.iinc 5 1, 3) := by decide +kernel
theorem dL_readers_63 : decode cL_readers 63 = .ok (.goto (-37), 3) := by decide +kernel
theorem dL_readers_66 : decode cL_readers 66 = .ok (.iconst 0, 1) := by decide +kernel
theorem dL_readers_67 : decode cL_readers 67 = .ok (.istore 5, 2) := by decide +kernel
theorem dL_readers_69 : decode cL_readers 69 = .ok (.iload 5, 2) := by decide +kernel
theorem dL_readers_71 : decode cL_readers 71 = .ok (.bipush 12, 2) := by decide +kernel
theorem dL_readers_73 : decode cL_readers 73 = .ok (.if_icmp .ge 38, 3) := by decide +kernel
theorem dL_readers_76 : decode cL_readers 76 = .ok (.iload 4, 2) := by decide +kernel
theorem dL_readers_78 : decode cL_readers 78 = .ok (.aload_n 0, 1) := by decide +kernel
theorem dL_readers_79 : decode cL_readers 79 = .ok (.iload_n 2, 1) := by decide +kernel
theorem dL_readers_80 : decode cL_readers 80 = .ok (.iload 5, 2) := by decide +kernel
theorem dL_readers_82 : decode cL_readers 82 = .ok (.invokevirtual 71, 3) := by decide +kernel
theorem dL_readers_85 : decode cL_readers 85 = .ok (.aload_n 0, 1) := by decide +kernel
theorem dL_readers_86 : decode cL_readers 86 = .ok (.iload 5, 2) := by decide +kernel
theorem dL_readers_88 : decode cL_readers 88 = .ok (.invokevirtual 65, 3) := by decide +kernel
theorem dL_readers_91 : decode cL_readers 91 = .ok (.if_icmp .ne 7, 3) := by decide +kernel
theorem dL_readers_94 : decode cL_readers 94 = .ok (.iconst 0, 1) := by decide +kernel
theorem dL_readers_95 : decode cL_readers 95 = .ok (.goto 7, 3) := by decide +kernel
theorem dL_readers_98 : decode cL_readers 98 = .ok (.iconst 1, 1) := by decide +kernel
theorem dL_readers_99 : decode cL_readers 99 = .ok (.iload 5, 2) := by decide +kernel
theorem dL_readers_101 : decode cL_readers 101 = .ok (.ishl, 1) := by decide +kernel
theorem dL_readers_102 : decode cL_readers 102 = .ok (.ior, 1) := by decide +kernel
theorem dL_readers_103 : decode cL_readers 103 = .ok (.istore 4, 2) := by decide +kernel
theorem dL_readers_105 : decode cL_readers 105 = .ok (.iinc 5 1, 3) := by decide +kernel
theorem dL_readers_108 : decode cL_readers 108 = .ok (.goto (-39), 3) := by decide +kernel
theorem dL_readers_111 : decode cL_readers 111 = .ok (.aload_n 0, 1) := by decide +kernel
theorem dL_readers_112 : decode cL_readers 112 = .ok (.iload_n 2, 1) := by decide +kernel
theorem dL_readers_113 : decode cL_readers 113 = .ok (.iconst 0, 1) := by decide +kernel
theorem dL_readers_114 : decode cL_readers 114 = .ok (.invokevirtual 68, 3) := by decide +kernel
theorem dL_readers_117 : decode cL_readers 117 = .ok (.ifCond .le 21, 3) := by decide +kernel
theorem dL_readers_120 : decode cL_readers 120 = .ok (.aload_n 0, 1) := by decide +kernel
theorem dL_readers_121 : decode cL_readers 121 = .ok (.iload_n 2, 1) := by decide +kernel
theorem dL_readers_122 : decode cL_readers 122 = .ok (.iconst 0, 1) := by decide +kernel
theorem dL_readers_123 : decode cL_readers 123 = .ok (.invokevirtual 68, 3) := by decide +kernel
theorem dL_readers_126 : decode cL_readers 126 = .ok (.aload_n 0, 1) := by decide +kernel
theorem dL_readers_127 : decode cL_readers 127 = .ok (.iconst 4, 1) := by decide +kernel
theorem dL_readers_128 : decode cL_readers 128 = .ok (.invokevirtual 59, 3) := by decide +kernel
theorem dL_readers_131 : decode cL_readers 131 = .ok (.if_icmp .ge 7, 3) := by decide +kernel
theorem dL_readers_134 : decode cL_readers 134 = .ok (.iconst 1, 1) := by decide +kernel
theorem dL_readers_135 : decode cL_readers 135 = .ok (.goto 4, 3) := by decide +kernel
theorem dL_readers_138 : decode cL_readers 138 = .ok (.iconst 0, 1) := by decide +kernel
theorem dL_readers_139 : decode cL_readers 139 = .ok (.istore 5, 2) := by decide +kernel
theorem dL_readers_141 : decode cL_readers 141 = .ok (.aload_n 0, 1) := by decide +kernel
theorem dL_readers_142 : decode cL_readers 142 = .ok (.iload_n 2, 1) := by decide +kernel
theorem dL_readers_143 : decode cL_readers 143 = .ok (.iconst 2, 1) := by decide +kernel
theorem dL_readers_144 : decode cL_readers 144 = .ok (.invokevirtual 68, 3) := by decide +kernel
theorem dL_readers_147 : decode cL_readers 147 = .ok (.iload_n 3, 1) := by decide +kernel
theorem dL_readers_148 : decode cL_readers 148 = .ok (.if_icmp .ne 57, 3) := by decide +kernel
theorem dL_readers_151 : decode cL_readers 151 = .ok (.aload_n 0, 1) := by decide +kernel
theorem dL_readers_152 : decode cL_readers 152 = .ok (.iload_n 2, 1) := by decide +kernel
theorem dL_readers_153 : decode cL_readers 153 = .ok (.iconst 5, 1) := by decide +kernel
theorem dL_readers_154 : decode cL_readers 154 = .ok (.invokevirtual 68, 3) := by decide +kernel
theorem dL_readers_157 : decode cL_readers 157 = .ok (.iload 4, 2) := by decide +kernel
theorem dL_readers_159 : decode cL_readers 159 = .ok (.if_icmp .ne 46, 3) := by decide +kernel
theorem dL_readers_162 : decode cL_readers 162 = .ok (.aload_n 0, 1) := by decide +kernel
theorem dL_readers_163 : decode cL_readers 163 = .ok (.iload_n 2, 1) := by decide +kernel
theorem dL_readers_164 : decode cL_readers 164 = .ok (.iconst 3, 1) := by decide +kernel
theorem dL_readers_165 : decode cL_readers 165 = .ok (.invokevirtual 68, 3) := by decide +kernel
theorem dL_readers_168 : decode cL_readers 168 = .ok (.iconst 1, 1) := by decide +kernel
theorem dL_readers_169 : decode cL_readers 169 = .ok (.if_icmp .ne 7, 3) := by decide +kernel
theorem dL_readers_172 : decode cL_readers 172 = .ok (.iconst 1, 1) := by decide +kernel
theorem dL_readers_173 : decode cL_readers 173 = .ok (.goto 4, 3) := by decide +kernel
theorem dL_readers_176 : decode cL_readers 176 = .ok (.iconst 0, 1) := by decide +kernel
theorem dL_readers_177 : decode cL_readers 177 = .ok (.iload 5, 2) := by decide +kernel
theorem dL_readers_179 : decode cL_readers 179 = .ok (.if_icmp .ne 26, 3) := by decide +kernel
theorem dL_readers_182 : decode cL_readers 182 = .ok (.aload_n 0, 1) := by decide +kernel
theorem dL_readers_183 : decode cL_readers 183 = .ok (.bipush 7, 2) := by decide +kernel
theorem dL_readers_185 : decode cL_readers 185 = .ok (.invokevirtual 59, 3) := by decide +kernel
theorem dL_readers_188 : decode cL_readers 188 = .ok (.iload_n 2, 1) := by decide +kernel
theorem dL_readers_189 : decode cL_readers 189 = .ok (.ishr, 1) := by decide +kernel
theorem dL_readers_190 : decode cL_readers 190 = .ok (.iconst 1, 1) := by decide +kernel
theorem dL_readers_191 : decode cL_readers 191 = .ok (.iand, 1) := by decide +kernel
theorem dL_readers_192 : decode cL_readers 192 = .ok (.aload_n 0, 1) := by decide +kernel
theorem dL_readers_193 : decode cL_readers 193 = .ok (.iload_n 2, 1) := by decide +kernel
theorem dL_readers_194 : decode cL_readers 194 = .ok (.iconst 3, 1) := by decide +kernel
theorem dL_readers_195 : decode cL_readers 195 = .ok (.invokevirtual 68, 3) := by decide +kernel
theorem dL_readers_198 : decode cL_readers 198 = .ok (.if_icmp .ne 7, 3) := by decide +kernel
theorem dL_readers_201 : decode cL_readers 201 = .ok (.iconst 1, 1) := by decide +kernel
theorem dL_readers_202 : decode cL_readers 202 = .ok (.goto 4, 3) := by decide +kernel
theorem dL_readers_205 : decode cL_readers 205 = .ok (.iconst 0, 1) := by decide +kernel
theorem dL_readers_206 : decode cL_readers 206 = .ok (.istore_n 1, 1) := by decide +kernel
theorem dL_readers_207 : decode cL_readers 207 = .ok (.iload_n 1, 1) := by decide +kernel
theorem dL_readers_208 : decode cL_readers 208 = .ok (.ifCond .eq 49, 3) := by decide +kernel
theorem dL_readers_211 : decode cL_readers 211 = .ok (.aload_n 0, 1) := by decide +kernel
theorem dL_readers_212 : decode cL_readers 212 = .ok (.iload_n 2, 1) := by decide +kernel
theorem dL_readers_213 : decode cL_readers 213 = .ok (.iconst 0, 1) := by decide +kernel
theorem dL_readers_214 : decode cL_readers 214 = .ok (.invokevirtual 68, 3) := by decide +kernel
theorem dL_readers_217 : decode cL_readers 217 = .ok (.aload_n 0, 1) := by decide +kernel
theorem dL_readers_218 : decode cL_readers 218 = .ok (.iconst 1, 1) := by decide +kernel
theorem dL_readers_219 : decode cL_readers 219 = .ok (.invokevirtual 59, 3) := by decide +kernel
theorem dL_readers_222 : decode cL_readers 222 = .ok (.if_icmp .gt 35, 3) := by decide +kernel
theorem dL_readers_225 : decode cL_readers 225 = .ok (.iload 5, 2) := by decide +kernel
theorem dL_readers_227 : decode cL_readers 227 = .ok (.ifCond .ne 12, 3) := by decide +kernel
theorem dL_readers_230 : decode cL_readers 230 = .ok (.iload_n 3, 1) := by decide +kernel
theorem dL_readers_231 : decode cL_readers 231 = .ok (.ifCond .gt 8, 3) := by decide +kernel
theorem dL_readers_234 : decode cL_readers 234 = .ok (.iload 4, 2) := by decide +kernel
theorem dL_readers_236 : decode cL_readers 236 = .ok (.ifCond .ne 21, 3) := by decide +kernel
theorem dL_readers_239 : decode cL_readers 239 = .ok (.aload_n 0, 1) := by decide +kernel
theorem dL_readers_240 : decode cL_readers 240 = .ok (.iload_n 2, 1) := by decide +kernel
theorem dL_readers_241 : decode cL_readers 241 = .ok (.iconst 1, 1) := by decide +kernel
theorem dL_readers_242 : decode cL_readers 242 = .ok (.invokevirtual 74, 3) := by decide +kernel
theorem dL_readers_245 : decode cL_readers 245 = .ok (.aload_n 0, 1) := by decide +kernel
theorem dL_readers_246 : decode cL_readers 246 = .ok (.iconst 0, 1) := by decide +kernel
theorem dL_readers_247 : decode cL_readers 247 = .ok (.invokevirtual 59, 3) := by decide +kernel
theorem dL_readers_250 : decode cL_readers 250 = .ok (.if_icmp .gt 7, 3) := by decide +kernel
theorem dL_readers_253 : decode cL_readers 253 = .ok (.iconst 1, 1) := by decide +kernel
theorem dL_readers_254 : decode cL_readers 254 = .ok (.goto 4, 3) := by decide +kernel
theorem dL_readers_257 : decode cL_readers 257 = .ok (.iconst 0, 1) := by decide +kernel
theorem dL_readers_258 : decode cL_readers 258 = .ok (.istore_n 1, 1) := by decide +kernel
theorem dL_readers_259 : decode cL_readers 259 = .ok (.iinc 2 1, 3) := by decide +kernel
theorem dL_readers_262 : decode cL_readers 262 = .ok (.goto (-258), 3) := by decide +kernel
theorem dL_readers_265 : decode cL_readers 265 = .ok (.aload_n 0, 1) := by decide +kernel
theorem dL_readers_266 : decode cL_readers 266 = .ok (.iconst 1, 1) := by decide +kernel
theorem dL_readers_267 : decode cL_readers 267 = .ok (.invokevirtual 59, 3) := by decide +kernel
theorem dL_readers_270 : decode cL_readers 270 = .ok (.istore_n 2, 1) := by decide +kernel
theorem dL_readers_271 : decode cL_readers 271 = .ok (.iconst 0, 1) := by decide +kernel
theorem dL_readers_272 : decode cL_readers 272 = .ok (.istore_n 3, 1) := by decide +kernel
theorem dL_readers_273 : decode cL_readers 273 = .ok (.iload_n 3, 1) := by decide +kernel
theorem dL_readers_274 : decode cL_readers 274 = .ok (.aload_n 0, 1) := by decide +kernel
theorem dL_readers_275 : decode cL_readers 275 = .ok (.bipush 8, 2) := by decide +kernel
theorem dL_readers_277 : decode cL_readers 277 = .ok (.invokevirtual 59, 3) := by decide +kernel
theorem dL_readers_280 : decode cL_readers 280 = .ok (.if_icmp .ge 47, 3) := by decide +kernel
theorem dL_readers_283 : decode cL_readers 283 = .ok (.iload_n 1, 1) := by decide +kernel
theorem dL_readers_284 : decode cL_readers 284 = .ok (.ifCond .eq 43, 3) := by decide +kernel
theorem dL_readers_287 : decode cL_readers 287 = .ok (.aload_n 0, 1) := by decide +kernel
theorem dL_readers_288 : decode cL_readers 288 = .ok (.iload_n 3, 1) := by decide +kernel
theorem dL_readers_289 : decode cL_readers 289 = .ok (.iconst 0, 1) := by decide +kernel
theorem dL_readers_290 : decode cL_readers 290 = .ok (.invokevirtual 77, 3) := by decide +kernel
theorem dL_readers_293 : decode cL_readers 293 = .ok (.iload_n 2, 1) := by decide +kernel
theorem dL_readers_294 : decode cL_readers 294 = .ok (.if_icmp .gt 18, 3) := by decide +kernel
theorem dL_readers_297 : decode cL_readers 297 = .ok (.aload_n 0, 1) := by decide +kernel
theorem dL_readers_298 : decode cL_readers 298 = .ok (.iload_n 3, 1) := by decide +kernel
theorem dL_readers_299 : decode cL_readers 299 = .ok (.iconst 1, 1) := by decide +kernel
theorem dL_readers_300 : decode cL_readers 300 = .ok (.invokevirtual 77, 3) := by decide +kernel
theorem dL_readers_303 : decode cL_readers 303 = .ok (.bipush 12, 2) := by decide +kernel
theorem dL_readers_305 : decode cL_readers 305 = .ok (.if_icmp .gt 7, 3) := by decide +kernel
theorem dL_readers_308 : decode cL_readers 308 = .ok (.iconst 1, 1) := by decide +kernel
theorem dL_readers_309 : decode cL_readers 309 = .ok (.goto 4, 3) := by decide +kernel
theorem dL_readers_312 : decode cL_readers 312 = .ok (.iconst 0, 1) := by decide +kernel
theorem dL_readers_313 : decode cL_readers 313 = .ok (.istore_n 1, 1) := by decide +kernel
theorem dL_readers_314 : decode cL_readers 314 = .ok (.aload_n 0, 1) := by decide +kernel
theorem dL_readers_315 : decode cL_readers 315 = .ok (.iload_n 3, 1) := by decide +kernel
theorem dL_readers_316 : decode cL_readers 316 = .ok (.iconst 0, 1) := by decide +kernel
theorem dL_readers_317 : decode cL_readers 317 = .ok (.invokevirtual 77, 3) := by decide +kernel
theorem dL_readers_320 : decode cL_readers 320 = .ok (.istore_n 2, 1) := by decide +kernel
theorem dL_readers_321 : decode cL_readers 321 = .ok (.iinc 3 1, 3) := by decide +kernel
theorem dL_readers_324 : decode cL_readers 324 = .ok (.goto (-51), 3) := by decide +kernel
theorem dL_readers_327 : decode cL_readers 327 = .ok (.iload_n 1, 1) := by decide +kernel
theorem dL_readers_328 : decode cL_readers 328 = .ok (.ifCond .eq 17, 3) := by decide +kernel
theorem dL_readers_331 : decode cL_readers 331 = .ok (.aload_n 0, 1) := by decide +kernel
theorem dL_readers_332 : decode cL_readers 332 = .ok (.bipush 8, 2) := by decide +kernel
theorem dL_readers_334 : decode cL_readers 334 = .ok (.invokevirtual 59, 3) := by decide +kernel
theorem dL_readers_337 : decode cL_readers 337 = .ok (.iconst 4, 1) := by decide +kernel
theorem dL_readers_338 : decode cL_readers 338 = .ok (.if_icmp .gt 7, 3) := by decide +kernel
theorem dL_readers_341 : decode cL_readers 341 = .ok (.iconst 1, 1) := by decide +kernel
theorem dL_readers_342 : decode cL_readers 342 = .ok (.goto 4, 3) := by decide +kernel
theorem dL_readers_345 : decode cL_readers 345 = .ok (.iconst 0, 1) := by decide +kernel
theorem dL_readers_346 : decode cL_readers 346 = .ok (.ireturn, 1) := by decide +kernel
theorem dL_law_0 : decode cL_law 0 = .ok (.new 20, 3) := by decide +kernel
theorem dL_law_3 : decode cL_law 3 = .ok (.dup, 1) := by decide +kernel
theorem dL_law_4 : decode cL_law 4 = .ok (.invokespecial 80, 3) := by decide +kernel
theorem dL_law_7 : decode cL_law 7 = .ok (.astore_n 1, 1) := by decide +kernel
theorem dL_law_8 : decode cL_law 8 = .ok (.iconst 1, 1) := by decide +kernel
theorem dL_law_9 : decode cL_law 9 = .ok (.istore_n 2, 1) := by decide +kernel
theorem dL_law_10 : decode cL_law 10 = .ok (.aload_n 0, 1) := by decide +kernel
theorem dL_law_11 : decode cL_law 11 = .ok (.arraylength, 1) := by decide +kernel
theorem dL_law_12 : decode cL_law 12 = .ok (.iconst 3, 1) := by decide +kernel
theorem dL_law_13 : decode cL_law 13 = .ok (.idiv, 1) := by decide +kernel
theorem dL_law_14 : decode cL_law 14 = .ok (.bipush 40, 2) := by decide +kernel
theorem dL_law_16 : decode cL_law 16 = .ok (.if_icmp .le 8, 3) := by decide +kernel
theorem dL_law_19 : decode cL_law 19 = .ok (.bipush 40, 2) := by decide +kernel
theorem dL_law_21 : decode cL_law 21 = .ok (.goto 7, 3) := by decide +kernel
theorem dL_law_24 : decode cL_law 24 = .ok (.aload_n 0, 1) := by decide +kernel
theorem dL_law_25 : decode cL_law 25 = .ok (.arraylength, 1) := by decide +kernel
theorem dL_law_26 : decode cL_law 26 = .ok (.iconst 3, 1) := by decide +kernel
theorem dL_law_27 : decode cL_law 27 = .ok (.idiv, 1) := by decide +kernel
theorem dL_law_28 : decode cL_law 28 = .ok (.istore_n 3, 1) := by decide +kernel
theorem dL_law_29 : decode cL_law 29 = .ok (.iconst 0, 1) := by decide +kernel
theorem dL_law_30 : decode cL_law 30 = .ok (.istore 4, 2) := by decide +kernel
theorem dL_law_32 : decode cL_law 32 = .ok (.iload 4, 2) := by decide +kernel
theorem dL_law_34 : decode cL_law 34 = .ok (.iload_n 3, 1) := by decide +kernel
theorem dL_law_35 : decode cL_law 35 = .ok (.if_icmp .ge 125, 3) := by decide +kernel
theorem dL_law_38 : decode cL_law 38 = .ok (.iload_n 2, 1) := by decide +kernel
theorem dL_law_39 : decode cL_law 39 = .ok (.ifCond .eq 121, 3) := by decide +kernel
theorem dL_law_42 : decode cL_law 42 = .ok (.aload_n 1, 1) := by decide +kernel
theorem dL_law_43 : decode cL_law 43 = .ok (.bipush 12, 2) := by decide +kernel
theorem dL_law_45 : decode cL_law 45 = .ok (.invokevirtual 59, 3) := by decide +kernel
theorem dL_law_48 : decode cL_law 48 = .ok (.istore 5, 2) := by decide +kernel
theorem dL_law_50 : decode cL_law 50 = .ok (.aload_n 1, 1) := by decide +kernel
theorem dL_law_51 : decode cL_law 51 = .ok (.iconst 1, 1) := by decide +kernel
theorem dL_law_52 : decode cL_law 52 = .ok (.invokevirtual 59, 3) := by decide +kernel
theorem dL_law_55 : decode cL_law 55 = .ok (.istore 6, 2) := by decide +kernel
theorem dL_law_57 : decode cL_law 57 = .ok (.aload_n 1, 1) := by decide +kernel
theorem dL_law_58 : decode cL_law 58 = .ok (.iconst 5, 1) := by decide +kernel
theorem dL_law_59 : decode cL_law 59 = .ok (.invokevirtual 59, 3) := by decide +kernel
theorem dL_law_62 : decode cL_law 62 = .ok (.istore 7, 2) := by decide +kernel
theorem dL_law_64 : decode cL_law 64 = .ok (.aload_n 1, 1) := by decide +kernel
theorem dL_law_65 : decode cL_law 65 = .ok (.aload_n 0, 1) := by decide +kernel
theorem dL_law_66 : decode cL_law 66 = .ok (.iconst 3, 1) := by decide +kernel
theorem dL_law_67 : decode cL_law 67 = .ok (.iload 4, 2) := by decide +kernel
theorem dL_law_69 : decode cL_law 69 = .ok (.imul, 1) := by decide +kernel
theorem dL_law_70 : decode cL_law 70 = .ok (.invokestatic 81, 3) := by decide +kernel
theorem dL_law_73 : decode cL_law 73 = .ok (.istore 8, 2) := by decide +kernel
theorem dL_law_75 : decode cL_law 75 = .ok (.iload 8, 2) := by decide +kernel
theorem dL_law_77 : decode cL_law 77 = .ok (.ifCond .ge 34, 3) := by decide +kernel
theorem dL_law_80 : decode cL_law 80 = .ok (.aload_n 1, 1) := by decide +kernel
theorem dL_law_81 : decode cL_law 81 = .ok (.bipush 12, 2) := by decide +kernel
theorem dL_law_83 : decode cL_law 83 = .ok (.invokevirtual 59, 3) := by decide +kernel
theorem dL_law_86 : decode cL_law 86 = .ok (.iload 5, 2) := by decide +kernel
theorem dL_law_88 : decode cL_law 88 = .ok (.if_icmp .ne 27, 3) := by decide +kernel
theorem dL_law_91 : decode cL_law 91 = .ok (.aload_n 1, 1) := by decide +kernel
theorem dL_law_92 : decode cL_law 92 = .ok (.iconst 1, 1) := by decide +kernel
theorem dL_law_93 : decode cL_law 93 = .ok (.invokevirtual 59, 3) := by decide +kernel
theorem dL_law_96 : decode cL_law 96 = .ok (.iload 6, 2) := by decide +kernel
theorem dL_law_98 : decode cL_law 98 = .ok (.if_icmp .ne 17, 3) := by decide +kernel
theorem dL_law_101 : decode cL_law 101 = .ok (.aload_n 1, 1) := by decide +kernel
theorem dL_law_102 : decode cL_law 102 = .ok (.iconst 5, 1) := by decide +kernel
theorem dL_law_103 : decode cL_law 103 = .ok (.invokevirtual 59, 3) := by decide +kernel
theorem dL_law_106 : decode cL_law 106 = .ok (.iload 7, 2) := by decide +kernel
theorem dL_law_108 : decode cL_law 108 = .ok (.if_icmp .ne 7, 3) := by decide +kernel
theorem dL_law_111 : decode cL_law 111 = .ok (.iconst 1, 1) := by decide +kernel
theorem dL_law_112 : decode cL_law 112 = .ok (.goto 4, 3) := by decide +kernel
theorem dL_law_115 : decode cL_law 115 = .ok (.iconst 0, 1) := by decide +kernel
theorem dL_law_116 : decode cL_law 116 = .ok (.istore_n 2, 1) := by decide +kernel
theorem dL_law_117 : decode cL_law 117 = .ok (.iload_n 2, 1) := by decide +kernel
theorem dL_law_118 : decode cL_law 118 = .ok (.ifCond .eq 34, 3) := by decide +kernel
theorem dL_law_121 : decode cL_law 121 = .ok (.aload_n 1, 1) := by decide +kernel
theorem dL_law_122 : decode cL_law 122 = .ok (.invokestatic 85, 3) := by decide +kernel
theorem dL_law_125 : decode cL_law 125 = .ok (.ifCond .eq 27, 3) := by decide +kernel
theorem dL_law_128 : decode cL_law 128 = .ok (.aload_n 1, 1) := by decide +kernel
theorem dL_law_129 : decode cL_law 129 = .ok (.invokestatic 89, 3) := by decide +kernel
theorem dL_law_132 : decode cL_law 132 = .ok (.ifCond .eq 20, 3) := by decide +kernel
theorem dL_law_135 : decode cL_law 135 = .ok (.aload_n 1, 1) := by decide +kernel
theorem dL_law_136 : decode cL_law 136 = .ok (.iconst 0, 1) := by decide +kernel
theorem dL_law_137 : decode cL_law 137 = .ok (.invokevirtual 92, 3) := by decide +kernel
theorem dL_law_140 : decode cL_law 140 = .ok (.aload_n 1, 1) := by decide +kernel
theorem dL_law_141 : decode cL_law 141 = .ok (.iconst 0, 1) := by decide +kernel
theorem dL_law_142 : decode cL_law 142 = .ok (.invokevirtual 59, 3) := by decide +kernel
theorem dL_law_145 : decode cL_law 145 = .ok (.if_icmp .gt 7, 3) := by decide +kernel
theorem dL_law_148 : decode cL_law 148 = .ok (.iconst 1, 1) := by decide +kernel
theorem dL_law_149 : decode cL_law 149 = .ok (.goto 4, 3) := by decide +kernel
theorem dL_law_152 : decode cL_law 152 = .ok (.iconst 0, 1) := by decide +kernel
theorem dL_law_153 : decode cL_law 153 = .ok (.istore_n 2, 1) := by decide +kernel
theorem dL_law_154 : decode cL_law 154 = .ok (.iinc 4 1, 3) := by decide +kernel
theorem dL_law_157 : decode cL_law 157 = .ok (.goto (-125), 3) := by decide +kernel
theorem dL_law_160 : decode cL_law 160 = .ok (.iload_n 2, 1) := by decide +kernel
theorem dL_law_161 : decode cL_law 161 = .ok (.ireturn, 1) := by decide +kernel
