theorem dL_low_5 : decode cL_low 5 = .ok (.irem, 1) := by decide +kernel
theorem dL_low_6 : decode cL_low 6 = .ok (.ireturn, 1) := by decide +kernel
theorem dL_flightOf_0 : decode cL_flightOf 0 = .ok (.iload_n 0, 1) := by decide +kernel
theorem dL_flightOf_1 : decode cL_flightOf 1 = .ok (.bipush 7, 2) := by decide +kernel
theorem dL_flightOf_3 : decode cL_flightOf 3 = .ok (.iand, 1) := by decide +kernel
theorem dL_flightOf_4 : decode cL_flightOf 4 = .ok (.ireturn, 1) := by decide +kernel
theorem dL_areaOf_0 : decode cL_areaOf 0 = .ok (.iload_n 0, 1) := by decide +kernel
theorem dL_areaOf_1 : decode cL_areaOf 1 = .ok (.iconst 3, 1) := by decide +kernel
theorem dL_areaOf_2 : decode cL_areaOf 2 = .ok (.ishr, 1) := by decide +kernel
theorem dL_areaOf_3 : decode cL_areaOf 3 = .ok (.bipush 7, 2) := by decide +kernel
theorem dL_areaOf_5 : decode cL_areaOf 5 = .ok (.iand, 1) := by decide +kernel
theorem dL_areaOf_6 : decode cL_areaOf 6 = .ok (.ireturn, 1) := by decide +kernel
theorem dL_doorOf_0 : decode cL_doorOf 0 = .ok (.iload_n 0, 1) := by decide +kernel
theorem dL_doorOf_1 : decode cL_doorOf 1 = .ok (.bipush 6, 2) := by decide +kernel
theorem dL_doorOf_3 : decode cL_doorOf 3 = .ok (.ishr, 1) := by decide +kernel
theorem dL_doorOf_4 : decode cL_doorOf 4 = .ok (.bipush 127, 2) := by decide +kernel
theorem dL_doorOf_6 : decode cL_doorOf 6 = .ok (.iand, 1) := by decide +kernel
theorem dL_doorOf_7 : decode cL_doorOf 7 = .ok (.ireturn, 1) := by decide +kernel
theorem dL_people_0 : decode cL_people 0 = .ok (.iload_n 0, 1) := by decide +kernel
theorem dL_people_1 : decode cL_people 1 = .ok (.bipush 13, 2) := by decide +kernel
theorem dL_people_3 : decode cL_people 3 = .ok (.ishr, 1) := by decide +kernel
theorem dL_people_4 : decode cL_people 4 = .ok (.ireturn, 1) := by decide +kernel
theorem dL_ready_0 : decode cL_ready 0 = .ok (.aload_n 1, 1) := by decide +kernel
theorem dL_ready_1 : decode cL_ready 1 = .ok (.bipush 6, 2) := by decide +kernel
theorem dL_ready_3 : decode cL_ready 3 = .ok (.iload_n 0, 1) := by decide +kernel
theorem dL_ready_4 : decode cL_ready 4 = .ok (.invokestatic 10, 3) := by decide +kernel
theorem dL_ready_7 : decode cL_ready 7 = .ok (.iadd, 1) := by decide +kernel
theorem dL_ready_8 : decode cL_ready 8 = .ok (.iaload, 1) := by decide +kernel
theorem dL_ready_9 : decode cL_ready 9 = .ok (.aload_n 1, 1) := by decide +kernel
theorem dL_ready_10 : decode cL_ready 10 = .ok (.bipush 12, 2) := by decide +kernel
theorem dL_ready_12 : decode cL_ready 12 = .ok (.iload_n 0, 1) := by decide +kernel
theorem dL_ready_13 : decode cL_ready 13 = .ok (.invokestatic 10, 3) := by decide +kernel
theorem dL_ready_16 : decode cL_ready 16 = .ok (.iadd, 1) := by decide +kernel
theorem dL_ready_17 : decode cL_ready 17 = .ok (.iaload, 1) := by decide +kernel
theorem dL_ready_18 : decode cL_ready 18 = .ok (.iadd, 1) := by decide +kernel
theorem dL_ready_19 : decode cL_ready 19 = .ok (.aload_n 1, 1) := by decide +kernel
theorem dL_ready_20 : decode cL_ready 20 = .ok (.iconst 0, 1) := by decide +kernel
theorem dL_ready_21 : decode cL_ready 21 = .ok (.iaload, 1) := by decide +kernel
theorem dL_ready_22 : decode cL_ready 22 = .ok (.iadd, 1) := by decide +kernel
theorem dL_ready_23 : decode cL_ready 23 = .ok (.ireturn, 1) := by decide +kernel
theorem dL_ones_0 : decode cL_ones 0 = .ok (.iconst 0, 1) := by decide +kernel
theorem dL_ones_1 : decode cL_ones 1 = .ok (.istore_n 1, 1) := by decide +kernel
theorem dL_ones_2 : decode cL_ones 2 = .ok (.iload_n 0, 1) := by decide +kernel
theorem dL_ones_3 : decode cL_ones 3 = .ok (.istore_n 2, 1) := by decide +kernel
theorem dL_ones_4 : decode cL_ones 4 = .ok (.iload_n 2, 1) := by decide +kernel
theorem dL_ones_5 : decode cL_ones 5 = .ok (.ifCond .eq 15, 3) := by decide +kernel
theorem dL_ones_8 : decode cL_ones 8 = .ok (.iinc 1 1, 3) := by decide +kernel
theorem dL_ones_11 : decode cL_ones 11 = .ok (.iload_n 2, 1) := by decide +kernel
theorem dL_ones_12 : decode cL_ones 12 = .ok (.iload_n 2, 1) := by decide +kernel
theorem dL_ones_13 : decode cL_ones 13 = .ok (.iconst 1, 1) := by decide +kernel
theorem dL_ones_14 : decode cL_ones 14 = .ok (.isub, 1) := by decide +kernel
theorem dL_ones_15 : decode cL_ones 15 = .ok (.iand, 1) := by decide +kernel
theorem dL_ones_16 : decode cL_ones 16 = .ok (.istore_n 2, 1) := by decide +kernel
theorem dL_ones_17 : decode cL_ones 17 = .ok (.goto (-13), 3) := by decide +kernel
theorem dL_ones_20 : decode cL_ones 20 = .ok (.iload_n 1, 1) := by decide +kernel
theorem dL_ones_21 : decode cL_ones 21 = .ok (.ireturn, 1) := by decide +kernel
theorem dL_gives_0 : decode cL_gives 0 = .ok (.iconst 0, 1) := by decide +kernel
theorem dL_gives_1 : decode cL_gives 1 = .ok (.istore 5, 2) := by decide +kernel
theorem dL_gives_3 : decode cL_gives 3 = .ok (.iload 5, 2) := by decide +kernel
theorem dL_gives_5 : decode cL_gives 5 = .ok (.aload_n 0, 1) := by decide +kernel
theorem dL_gives_6 : decode cL_gives 6 = .ok (.iconst 5, 1) := by decide +kernel
theorem dL_gives_7 : decode cL_gives 7 = .ok (.iaload, 1) := by decide +kernel
theorem dL_gives_8 : decode cL_gives 8 = .ok (.if_icmp .ge 63, 3) := by decide +kernel
theorem dL_gives_11 : decode cL_gives 11 = .ok (.iload 5, 2) := by decide +kernel
theorem dL_gives_13 : decode cL_gives 13 = .ok (.istore 6, 2) := by decide +kernel
theorem dL_gives_15 : decode cL_gives 15 = .ok (.iload 6, 2) := by decide +kernel
theorem dL_gives_17 : decode cL_gives 17 = .ok (.ifCond .le 42, 3) := by decide +kernel
theorem dL_gives_20 : decode cL_gives 20 = .ok (.aload_n 1, 1) := by decide +kernel
theorem dL_gives_21 : decode cL_gives 21 = .ok (.aload_n 3, 1) := by decide +kernel
theorem dL_gives_22 : decode cL_gives 22 = .ok (.iload 6, 2) := by decide +kernel
theorem dL_gives_24 : decode cL_gives 24 = .ok (.iconst 1, 1) := by decide +kernel
theorem dL_gives_25 : decode cL_gives 25 = .ok (.isub, 1) := by decide +kernel
theorem dL_gives_26 : decode cL_gives 26 = .ok (.iaload, 1) := by decide +kernel
theorem dL_gives_27 : decode cL_gives 27 = .ok (.iaload, 1) := by decide +kernel
theorem dL_gives_28 : decode cL_gives 28 = .ok (.aload_n 0, 1) := by decide +kernel
theorem dL_gives_29 : decode cL_gives 29 = .ok (.invokestatic 16, 3) := by decide +kernel
theorem dL_gives_32 : decode cL_gives 32 = .ok (.aload_n 1, 1) := by decide +kernel
theorem dL_gives_33 : decode cL_gives 33 = .ok (.iload 5, 2) := by decide +kernel
theorem dL_gives_35 : decode cL_gives 35 = .ok (.iaload, 1) := by decide +kernel
theorem dL_gives_36 : decode cL_gives 36 = .ok (.aload_n 0, 1) := by decide +kernel
theorem dL_gives_37 : decode cL_gives 37 = .ok (.invokestatic 16, 3) := by decide +kernel
theorem dL_gives_40 : decode cL_gives 40 = .ok (.if_icmp .le 19, 3) := by decide +kernel
theorem dL_gives_43 : decode cL_gives 43 = .ok (.aload_n 3, 1) := by decide +kernel
theorem dL_gives_44 : decode cL_gives 44 = .ok (.iload 6, 2) := by decide +kernel
theorem dL_gives_46 : decode cL_gives 46 = .ok (.aload_n 3, 1) := by decide +kernel
theorem dL_gives_47 : decode cL_gives 47 = .ok (.iload 6, 2) := by decide +kernel
theorem dL_gives_49 : decode cL_gives 49 = .ok (.iconst 1, 1) := by decide +kernel
theorem dL_gives_50 : decode cL_gives 50 = .ok (.isub, 1) := by decide +kernel
theorem dL_gives_51 : decode cL_gives 51 = .ok (.iaload, 1) := by decide +kernel
theorem dL_gives_52 : decode cL_gives 52 = .ok (.iastore, 1) := by decide +kernel
theorem dL_gives_53 : decode cL_gives 53 = .ok (.iinc 6 (-1), 3) := by decide +kernel
theorem dL_gives_56 : decode cL_gives 56 = .ok (.goto (-41), 3) := by decide +kernel
theorem dL_gives_59 : decode cL_gives 59 = .ok (.aload_n 3, 1) := by decide +kernel
theorem dL_gives_60 : decode cL_gives 60 = .ok (.iload 6, 2) := by decide +kernel
theorem dL_gives_62 : decode cL_gives 62 = .ok (.iload 5, 2) := by decide +kernel
theorem dL_gives_64 : decode cL_gives 64 = .ok (.iastore, 1) := by decide +kernel
theorem dL_gives_65 : decode cL_gives 65 = .ok (.iinc 5 1, 3) := by decide +kernel
theorem dL_gives_68 : decode cL_gives 68 = .ok (.goto (-65), 3) := by decide +kernel
theorem dL_gives_71 : decode cL_gives 71 = .ok (.iconst 0, 1) := by decide +kernel
theorem dL_gives_72 : decode cL_gives 72 = .ok (.istore 5, 2) := by decide +kernel
theorem dL_gives_74 : decode cL_gives 74 = .ok (.iload 5, 2) := by decide +kernel
theorem dL_gives_76 : decode cL_gives 76 = .ok (.bipush 16, 2) := by decide +kernel
theorem dL_gives_78 : decode cL_gives 78 = .ok (.if_icmp .ge 15, 3) := by decide +kernel
theorem dL_gives_81 : decode cL_gives 81 = .ok (.aload 4, 2) := by decide +kernel
theorem dL_gives_83 : decode cL_gives 83 = .ok (.iload 5, 2) := by decide +kernel
theorem dL_gives_85 : decode cL_gives 85 = .ok (.iconst 0, 1) := by decide +kernel
theorem dL_gives_86 : decode cL_gives 86 = .ok (.iastore, 1) := by decide +kernel
theorem dL_gives_87 : decode cL_gives 87 = .ok (.iinc 5 1, 3) := by decide +kernel
theorem dL_gives_90 : decode cL_gives 90 = .ok (.goto (-16), 3) := by decide +kernel
theorem dL_gives_93 : decode cL_gives 93 = .ok (.iconst 0, 1) := by decide +kernel
theorem dL_gives_94 : decode cL_gives 94 = .ok (.istore 5, 2) := by decide +kernel
theorem dL_gives_96 : decode cL_gives 96 = .ok (.iload 5, 2) := by decide +kernel
theorem dL_gives_98 : decode cL_gives 98 = .ok (.aload_n 0, 1) := by decide +kernel
theorem dL_gives_99 : decode cL_gives 99 = .ok (.iconst 5, 1) := by decide +kernel
theorem dL_gives_100 : decode cL_gives 100 = .ok (.iaload, 1) := by decide +kernel
theorem dL_gives_101 : decode cL_gives 101 = .ok (.if_icmp .ge 197, 3) := by decide +kernel
theorem dL_gives_104 : decode cL_gives 104 = .ok (.aload_n 1, 1) := by decide +kernel
theorem dL_gives_105 : decode cL_gives 105 = .ok (.aload_n 3, 1) := by decide +kernel
theorem dL_gives_106 : decode cL_gives 106 = .ok (.iload 5, 2) := by decide +kernel
theorem dL_gives_108 : decode cL_gives 108 = .ok (.iaload, 1) := by decide +kernel
theorem dL_gives_109 : decode cL_gives 109 = .ok (.iaload, 1) := by decide +kernel
theorem dL_gives_110 : decode cL_gives 110 = .ok (.istore 6, 2) := by decide +kernel
theorem dL_gives_112 : decode cL_gives 112 = .ok (.iconst (-1), 1) := by decide +kernel
theorem dL_gives_113 : decode cL_gives 113 = .ok (.istore 7, 2) := by decide +kernel
theorem dL_gives_115 : decode cL_gives 115 = .ok (.bipush 7, 2) := by decide +kernel
theorem dL_gives_117 : decode cL_gives 117 = .ok (.istore 8, 2) := by decide +kernel
theorem dL_gives_119 : decode cL_gives 119 = .ok (.iload 8, 2) := by decide +kernel
theorem dL_gives_121 : decode cL_gives 121 = .ok (.ifCond .lt 127, 3) := by decide +kernel
theorem dL_gives_124 : decode cL_gives 124 = .ok (.aload_n 0, 1) := by decide +kernel
theorem dL_gives_125 : decode cL_gives 125 = .ok (.bipush 18, 2) := by decide +kernel
theorem dL_gives_127 : decode cL_gives 127 = .ok (.iload 8, 2) := by decide +kernel
theorem dL_gives_129 : decode cL_gives 129 = .ok (.iadd, 1) := by decide +kernel
theorem dL_gives_130 : decode cL_gives 130 = .ok (.iaload, 1) := by decide +kernel
theorem dL_gives_131 : decode cL_gives 131 = .ok (.iload 6, 2) := by decide +kernel
theorem dL_gives_133 : decode cL_gives 133 = .ok (.aload_n 0, 1) := by decide +kernel
theorem dL_gives_134 : decode cL_gives 134 = .ok (.invokestatic 16, 3) := by decide +kernel
theorem dL_gives_137 : decode cL_gives 137 = .ok (.isub, 1) := by decide +kernel
theorem dL_gives_138 : decode cL_gives 138 = .ok (.istore 9, 2) := by decide +kernel
theorem dL_gives_140 : decode cL_gives 140 = .ok (.iload 9, 2) := by decide +kernel
theorem dL_gives_142 : decode cL_gives 142 = .ok (.ifCond .lt 61, 3) := by decide +kernel
theorem dL_gives_145 : decode cL_gives 145 = .ok (.iload 9, 2) := by decide +kernel
theorem dL_gives_147 : decode cL_gives 147 = .ok (.aload_n 0, 1) := by decide +kernel
theorem dL_gives_148 : decode cL_gives 148 = .ok (.iconst 1, 1) := by decide +kernel
theorem dL_gives_149 : decode cL_gives 149 = .ok (.iaload, 1) := by decide +kernel
theorem dL_gives_150 : decode cL_gives 150 = .ok (.if_icmp .gt 53, 3) := by decide +kernel
theorem dL_gives_153 : decode cL_gives 153 = .ok (.aload 4, 2) := by decide +kernel
theorem dL_gives_155 : decode cL_gives 155 = .ok (.iload 8, 2) := by decide +kernel
theorem dL_gives_157 : decode cL_gives 157 = .ok (.iaload, 1) := by decide +kernel
theorem dL_gives_158 : decode cL_gives 158 = .ok (.iload 6, 2) := by decide +kernel
theorem dL_gives_160 : decode cL_gives 160 = .ok (.invokestatic 20, 3) := by decide +kernel
theorem dL_gives_163 : decode cL_gives 163 = .ok (.iadd, 1) := by decide +kernel
theorem dL_gives_164 : decode cL_gives 164 = .ok (.aload_n 0, 1) := by decide +kernel
theorem dL_gives_165 : decode cL_gives 165 = .ok (.bipush 26, 2) := by decide +kernel
theorem dL_gives_167 : decode cL_gives 167 = .ok (.iload 8, 2) := by decide +kernel
theorem dL_gives_169 : decode cL_gives 169 = .ok (.iadd, 1) := by decide +kernel
theorem dL_gives_170 : decode cL_gives 170 = .ok (.iaload, 1) := by decide +kernel
theorem dL_gives_171 : decode cL_gives 171 = .ok (.if_icmp .gt 32, 3) := by decide +kernel
theorem dL_gives_174 : decode cL_gives 174 = .ok (.aload 4, 2) := by decide +kernel
theorem dL_gives_176 : decode cL_gives 176 = .ok (.bipush 8, 2) := by decide +kernel
theorem dL_gives_178 : decode cL_gives 178 = .ok (.iload 8, 2) := by decide +kernel
theorem dL_gives_180 : decode cL_gives 180 = .ok (.iadd, 1) := by decide +kernel
theorem dL_gives_181 : decode cL_gives 181 = .ok (.iaload, 1) := by decide +kernel
theorem dL_gives_182 : decode cL_gives 182 = .ok (.iconst 1, 1) := by decide +kernel
theorem dL_gives_183 : decode cL_gives 183 = .ok (.iload 6, 2) := by decide +kernel
theorem dL_gives_185 : decode cL_gives 185 = .ok (.invokestatic 23, 3) := by decide +kernel
theorem dL_gives_188 : decode cL_gives 188 = .ok (.ishl, 1) := by decide +kernel
theorem dL_gives_189 : decode cL_gives 189 = .ok (.ior, 1) := by decide +kernel
theorem dL_gives_190 : decode cL_gives 190 = .ok (.invokestatic 26, 3) := by decide +kernel
theorem dL_gives_193 : decode cL_gives 193 = .ok (.aload_n 0, 1) := by decide +kernel
theorem dL_gives_194 : decode cL_gives 194 = .ok (.iconst 2, 1) := by decide +kernel
theorem dL_gives_195 : decode cL_gives 195 = .ok (.iaload, 1) := by decide +kernel
theorem dL_gives_196 : decode cL_gives 196 = .ok (.if_icmp .gt 7, 3) := by decide +kernel
theorem dL_gives_199 : decode cL_gives 199 = .ok (.iconst 1, 1) := by decide +kernel
theorem dL_gives_200 : decode cL_gives 200 = .ok (.goto 4, 3) := by decide +kernel
theorem dL_gives_203 : decode cL_gives 203 = .ok (.iconst 0, 1) := by decide +kernel
theorem dL_gives_204 : decode cL_gives 204 = .ok (.istore 10, 2) := by decide +kernel
theorem dL_gives_206 : decode cL_gives 206 = .ok (.iload 10, 2) := by decide +kernel
theorem dL_gives_208 : decode cL_gives 208 = .ok (.ifCond .eq 30, 3) := by decide +kernel
theorem dL_gives_211 : decode cL_gives 211 = .ok (.iload 7, 2) := by decide +kernel
theorem dL_gives_213 : decode cL_gives 213 = .ok (.ifCond .lt 20, 3) := by decide +kernel
theorem dL_gives_216 : decode cL_gives 216 = .ok (.aload_n 0, 1) := by decide +kernel
theorem dL_gives_217 : decode cL_gives 217 = .ok (.bipush 18, 2) := by decide +kernel
theorem dL_gives_219 : decode cL_gives 219 = .ok (.iload 8, 2) := by decide +kernel
theorem dL_gives_221 : decode cL_gives 221 = .ok (.iadd, 1) := by decide +kernel
theorem dL_gives_222 : decode cL_gives 222 = .ok (.iaload, 1) := by decide +kernel
theorem dL_gives_223 : decode cL_gives 223 = .ok (.aload_n 0, 1) := by decide +kernel
theorem dL_gives_224 : decode cL_gives 224 = .ok (.bipush 18, 2) := by decide +kernel
theorem dL_gives_226 : decode cL_gives 226 = .ok (.iload 7, 2) := by decide +kernel
theorem dL_gives_228 : decode cL_gives 228 = .ok (.iadd, 1) := by decide +kernel
theorem dL_gives_229 : decode cL_gives 229 = .ok (.iaload, 1) := by decide +kernel
theorem dL_gives_230 : decode cL_gives 230 = .ok (.if_icmp .gt 8, 3) := by decide +kernel
theorem dL_gives_233 : decode cL_gives 233 = .ok (.iload 8, 2) := by decide +kernel
theorem dL_gives_235 : decode cL_gives 235 = .ok (.goto 5, 3) := by decide +kernel
theorem dL_gives_238 : decode cL_gives 238 = .ok (.iload 7, 2) := by decide +kernel
theorem dL_gives_240 : decode cL_gives 240 = .ok (.istore 7, 2) := by decide +kernel
theorem dL_gives_242 : decode cL_gives 242 = .ok (.iinc 8 (-1), 3) := by decide +kernel
theorem dL_gives_245 : decode cL_gives 245 = .ok (.goto (-126), 3) := by decide +kernel
theorem dL_gives_248 : decode cL_gives 248 = .ok (.aload_n 2, 1) := by decide +kernel
theorem dL_gives_249 : decode cL_gives 249 = .ok (.aload_n 3, 1) := by decide +kernel
theorem dL_gives_250 : decode cL_gives 250 = .ok (.iload 5, 2) := by decide +kernel
theorem dL_gives_252 : decode cL_gives 252 = .ok (.iaload, 1) := by decide +kernel
theorem dL_gives_253 : decode cL_gives 253 = .ok (.iload 7, 2) := by decide +kernel
theorem dL_gives_255 : decode cL_gives 255 = .ok (.iastore, 1) := by decide +kernel
theorem dL_gives_256 : decode cL_gives 256 = .ok (.iload 7, 2) := by decide +kernel
theorem dL_gives_258 : decode cL_gives 258 = .ok (.ifCond .lt 34, 3) := by decide +kernel
theorem dL_gives_261 : decode cL_gives 261 = .ok (.aload 4, 2) := by decide +kernel
theorem dL_gives_263 : decode cL_gives 263 = .ok (.iload 7, 2) := by decide +kernel
theorem dL_gives_265 : decode cL_gives 265 = .ok (.dup2, 1) := by decide +kernel
theorem dL_gives_266 : decode cL_gives 266 = .ok (.iaload, 1) := by decide +kernel
theorem dL_gives_267 : decode cL_gives 267 = .ok (.iload 6, 2) := by decide +kernel
theorem dL_gives_269 : decode cL_gives 269 = .ok (.invokestatic 20, 3) := by decide +kernel
theorem dL_gives_272 : decode cL_gives 272 = .ok (.iadd, 1) := by decide +kernel
theorem dL_gives_273 : decode cL_gives 273 = .ok (.iastore, 1) := by decide +kernel
theorem dL_gives_274 : decode cL_gives 274 = .ok (.aload 4, 2) := by decide +kernel
theorem dL_gives_276 : decode cL_gives 276 = .ok (.bipush 8, 2) := by decide +kernel
theorem dL_gives_278 : decode cL_gives 278 = .ok (.iload 7, 2) := by decide +kernel
theorem dL_gives_280 : decode cL_gives 280 = .ok (.iadd, 1) := by decide +kernel
theorem dL_gives_281 : decode cL_gives 281 = .ok (.dup2, 1) := by decide +kernel
theorem dL_gives_282 : decode cL_gives 282 = .ok (.iaload, 1) := by decide +kernel
theorem dL_gives_283 : decode cL_gives 283 = .ok (.iconst 1, 1) := by decide +kernel
theorem dL_gives_284 : decode cL_gives 284 = .ok (.iload 6, 2) := by decide +kernel
theorem dL_gives_286 : decode cL_gives 286 = .ok (.invokestatic 23, 3) := by decide +kernel
theorem dL_gives_289 : decode cL_gives 289 = .ok (.ishl, 1) := by decide +kernel
theorem dL_gives_290 : decode cL_gives 290 = .ok (.ior, 1) := by decide +kernel
theorem dL_gives_291 : decode cL_gives 291 = .ok (.iastore, 1) := by decide +kernel
theorem dL_gives_292 : decode cL_gives 292 = .ok (.iinc 5 1, 3) := by decide +kernel
theorem dL_gives_295 : decode cL_gives 295 = .ok (.goto (-199), 3) := by decide +kernel
theorem dL_gives_298 : decode cL_gives 298 = .ok (.return_, 1) := by decide +kernel
theorem dL_stopsAhead_0 : decode cL_stopsAhead 0 = .ok (.iconst 0, 1) := by decide +kernel
theorem dL_stopsAhead_1 : decode cL_stopsAhead 1 = .ok (.istore 5, 2) := by decide +kernel
theorem dL_stopsAhead_3 : decode cL_stopsAhead 3 = .ok (.iconst 0, 1) := by decide +kernel
theorem dL_stopsAhead_4 : decode cL_stopsAhead 4 = .ok (.istore 6, 2) := by decide +kernel
theorem dL_stopsAhead_6 : decode cL_stopsAhead 6 = .ok (.iload 6, 2) := by decide +kernel
theorem dL_stopsAhead_8 : decode cL_stopsAhead 8 = .ok (.aload_n 2, 1) := by decide +kernel
theorem dL_stopsAhead_9 : decode cL_stopsAhead 9 = .ok (.iconst 5, 1) := by decide +kernel
theorem dL_stopsAhead_10 : decode cL_stopsAhead 10 = .ok (.iaload, 1) := by decide +kernel
theorem dL_stopsAhead_11 : decode cL_stopsAhead 11 = .ok (.if_icmp .ge 115, 3) := by decide +kernel
theorem dL_stopsAhead_14 : decode cL_stopsAhead 14 = .ok (.aload_n 3, 1) := by decide +kernel
theorem dL_stopsAhead_15 : decode cL_stopsAhead 15 = .ok (.iload 6, 2) := by decide +kernel
theorem dL_stopsAhead_17 : decode cL_stopsAhead 17 = .ok (.iaload, 1) := by decide +kernel
theorem dL_stopsAhead_18 : decode cL_stopsAhead 18 = .ok (.iconst 3, 1) := by decide +kernel
theorem dL_stopsAhead_19 : decode cL_stopsAhead 19 = .ok (.ishr, 1) := by decide +kernel
theorem dL_stopsAhead_20 : decode cL_stopsAhead 20 = .ok (.sipush 1023, 3) := by decide +kernel
theorem dL_stopsAhead_23 : decode cL_stopsAhead 23 = .ok (.iand, 1) := by decide +kernel
theorem dL_stopsAhead_24 : decode cL_stopsAhead 24 = .ok (.istore 7, 2) := by decide +kernel
theorem dL_stopsAhead_26 : decode cL_stopsAhead 26 = .ok (.aload 4, 2) := by decide +kernel
theorem dL_stopsAhead_28 : decode cL_stopsAhead 28 = .ok (.iload 6, 2) := by decide +kernel
theorem dL_stopsAhead_30 : decode cL_stopsAhead 30 = .ok (.iaload, 1) := by decide +kernel
theorem dL_stopsAhead_31 : decode cL_stopsAhead 31 = .ok (.iload_n 0, 1) := by decide +kernel
theorem dL_stopsAhead_32 : decode cL_stopsAhead 32 = .ok (.if_icmp .ne 18, 3) := by decide +kernel
theorem dL_stopsAhead_35 : decode cL_stopsAhead 35 = .ok (.aload_n 3, 1) := by decide +kernel
theorem dL_stopsAhead_36 : decode cL_stopsAhead 36 = .ok (.iload 6, 2) := by decide +kernel
theorem dL_stopsAhead_38 : decode cL_stopsAhead 38 = .ok (.iaload, 1) := by decide +kernel
theorem dL_stopsAhead_39 : decode cL_stopsAhead 39 = .ok (.invokestatic 29, 3) := by decide +kernel
theorem dL_stopsAhead_42 : decode cL_stopsAhead 42 = .ok (.iload_n 1, 1) := by decide +kernel
theorem dL_stopsAhead_43 : decode cL_stopsAhead 43 = .ok (.if_icmp .ge 7, 3) := by decide +kernel
theorem dL_stopsAhead_46 : decode cL_stopsAhead 46 = .ok (.iconst 1, 1) := by decide +kernel
theorem dL_stopsAhead_47 : decode cL_stopsAhead 47 = .ok (.goto 4, 3) := by decide +kernel
theorem dL_stopsAhead_50 : decode cL_stopsAhead 50 = .ok (.iconst 0, 1) := by decide +kernel
theorem dL_stopsAhead_51 : decode cL_stopsAhead 51 = .ok (.istore 8, 2) := by decide +kernel
theorem dL_stopsAhead_53 : decode cL_stopsAhead 53 = .ok (.iconst 0, 1) := by decide +kernel
theorem dL_stopsAhead_54 : decode cL_stopsAhead 54 = .ok (.istore 9, 2) := by decide +kernel
theorem dL_stopsAhead_56 : decode cL_stopsAhead 56 = .ok (.iload 9, 2) := by decide +kernel
theorem dL_stopsAhead_58 : decode cL_stopsAhead 58 = .ok (.iload 6, 2) := by decide +kernel
theorem dL_stopsAhead_60 : decode cL_stopsAhead 60 = .ok (.if_icmp .ge 45, 3) := by decide +kernel
theorem dL_stopsAhead_63 : decode cL_stopsAhead 63 = .ok (.iload 8, 2) := by decide +kernel
theorem dL_stopsAhead_65 : decode cL_stopsAhead 65 = .ok (.ifCond .eq 31, 3) := by decide +kernel
theorem dL_stopsAhead_68 : decode cL_stopsAhead 68 = .ok (.aload 4, 2) := by decide +kernel
theorem dL_stopsAhead_70 : decode cL_stopsAhead 70 = .ok (.iload 9, 2) := by decide +kernel
theorem dL_stopsAhead_72 : decode cL_stopsAhead 72 = .ok (.iaload, 1) := by decide +kernel
theorem dL_stopsAhead_73 : decode cL_stopsAhead 73 = .ok (.iload_n 0, 1) := by decide +kernel
theorem dL_stopsAhead_74 : decode cL_stopsAhead 74 = .ok (.if_icmp .ne 18, 3) := by decide +kernel
theorem dL_stopsAhead_77 : decode cL_stopsAhead 77 = .ok (.aload_n 3, 1) := by decide +kernel
theorem dL_stopsAhead_78 : decode cL_stopsAhead 78 = .ok (.iload 9, 2) := by decide +kernel
theorem dL_stopsAhead_80 : decode cL_stopsAhead 80 = .ok (.iaload, 1) := by decide +kernel
theorem dL_stopsAhead_81 : decode cL_stopsAhead 81 = .ok (.iconst 3, 1) := by decide +kernel
theorem dL_stopsAhead_82 : decode cL_stopsAhead 82 = .ok (.ishr, 1) := by decide +kernel
theorem dL_stopsAhead_83 : decode cL_stopsAhead 83 = .ok (.sipush 1023, 3) := by decide +kernel
theorem dL_stopsAhead_86 : decode cL_stopsAhead 86 = .ok (.iand, 1) := by decide +kernel
theorem dL_stopsAhead_87 : decode cL_stopsAhead 87 = .ok (.iload 7, 2) := by decide +kernel
theorem dL_stopsAhead_89 : decode cL_stopsAhead 89 = .ok (.if_icmp .eq 7, 3) := by decide +kernel
theorem dL_stopsAhead_92 : decode cL_stopsAhead 92 = .ok (.iconst 1, 1) := by decide +kernel
theorem dL_stopsAhead_93 : decode cL_stopsAhead 93 = .ok (.goto 4, 3) := by decide +kernel
theorem dL_stopsAhead_96 : decode cL_stopsAhead 96 = .ok (.iconst 0, 1) := by decide +kernel
theorem dL_stopsAhead_97 : decode cL_stopsAhead 97 = .ok (.istore 8, 2) := by decide +kernel
theorem dL_stopsAhead_99 : decode cL_stopsAhead 99 = .ok (.iinc 9 1, 3) := by decide +kernel
theorem dL_stopsAhead_102 : decode cL_stopsAhead 102 = .ok (.goto (-46), 3) := by decide +kernel
theorem dL_stopsAhead_105 : decode cL_stopsAhead 105 = .ok (.iload 5, 2) := by decide +kernel
theorem dL_stopsAhead_107 : decode cL_stopsAhead 107 = .ok (.iload 8, 2) := by decide +kernel
theorem dL_stopsAhead_109 : decode cL_stopsAhead 109 = .ok (.ifCond .eq 7, 3) := by decide +kernel
theorem dL_stopsAhead_112 : decode cL_stopsAhead 112 = .ok (.iconst 1, 1) := by decide +kernel
theorem dL_stopsAhead_113 : decode cL_stopsAhead 113 = .ok (.goto 4, 3) := by decide +kernel
theorem dL_stopsAhead_116 : decode cL_stopsAhead 116 = .ok (.iconst 0, 1) := by decide +kernel
theorem dL_stopsAhead_117 : decode cL_stopsAhead 117 = .ok (.iadd, 1) := by decide +kernel
theorem dL_stopsAhead_118 : decode cL_stopsAhead 118 = .ok (.istore 5, 2) := by decide +kernel
theorem dL_stopsAhead_120 : decode cL_stopsAhead 120 = .ok (.iinc 6 1, 3) := by decide +kernel
theorem dL_stopsAhead_123 : decode cL_stopsAhead 123 = .ok (.goto (-117), 3) := by decide +kernel
theorem dL_stopsAhead_126 : decode cL_stopsAhead 126 = .ok (.iload 5, 2) := by decide +kernel
theorem dL_stopsAhead_128 : decode cL_stopsAhead 128 = .ok (.ireturn, 1) := by decide +kernel
theorem dL_keyOf_0 : decode cL_keyOf 0 = .ok (.bipush 100, 2) := by decide +kernel
theorem dL_keyOf_2 : decode cL_keyOf 2 = .ok (.iload_n 0, 1) := by decide +kernel
theorem dL_keyOf_3 : decode cL_keyOf 3 = .ok (.invokestatic 23, 3) := by decide +kernel
theorem dL_keyOf_6 : decode cL_keyOf 6 = .ok (.imul, 1) := by decide +kernel
theorem dL_keyOf_7 : decode cL_keyOf 7 = .ok (.iload_n 0, 1) := by decide +kernel
theorem dL_keyOf_8 : decode cL_keyOf 8 = .ok (.invokestatic 32, 3) := by decide +kernel
theorem dL_keyOf_11 : decode cL_keyOf 11 = .ok (.iadd, 1) := by decide +kernel
theorem dL_keyOf_12 : decode cL_keyOf 12 = .ok (.ireturn, 1) := by decide +kernel
theorem dL_minuteAt_0 : decode cL_minuteAt 0 = .ok (.iconst 0, 1) := by decide +kernel
theorem dL_minuteAt_1 : decode cL_minuteAt 1 = .ok (.istore 5, 2) := by decide +kernel
theorem dL_minuteAt_3 : decode cL_minuteAt 3 = .ok (.iconst 0, 1) := by decide +kernel
theorem dL_minuteAt_4 : decode cL_minuteAt 4 = .ok (.istore 6, 2) := by decide +kernel
theorem dL_minuteAt_6 : decode cL_minuteAt 6 = .ok (.iload 6, 2) := by decide +kernel
theorem dL_minuteAt_8 : decode cL_minuteAt 8 = .ok (.aload_n 2, 1) := by decide +kernel
theorem dL_minuteAt_9 : decode cL_minuteAt 9 = .ok (.iconst 5, 1) := by decide +kernel
theorem dL_minuteAt_10 : decode cL_minuteAt 10 = .ok (.iaload, 1) := by decide +kernel
theorem dL_minuteAt_11 : decode cL_minuteAt 11 = .ok (.if_icmp .ge 47, 3) := by decide +kernel
theorem dL_minuteAt_14 : decode cL_minuteAt 14 = .ok (.iload 5, 2) := by decide +kernel
theorem dL_minuteAt_16 : decode cL_minuteAt 16 = .ok (.aload 4, 2) := by decide +kernel
theorem dL_minuteAt_18 : decode cL_minuteAt 18 = .ok (.iload 6, 2) := by decide +kernel
theorem dL_minuteAt_20 : decode cL_minuteAt 20 = .ok (.iaload, 1) := by decide +kernel
theorem dL_minuteAt_21 : decode cL_minuteAt 21 = .ok (.iload_n 0, 1) := by decide +kernel
theorem dL_minuteAt_22 : decode cL_minuteAt 22 = .ok (.if_icmp .ne 26, 3) := by decide +kernel
theorem dL_minuteAt_25 : decode cL_minuteAt 25 = .ok (.aload_n 3, 1) := by decide +kernel
theorem dL_minuteAt_26 : decode cL_minuteAt 26 = .ok (.iload 6, 2) := by decide +kernel
theorem dL_minuteAt_28 : decode cL_minuteAt 28 = .ok (.iaload, 1) := by decide +kernel
theorem dL_minuteAt_29 : decode cL_minuteAt 29 = .ok (.invokestatic 29, 3) := by decide +kernel
theorem dL_minuteAt_32 : decode cL_minuteAt 32 = .ok (.iload_n 1, 1) := by decide +kernel
theorem dL_minuteAt_33 : decode cL_minuteAt 33 = .ok (.if_icmp .gt 15, 3) := by decide +kernel
theorem dL_minuteAt_36 : decode cL_minuteAt 36 = .ok (.iconst 1, 1) := by decide +kernel
theorem dL_minuteAt_37 : decode cL_minuteAt 37 = .ok (.aload_n 3, 1) := by decide +kernel
theorem dL_minuteAt_38 : decode cL_minuteAt 38 = .ok (.iload 6, 2) := by decide +kernel
theorem dL_minuteAt_40 : decode cL_minuteAt 40 = .ok (.iaload, 1) := by decide +kernel
theorem dL_minuteAt_41 : decode cL_minuteAt 41 = .ok (.invokestatic 23, 3) := by decide +kernel
theorem dL_minuteAt_44 : decode cL_minuteAt 44 = .ok (.ishl, 1) := by decide +kernel
theorem dL_minuteAt_45 : decode cL_minuteAt 45 = .ok (.goto 4, 3) := by decide +kernel
theorem dL_minuteAt_48 : decode cL_minuteAt 48 = .ok (.iconst 0, 1) := by decide +kernel
theorem dL_minuteAt_49 : decode cL_minuteAt 49 = .ok (.ior, 1) := by decide +kernel
theorem dL_minuteAt_50 : decode cL_minuteAt 50 = .ok (.istore 5, 2) := by decide +kernel
theorem dL_minuteAt_52 : decode cL_minuteAt 52 = .ok (.iinc 6 1, 3) := by decide +kernel
theorem dL_minuteAt_55 : decode cL_minuteAt 55 = .ok (.goto (-49), 3) := by decide +kernel
theorem dL_minuteAt_58 : decode cL_minuteAt 58 = .ok (.iload_n 0, 1) := by decide +kernel
theorem dL_minuteAt_59 : decode cL_minuteAt 59 = .ok (.iload_n 1, 1) := by decide +kernel
theorem dL_minuteAt_60 : decode cL_minuteAt 60 = .ok (.aload_n 2, 1) := by decide +kernel
theorem dL_minuteAt_61 : decode cL_minuteAt 61 = .ok (.aload_n 3, 1) := by decide +kernel
theorem dL_minuteAt_62 : decode cL_minuteAt 62 = .ok (.aload 4, 2) := by decide +kernel
theorem dL_minuteAt_64 : decode cL_minuteAt 64 = .ok (.invokestatic 35, 3) := by decide +kernel
theorem dL_minuteAt_67 : decode cL_minuteAt 67 = .ok (.iconst 1, 1) := by decide +kernel
theorem dL_minuteAt_68 : decode cL_minuteAt 68 = .ok (.iadd, 1) := by decide +kernel
theorem dL_minuteAt_69 : decode cL_minuteAt 69 = .ok (.istore 6, 2) := by decide +kernel
theorem dL_minuteAt_71 : decode cL_minuteAt 71 = .ok (.aload_n 2, 1) := by decide +kernel
theorem dL_minuteAt_72 : decode cL_minuteAt 72 = .ok (.bipush 18, 2) := by decide +kernel
theorem dL_minuteAt_74 : decode cL_minuteAt 74 = .ok (.iload_n 0, 1) := by decide +kernel
theorem dL_minuteAt_75 : decode cL_minuteAt 75 = .ok (.iadd, 1) := by decide +kernel
theorem dL_minuteAt_76 : decode cL_minuteAt 76 = .ok (.iaload, 1) := by decide +kernel
theorem dL_minuteAt_77 : decode cL_minuteAt 77 = .ok (.bipush 10, 2) := by decide +kernel
theorem dL_minuteAt_79 : decode cL_minuteAt 79 = .ok (.iadd, 1) := by decide +kernel
theorem dL_minuteAt_80 : decode cL_minuteAt 80 = .ok (.iconst 5, 1) := by decide +kernel
theorem dL_minuteAt_81 : decode cL_minuteAt 81 = .ok (.iload_n 1, 1) := by decide +kernel
theorem dL_minuteAt_82 : decode cL_minuteAt 82 = .ok (.bipush 100, 2) := by decide +kernel
theorem dL_minuteAt_84 : decode cL_minuteAt 84 = .ok (.idiv, 1) := by decide +kernel
theorem dL_minuteAt_85 : decode cL_minuteAt 85 = .ok (.imul, 1) := by decide +kernel
theorem dL_minuteAt_86 : decode cL_minuteAt 86 = .ok (.iadd, 1) := by decide +kernel
theorem dL_minuteAt_87 : decode cL_minuteAt 87 = .ok (.iconst 3, 1) := by decide +kernel
theorem dL_minuteAt_88 : decode cL_minuteAt 88 = .ok (.iload 6, 2) := by decide +kernel
theorem dL_minuteAt_90 : decode cL_minuteAt 90 = .ok (.iload 5, 2) := by decide +kernel
theorem dL_minuteAt_92 : decode cL_minuteAt 92 = .ok (.invokestatic 26, 3) := by decide +kernel
theorem dL_minuteAt_95 : decode cL_minuteAt 95 = .ok (.isub, 1) := by decide +kernel
theorem dL_minuteAt_96 : decode cL_minuteAt 96 = .ok (.imul, 1) := by decide +kernel
theorem dL_minuteAt_97 : decode cL_minuteAt 97 = .ok (.iadd, 1) := by decide +kernel
theorem dL_minuteAt_98 : decode cL_minuteAt 98 = .ok (.ireturn, 1) := by decide +kernel
theorem dL_part_0 : decode cL_part 0 = .ok (.iconst 0, 1) := by decide +kernel
theorem dL_part_1 : decode cL_part 1 = .ok (.istore 6, 2) := by decide +kernel
theorem dL_part_3 : decode cL_part 3 = .ok (.iconst 0, 1) := by decide +kernel
theorem dL_part_4 : decode cL_part 4 = .ok (.istore 7, 2) := by decide +kernel
theorem dL_part_6 : decode cL_part 6 = .ok (.iload 7, 2) := by decide +kernel
theorem dL_part_8 : decode cL_part 8 = .ok (.aload_n 3, 1) := by decide +kernel
theorem dL_part_9 : decode cL_part 9 = .ok (.iconst 5, 1) := by decide +kernel
theorem dL_part_10 : decode cL_part 10 = .ok (.iaload, 1) := by decide +kernel
theorem dL_part_11 : decode cL_part 11 = .ok (.if_icmp .ge 72, 3) := by decide +kernel
theorem dL_part_14 : decode cL_part 14 = .ok (.aload 5, 2) := by decide +kernel
theorem dL_part_16 : decode cL_part 16 = .ok (.iload 7, 2) := by decide +kernel
theorem dL_part_18 : decode cL_part 18 = .ok (.iaload, 1) := by decide +kernel
theorem dL_part_19 : decode cL_part 19 = .ok (.aload 5, 2) := by decide +kernel
theorem dL_part_21 : decode cL_part 21 = .ok (.iload_n 0, 1) := by decide +kernel
theorem dL_part_22 : decode cL_part 22 = .ok (.iaload, 1) := by decide +kernel
theorem dL_part_23 : decode cL_part 23 = .ok (.if_icmp .ne 29, 3) := by decide +kernel
theorem dL_part_26 : decode cL_part 26 = .ok (.iload_n 2, 1) := by decide +kernel
theorem dL_part_27 : decode cL_part 27 = .ok (.ifCond .eq 21, 3) := by decide +kernel
theorem dL_part_30 : decode cL_part 30 = .ok (.aload 4, 2) := by decide +kernel
theorem dL_part_32 : decode cL_part 32 = .ok (.iload 7, 2) := by decide +kernel
theorem dL_part_34 : decode cL_part 34 = .ok (.iaload, 1) := by decide +kernel
theorem dL_part_35 : decode cL_part 35 = .ok (.invokestatic 29, 3) := by decide +kernel
theorem dL_part_38 : decode cL_part 38 = .ok (.aload 4, 2) := by decide +kernel
theorem dL_part_40 : decode cL_part 40 = .ok (.iload_n 0, 1) := by decide +kernel
theorem dL_part_41 : decode cL_part 41 = .ok (.iaload, 1) := by decide +kernel
theorem dL_part_42 : decode cL_part 42 = .ok (.invokestatic 29, 3) := by decide +kernel
theorem dL_part_45 : decode cL_part 45 = .ok (.if_icmp .ne 7, 3) := by decide +kernel
theorem dL_part_48 : decode cL_part 48 = .ok (.iconst 1, 1) := by decide +kernel
theorem dL_part_49 : decode cL_part 49 = .ok (.goto 4, 3) := by decide +kernel
theorem dL_part_52 : decode cL_part 52 = .ok (.iconst 0, 1) := by decide +kernel
theorem dL_part_53 : decode cL_part 53 = .ok (.istore 8, 2) := by decide +kernel
theorem dL_part_55 : decode cL_part 55 = .ok (.iload 6, 2) := by decide +kernel
theorem dL_part_57 : decode cL_part 57 = .ok (.iload 8, 2) := by decide +kernel
theorem dL_part_59 : decode cL_part 59 = .ok (.ifCond .eq 14, 3) := by decide +kernel
theorem dL_part_62 : decode cL_part 62 = .ok (.aload 4, 2) := by decide +kernel
theorem dL_part_64 : decode cL_part 64 = .ok (.iload 7, 2) := by decide +kernel
theorem dL_part_66 : decode cL_part 66 = .ok (.iaload, 1) := by decide +kernel
theorem dL_part_67 : decode cL_part 67 = .ok (.invokestatic 20, 3) := by decide +kernel
theorem dL_part_70 : decode cL_part 70 = .ok (.goto 4, 3) := by decide +kernel
theorem dL_part_73 : decode cL_part 73 = .ok (.iconst 0, 1) := by decide +kernel
theorem dL_part_74 : decode cL_part 74 = .ok (.iadd, 1) := by decide +kernel
theorem dL_part_75 : decode cL_part 75 = .ok (.istore 6, 2) := by decide +kernel
theorem dL_part_77 : decode cL_part 77 = .ok (.iinc 7 1, 3) := by decide +kernel
theorem dL_part_80 : decode cL_part 80 = .ok (.goto (-74), 3) := by decide +kernel
theorem dL_part_83 : decode cL_part 83 = .ok (.iload_n 1, 1) := by decide +kernel
theorem dL_part_84 : decode cL_part 84 = .ok (.istore 7, 2) := by decide +kernel
theorem dL_part_86 : decode cL_part 86 = .ok (.iconst 0, 1) := by decide +kernel
theorem dL_part_87 : decode cL_part 87 = .ok (.istore 8, 2) := by decide +kernel
theorem dL_part_89 : decode cL_part 89 = .ok (.iconst 0, 1) := by decide +kernel
theorem dL_part_90 : decode cL_part 90 = .ok (.istore 9, 2) := by decide +kernel
theorem dL_part_92 : decode cL_part 92 = .ok (.iload 9, 2) := by decide +kernel
theorem dL_part_94 : decode cL_part 94 = .ok (.aload_n 3, 1) := by decide +kernel
theorem dL_part_95 : decode cL_part 95 = .ok (.iconst 5, 1) := by decide +kernel
theorem dL_part_96 : decode cL_part 96 = .ok (.iaload, 1) := by decide +kernel
theorem dL_part_97 : decode cL_part 97 = .ok (.if_icmp .ge 98, 3) := by decide +kernel
theorem dL_part_100 : decode cL_part 100 = .ok (.aload 5, 2) := by decide +kernel
theorem dL_part_102 : decode cL_part 102 = .ok (.iload 9, 2) := by decide +kernel
theorem dL_part_104 : decode cL_part 104 = .ok (.iaload, 1) := by decide +kernel
theorem dL_part_105 : decode cL_part 105 = .ok (.aload 5, 2) := by decide +kernel
theorem dL_part_107 : decode cL_part 107 = .ok (.iload_n 0, 1) := by decide +kernel
theorem dL_part_108 : decode cL_part 108 = .ok (.iaload, 1) := by decide +kernel
theorem dL_part_109 : decode cL_part 109 = .ok (.if_icmp .ne 29, 3) := by decide +kernel
theorem dL_part_112 : decode cL_part 112 = .ok (.iload_n 2, 1) := by decide +kernel
theorem dL_part_113 : decode cL_part 113 = .ok (.ifCond .eq 21, 3) := by decide +kernel
theorem dL_part_116 : decode cL_part 116 = .ok (.aload 4, 2) := by decide +kernel
theorem dL_part_118 : decode cL_part 118 = .ok (.iload 9, 2) := by decide +kernel
theorem dL_part_120 : decode cL_part 120 = .ok (.iaload, 1) := by decide +kernel
theorem dL_part_121 : decode cL_part 121 = .ok (.invokestatic 29, 3) := by decide +kernel
theorem dL_part_124 : decode cL_part 124 = .ok (.aload 4, 2) := by decide +kernel
theorem dL_part_126 : decode cL_part 126 = .ok (.iload_n 0, 1) := by decide +kernel
theorem dL_part_127 : decode cL_part 127 = .ok (.iaload, 1) := by decide +kernel
theorem dL_part_128 : decode cL_part 128 = .ok (.invokestatic 29, 3) := by decide +kernel
theorem dL_part_131 : decode cL_part 131 = .ok (.if_icmp .ne 7, 3) := by decide +kernel
theorem dL_part_134 : decode cL_part 134 = .ok (.iconst 1, 1) := by decide +kernel
theorem dL_part_135 : decode cL_part 135 = .ok (.goto 4, 3) := by decide +kernel
theorem dL_part_138 : decode cL_part 138 = .ok (.iconst 0, 1) := by decide +kernel
theorem dL_part_139 : decode cL_part 139 = .ok (.istore 10, 2) := by decide +kernel
theorem dL_part_141 : decode cL_part 141 = .ok (.iload 7, 2) := by decide +kernel
theorem dL_part_143 : decode cL_part 143 = .ok (.iload 10, 2) := by decide +kernel
theorem dL_part_145 : decode cL_part 145 = .ok (.ifCond .eq 19, 3) := by decide +kernel
theorem dL_part_148 : decode cL_part 148 = .ok (.iload_n 1, 1) := by decide +kernel
theorem dL_part_149 : decode cL_part 149 = .ok (.aload 4, 2) := by decide +kernel
theorem dL_part_151 : decode cL_part 151 = .ok (.iload 9, 2) := by decide +kernel
theorem dL_part_153 : decode cL_part 153 = .ok (.iaload, 1) := by decide +kernel
theorem dL_part_154 : decode cL_part 154 = .ok (.invokestatic 20, 3) := by decide +kernel
theorem dL_part_157 : decode cL_part 157 = .ok (.imul, 1) := by decide +kernel
theorem dL_part_158 : decode cL_part 158 = .ok (.iload 6, 2) := by decide +kernel
theorem dL_part_160 : decode cL_part 160 = .ok (.idiv, 1) := by decide +kernel
theorem dL_part_161 : decode cL_part 161 = .ok (.goto 4, 3) := by decide +kernel
theorem dL_part_164 : decode cL_part 164 = .ok (.iconst 0, 1) := by decide +kernel
theorem dL_part_165 : decode cL_part 165 = .ok (.isub, 1) := by decide +kernel
theorem dL_part_166 : decode cL_part 166 = .ok (.istore 7, 2) := by decide +kernel
theorem dL_part_168 : decode cL_part 168 = .ok (.iload 8, 2) := by decide +kernel
theorem dL_part_170 : decode cL_part 170 = .ok (.iload 10, 2) := by decide +kernel
theorem dL_part_172 : decode cL_part 172 = .ok (.ifCond .eq 13, 3) := by decide +kernel
theorem dL_part_175 : decode cL_part 175 = .ok (.iload 9, 2) := by decide +kernel
theorem dL_part_177 : decode cL_part 177 = .ok (.iload_n 0, 1) := by decide +kernel
theorem dL_part_178 : decode cL_part 178 = .ok (.if_icmp .ge 7, 3) := by decide +kernel
theorem dL_part_181 : decode cL_part 181 = .ok (.iconst 1, 1) := by decide +kernel
theorem dL_part_182 : decode cL_part 182 = .ok (.goto 4, 3) := by decide +kernel
theorem dL_part_185 : decode cL_part 185 = .ok (.iconst 0, 1) := by decide +kernel
theorem dL_part_186 : decode cL_part 186 = .ok (.iadd, 1) := by decide +kernel
theorem dL_part_187 : decode cL_part 187 = .ok (.istore 8, 2) := by decide +kernel
theorem dL_part_189 : decode cL_part 189 = .ok (.iinc 9 1, 3) := by decide +kernel
theorem dL_part_192 : decode cL_part 192 = .ok (.goto (-100), 3) := by decide +kernel
theorem dL_part_195 : decode cL_part 195 = .ok (.iload_n 1, 1) := by decide +kernel
theorem dL_part_196 : decode cL_part 196 = .ok (.aload 4, 2) := by decide +kernel
theorem dL_part_198 : decode cL_part 198 = .ok (.iload_n 0, 1) := by decide +kernel
theorem dL_part_199 : decode cL_part 199 = .ok (.iaload, 1) := by decide +kernel
theorem dL_part_200 : decode cL_part 200 = .ok (.invokestatic 20, 3) := by decide +kernel
theorem dL_part_203 : decode cL_part 203 = .ok (.imul, 1) := by decide +kernel
theorem dL_part_204 : decode cL_part 204 = .ok (.iload 6, 2) := by decide +kernel
theorem dL_part_206 : decode cL_part 206 = .ok (.idiv, 1) := by decide +kernel
theorem dL_part_207 : decode cL_part 207 = .ok (.iload 8, 2) := by decide +kernel
theorem dL_part_209 : decode cL_part 209 = .ok (.iload 7, 2) := by decide +kernel
theorem dL_part_211 : decode cL_part 211 = .ok (.if_icmp .ge 7, 3) := by decide +kernel
theorem dL_part_214 : decode cL_part 214 = .ok (.iconst 1, 1) := by decide +kernel
theorem dL_part_215 : decode cL_part 215 = .ok (.goto 4, 3) := by decide +kernel
theorem dL_part_218 : decode cL_part 218 = .ok (.iconst 0, 1) := by decide +kernel
theorem dL_part_219 : decode cL_part 219 = .ok (.iadd, 1) := by decide +kernel
theorem dL_part_220 : decode cL_part 220 = .ok (.ireturn, 1) := by decide +kernel
theorem dL_isRider_0 : decode cL_isRider 0 = .ok (.aload_n 3, 1) := by decide +kernel
theorem dL_isRider_1 : decode cL_isRider 1 = .ok (.iload_n 1, 1) := by decide +kernel
theorem dL_isRider_2 : decode cL_isRider 2 = .ok (.iaload, 1) := by decide +kernel
theorem dL_isRider_3 : decode cL_isRider 3 = .ok (.istore 5, 2) := by decide +kernel
theorem dL_isRider_5 : decode cL_isRider 5 = .ok (.aload 4, 2) := by decide +kernel
theorem dL_isRider_7 : decode cL_isRider 7 = .ok (.iload_n 1, 1) := by decide +kernel
theorem dL_isRider_8 : decode cL_isRider 8 = .ok (.iaload, 1) := by decide +kernel
theorem dL_isRider_9 : decode cL_isRider 9 = .ok (.istore 6, 2) := by decide +kernel
theorem dL_isRider_11 : decode cL_isRider 11 = .ok (.aload_n 0, 1) := by decide +kernel
theorem dL_isRider_12 : decode cL_isRider 12 = .ok (.iload_n 1, 1) := by decide +kernel
theorem dL_isRider_13 : decode cL_isRider 13 = .ok (.iconst 0, 1) := by decide +kernel
theorem dL_isRider_14 : decode cL_isRider 14 = .ok (.invokevirtual 39, 3) := by decide +kernel
theorem dL_isRider_17 : decode cL_isRider 17 = .ok (.iload 5, 2) := by decide +kernel
theorem dL_isRider_19 : decode cL_isRider 19 = .ok (.invokestatic 10, 3) := by decide +kernel
theorem dL_isRider_22 : decode cL_isRider 22 = .ok (.if_icmp .ne 85, 3) := by decide +kernel
theorem dL_isRider_25 : decode cL_isRider 25 = .ok (.aload_n 0, 1) := by decide +kernel
theorem dL_isRider_26 : decode cL_isRider 26 = .ok (.iload_n 1, 1) := by decide +kernel
theorem dL_isRider_27 : decode cL_isRider 27 = .ok (.iconst 1, 1) := by decide +kernel
theorem dL_isRider_28 : decode cL_isRider 28 = .ok (.invokevirtual 39, 3) := by decide +kernel
theorem dL_isRider_31 : decode cL_isRider 31 = .ok (.iload 5, 2) := by decide +kernel
theorem dL_isRider_33 : decode cL_isRider 33 = .ok (.invokestatic 23, 3) := by decide +kernel
theorem dL_isRider_36 : decode cL_isRider 36 = .ok (.if_icmp .ne 71, 3) := by decide +kernel
theorem dL_isRider_39 : decode cL_isRider 39 = .ok (.aload_n 0, 1) := by decide +kernel
theorem dL_isRider_40 : decode cL_isRider 40 = .ok (.iload_n 1, 1) := by decide +kernel
theorem dL_isRider_41 : decode cL_isRider 41 = .ok (.iconst 2, 1) := by decide +kernel
theorem dL_isRider_42 : decode cL_isRider 42 = .ok (.invokevirtual 39, 3) := by decide +kernel
theorem dL_isRider_45 : decode cL_isRider 45 = .ok (.iload 5, 2) := by decide +kernel
theorem dL_isRider_47 : decode cL_isRider 47 = .ok (.invokestatic 32, 3) := by decide +kernel
theorem dL_isRider_50 : decode cL_isRider 50 = .ok (.if_icmp .ne 57, 3) := by decide +kernel
theorem dL_isRider_53 : decode cL_isRider 53 = .ok (.aload_n 0, 1) := by decide +kernel
theorem dL_isRider_54 : decode cL_isRider 54 = .ok (.iload_n 1, 1) := by decide +kernel
theorem dL_isRider_55 : decode cL_isRider 55 = .ok (.iconst 3, 1) := by decide +kernel
theorem dL_isRider_56 : decode cL_isRider 56 = .ok (.invokevirtual 39, 3) := by decide +kernel
theorem dL_isRider_59 : decode cL_isRider 59 = .ok (.iload 5, 2) := by decide +kernel
theorem dL_isRider_61 : decode cL_isRider 61 = .ok (.invokestatic 20, 3) := by decide +kernel
theorem dL_isRider_64 : decode cL_isRider 64 = .ok (.if_icmp .ne 43, 3) := by decide +kernel
theorem dL_isRider_67 : decode cL_isRider 67 = .ok (.aload_n 0, 1) := by decide +kernel
theorem dL_isRider_68 : decode cL_isRider 68 = .ok (.iload_n 1, 1) := by decide +kernel
theorem dL_isRider_69 : decode cL_isRider 69 = .ok (.iconst 4, 1) := by decide +kernel
theorem dL_isRider_70 : decode cL_isRider 70 = .ok (.invokevirtual 39, 3) := by decide +kernel
theorem dL_isRider_73 : decode cL_isRider 73 = .ok (.iload 5, 2) := by decide +kernel
theorem dL_isRider_75 : decode cL_isRider 75 = .ok (.aload_n 2, 1) := by decide +kernel
theorem dL_isRider_76 : decode cL_isRider 76 = .ok (.invokestatic 16, 3) := by decide +kernel
theorem dL_isRider_79 : decode cL_isRider 79 = .ok (.if_icmp .ne 28, 3) := by decide +kernel
theorem dL_isRider_82 : decode cL_isRider 82 = .ok (.aload_n 0, 1) := by decide +kernel
theorem dL_isRider_83 : decode cL_isRider 83 = .ok (.iload_n 1, 1) := by decide +kernel
theorem dL_isRider_84 : decode cL_isRider 84 = .ok (.iconst 5, 1) := by decide +kernel
