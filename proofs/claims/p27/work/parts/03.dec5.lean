theorem dL_isRider_85 : decode cL_isRider 85 = .ok (.invokevirtual 39, 3) := by decide +kernel
theorem dL_isRider_88 : decode cL_isRider 88 = .ok (.iload 6, 2) := by decide +kernel
theorem dL_isRider_90 : decode cL_isRider 90 = .ok (.ifCond .ge 8, 3) := by decide +kernel
theorem dL_isRider_93 : decode cL_isRider 93 = .ok (.bipush (-106), 2) := by decide +kernel
theorem dL_isRider_95 : decode cL_isRider 95 = .ok (.goto 5, 3) := by decide +kernel
theorem dL_isRider_98 : decode cL_isRider 98 = .ok (.iload 6, 2) := by decide +kernel
theorem dL_isRider_100 : decode cL_isRider 100 = .ok (.if_icmp .ne 7, 3) := by decide +kernel
theorem dL_isRider_103 : decode cL_isRider 103 = .ok (.iconst 1, 1) := by decide +kernel
theorem dL_isRider_104 : decode cL_isRider 104 = .ok (.goto 4, 3) := by decide +kernel
theorem dL_isRider_107 : decode cL_isRider 107 = .ok (.iconst 0, 1) := by decide +kernel
theorem dL_isRider_108 : decode cL_isRider 108 = .ok (.istore 7, 2) := by decide +kernel
theorem dL_isRider_110 : decode cL_isRider 110 = .ok (.iload 6, 2) := by decide +kernel
theorem dL_isRider_112 : decode cL_isRider 112 = .ok (.ifCond .ge 58, 3) := by decide +kernel
theorem dL_isRider_115 : decode cL_isRider 115 = .ok (.iload 7, 2) := by decide +kernel
theorem dL_isRider_117 : decode cL_isRider 117 = .ok (.ifCond .eq 51, 3) := by decide +kernel
theorem dL_isRider_120 : decode cL_isRider 120 = .ok (.aload_n 0, 1) := by decide +kernel
theorem dL_isRider_121 : decode cL_isRider 121 = .ok (.iload_n 1, 1) := by decide +kernel
theorem dL_isRider_122 : decode cL_isRider 122 = .ok (.bipush 6, 2) := by decide +kernel
theorem dL_isRider_124 : decode cL_isRider 124 = .ok (.invokevirtual 39, 3) := by decide +kernel
theorem dL_isRider_127 : decode cL_isRider 127 = .ok (.bipush (-106), 2) := by decide +kernel
theorem dL_isRider_129 : decode cL_isRider 129 = .ok (.if_icmp .ne 39, 3) := by decide +kernel
theorem dL_isRider_132 : decode cL_isRider 132 = .ok (.aload_n 0, 1) := by decide +kernel
theorem dL_isRider_133 : decode cL_isRider 133 = .ok (.iload_n 1, 1) := by decide +kernel
theorem dL_isRider_134 : decode cL_isRider 134 = .ok (.bipush 7, 2) := by decide +kernel
theorem dL_isRider_136 : decode cL_isRider 136 = .ok (.invokevirtual 39, 3) := by decide +kernel
theorem dL_isRider_139 : decode cL_isRider 139 = .ok (.bipush (-106), 2) := by decide +kernel
theorem dL_isRider_141 : decode cL_isRider 141 = .ok (.if_icmp .ne 27, 3) := by decide +kernel
theorem dL_isRider_144 : decode cL_isRider 144 = .ok (.aload_n 0, 1) := by decide +kernel
theorem dL_isRider_145 : decode cL_isRider 145 = .ok (.iload_n 1, 1) := by decide +kernel
theorem dL_isRider_146 : decode cL_isRider 146 = .ok (.bipush 8, 2) := by decide +kernel
theorem dL_isRider_148 : decode cL_isRider 148 = .ok (.invokevirtual 39, 3) := by decide +kernel
theorem dL_isRider_151 : decode cL_isRider 151 = .ok (.ifCond .ne 17, 3) := by decide +kernel
theorem dL_isRider_154 : decode cL_isRider 154 = .ok (.aload_n 0, 1) := by decide +kernel
theorem dL_isRider_155 : decode cL_isRider 155 = .ok (.iload_n 1, 1) := by decide +kernel
theorem dL_isRider_156 : decode cL_isRider 156 = .ok (.bipush 9, 2) := by decide +kernel
theorem dL_isRider_158 : decode cL_isRider 158 = .ok (.invokevirtual 39, 3) := by decide +kernel
theorem dL_isRider_161 : decode cL_isRider 161 = .ok (.ifCond .ne 7, 3) := by decide +kernel
theorem dL_isRider_164 : decode cL_isRider 164 = .ok (.iconst 1, 1) := by decide +kernel
theorem dL_isRider_165 : decode cL_isRider 165 = .ok (.goto 4, 3) := by decide +kernel
theorem dL_isRider_168 : decode cL_isRider 168 = .ok (.iconst 0, 1) := by decide +kernel
theorem dL_isRider_169 : decode cL_isRider 169 = .ok (.ireturn, 1) := by decide +kernel
theorem dL_isRider_170 : decode cL_isRider 170 = .ok (.iconst (-1), 1) := by decide +kernel
theorem dL_isRider_171 : decode cL_isRider 171 = .ok (.istore 8, 2) := by decide +kernel
theorem dL_isRider_173 : decode cL_isRider 173 = .ok (.iconst 0, 1) := by decide +kernel
theorem dL_isRider_174 : decode cL_isRider 174 = .ok (.istore 9, 2) := by decide +kernel
theorem dL_isRider_176 : decode cL_isRider 176 = .ok (.iload 9, 2) := by decide +kernel
theorem dL_isRider_178 : decode cL_isRider 178 = .ok (.aload_n 2, 1) := by decide +kernel
theorem dL_isRider_179 : decode cL_isRider 179 = .ok (.iconst 5, 1) := by decide +kernel
theorem dL_isRider_180 : decode cL_isRider 180 = .ok (.iaload, 1) := by decide +kernel
theorem dL_isRider_181 : decode cL_isRider 181 = .ok (.if_icmp .ge 44, 3) := by decide +kernel
theorem dL_isRider_184 : decode cL_isRider 184 = .ok (.iload 8, 2) := by decide +kernel
theorem dL_isRider_186 : decode cL_isRider 186 = .ok (.aload 4, 2) := by decide +kernel
theorem dL_isRider_188 : decode cL_isRider 188 = .ok (.iload 9, 2) := by decide +kernel
theorem dL_isRider_190 : decode cL_isRider 190 = .ok (.iaload, 1) := by decide +kernel
theorem dL_isRider_191 : decode cL_isRider 191 = .ok (.iload 6, 2) := by decide +kernel
theorem dL_isRider_193 : decode cL_isRider 193 = .ok (.if_icmp .ne 22, 3) := by decide +kernel
theorem dL_isRider_196 : decode cL_isRider 196 = .ok (.aload_n 3, 1) := by decide +kernel
theorem dL_isRider_197 : decode cL_isRider 197 = .ok (.iload 9, 2) := by decide +kernel
theorem dL_isRider_199 : decode cL_isRider 199 = .ok (.iaload, 1) := by decide +kernel
theorem dL_isRider_200 : decode cL_isRider 200 = .ok (.invokestatic 29, 3) := by decide +kernel
theorem dL_isRider_203 : decode cL_isRider 203 = .ok (.iload 5, 2) := by decide +kernel
theorem dL_isRider_205 : decode cL_isRider 205 = .ok (.invokestatic 29, 3) := by decide +kernel
theorem dL_isRider_208 : decode cL_isRider 208 = .ok (.if_icmp .ne 7, 3) := by decide +kernel
theorem dL_isRider_211 : decode cL_isRider 211 = .ok (.iconst 1, 1) := by decide +kernel
theorem dL_isRider_212 : decode cL_isRider 212 = .ok (.goto 4, 3) := by decide +kernel
theorem dL_isRider_215 : decode cL_isRider 215 = .ok (.iconst 0, 1) := by decide +kernel
theorem dL_isRider_216 : decode cL_isRider 216 = .ok (.iadd, 1) := by decide +kernel
theorem dL_isRider_217 : decode cL_isRider 217 = .ok (.istore 8, 2) := by decide +kernel
theorem dL_isRider_219 : decode cL_isRider 219 = .ok (.iinc 9 1, 3) := by decide +kernel
theorem dL_isRider_222 : decode cL_isRider 222 = .ok (.goto (-46), 3) := by decide +kernel
theorem dL_isRider_225 : decode cL_isRider 225 = .ok (.iload 7, 2) := by decide +kernel
theorem dL_isRider_227 : decode cL_isRider 227 = .ok (.ifCond .eq 102, 3) := by decide +kernel
theorem dL_isRider_230 : decode cL_isRider 230 = .ok (.aload_n 0, 1) := by decide +kernel
theorem dL_isRider_231 : decode cL_isRider 231 = .ok (.iload_n 1, 1) := by decide +kernel
theorem dL_isRider_232 : decode cL_isRider 232 = .ok (.bipush 6, 2) := by decide +kernel
theorem dL_isRider_234 : decode cL_isRider 234 = .ok (.invokevirtual 39, 3) := by decide +kernel
theorem dL_isRider_237 : decode cL_isRider 237 = .ok (.aload_n 2, 1) := by decide +kernel
theorem dL_isRider_238 : decode cL_isRider 238 = .ok (.bipush 18, 2) := by decide +kernel
theorem dL_isRider_240 : decode cL_isRider 240 = .ok (.iload 6, 2) := by decide +kernel
theorem dL_isRider_242 : decode cL_isRider 242 = .ok (.iadd, 1) := by decide +kernel
theorem dL_isRider_243 : decode cL_isRider 243 = .ok (.iaload, 1) := by decide +kernel
theorem dL_isRider_244 : decode cL_isRider 244 = .ok (.iload 5, 2) := by decide +kernel
theorem dL_isRider_246 : decode cL_isRider 246 = .ok (.aload_n 2, 1) := by decide +kernel
theorem dL_isRider_247 : decode cL_isRider 247 = .ok (.invokestatic 16, 3) := by decide +kernel
theorem dL_isRider_250 : decode cL_isRider 250 = .ok (.isub, 1) := by decide +kernel
theorem dL_isRider_251 : decode cL_isRider 251 = .ok (.if_icmp .ne 78, 3) := by decide +kernel
theorem dL_isRider_254 : decode cL_isRider 254 = .ok (.aload_n 0, 1) := by decide +kernel
theorem dL_isRider_255 : decode cL_isRider 255 = .ok (.iload_n 1, 1) := by decide +kernel
theorem dL_isRider_256 : decode cL_isRider 256 = .ok (.bipush 7, 2) := by decide +kernel
theorem dL_isRider_258 : decode cL_isRider 258 = .ok (.invokevirtual 39, 3) := by decide +kernel
theorem dL_isRider_261 : decode cL_isRider 261 = .ok (.iload 6, 2) := by decide +kernel
theorem dL_isRider_263 : decode cL_isRider 263 = .ok (.iload 5, 2) := by decide +kernel
theorem dL_isRider_265 : decode cL_isRider 265 = .ok (.invokestatic 29, 3) := by decide +kernel
theorem dL_isRider_268 : decode cL_isRider 268 = .ok (.aload_n 2, 1) := by decide +kernel
theorem dL_isRider_269 : decode cL_isRider 269 = .ok (.aload_n 3, 1) := by decide +kernel
theorem dL_isRider_270 : decode cL_isRider 270 = .ok (.aload 4, 2) := by decide +kernel
theorem dL_isRider_272 : decode cL_isRider 272 = .ok (.invokestatic 45, 3) := by decide +kernel
theorem dL_isRider_275 : decode cL_isRider 275 = .ok (.if_icmp .ne 54, 3) := by decide +kernel
theorem dL_isRider_278 : decode cL_isRider 278 = .ok (.aload_n 0, 1) := by decide +kernel
theorem dL_isRider_279 : decode cL_isRider 279 = .ok (.iload_n 1, 1) := by decide +kernel
theorem dL_isRider_280 : decode cL_isRider 280 = .ok (.bipush 8, 2) := by decide +kernel
theorem dL_isRider_282 : decode cL_isRider 282 = .ok (.invokevirtual 39, 3) := by decide +kernel
theorem dL_isRider_285 : decode cL_isRider 285 = .ok (.iload_n 1, 1) := by decide +kernel
theorem dL_isRider_286 : decode cL_isRider 286 = .ok (.aload_n 2, 1) := by decide +kernel
theorem dL_isRider_287 : decode cL_isRider 287 = .ok (.iconst 3, 1) := by decide +kernel
theorem dL_isRider_288 : decode cL_isRider 288 = .ok (.iaload, 1) := by decide +kernel
theorem dL_isRider_289 : decode cL_isRider 289 = .ok (.iconst 0, 1) := by decide +kernel
theorem dL_isRider_290 : decode cL_isRider 290 = .ok (.aload_n 2, 1) := by decide +kernel
theorem dL_isRider_291 : decode cL_isRider 291 = .ok (.aload_n 3, 1) := by decide +kernel
theorem dL_isRider_292 : decode cL_isRider 292 = .ok (.aload 4, 2) := by decide +kernel
theorem dL_isRider_294 : decode cL_isRider 294 = .ok (.invokestatic 48, 3) := by decide +kernel
theorem dL_isRider_297 : decode cL_isRider 297 = .ok (.iload_n 1, 1) := by decide +kernel
theorem dL_isRider_298 : decode cL_isRider 298 = .ok (.aload_n 2, 1) := by decide +kernel
theorem dL_isRider_299 : decode cL_isRider 299 = .ok (.iconst 4, 1) := by decide +kernel
theorem dL_isRider_300 : decode cL_isRider 300 = .ok (.iaload, 1) := by decide +kernel
theorem dL_isRider_301 : decode cL_isRider 301 = .ok (.iconst 1, 1) := by decide +kernel
theorem dL_isRider_302 : decode cL_isRider 302 = .ok (.aload_n 2, 1) := by decide +kernel
theorem dL_isRider_303 : decode cL_isRider 303 = .ok (.aload_n 3, 1) := by decide +kernel
theorem dL_isRider_304 : decode cL_isRider 304 = .ok (.aload 4, 2) := by decide +kernel
theorem dL_isRider_306 : decode cL_isRider 306 = .ok (.invokestatic 48, 3) := by decide +kernel
theorem dL_isRider_309 : decode cL_isRider 309 = .ok (.iadd, 1) := by decide +kernel
theorem dL_isRider_310 : decode cL_isRider 310 = .ok (.if_icmp .ne 19, 3) := by decide +kernel
theorem dL_isRider_313 : decode cL_isRider 313 = .ok (.aload_n 0, 1) := by decide +kernel
theorem dL_isRider_314 : decode cL_isRider 314 = .ok (.iload_n 1, 1) := by decide +kernel
theorem dL_isRider_315 : decode cL_isRider 315 = .ok (.bipush 9, 2) := by decide +kernel
theorem dL_isRider_317 : decode cL_isRider 317 = .ok (.invokevirtual 39, 3) := by decide +kernel
theorem dL_isRider_320 : decode cL_isRider 320 = .ok (.iload 8, 2) := by decide +kernel
theorem dL_isRider_322 : decode cL_isRider 322 = .ok (.if_icmp .ne 7, 3) := by decide +kernel
theorem dL_isRider_325 : decode cL_isRider 325 = .ok (.iconst 1, 1) := by decide +kernel
theorem dL_isRider_326 : decode cL_isRider 326 = .ok (.goto 4, 3) := by decide +kernel
theorem dL_isRider_329 : decode cL_isRider 329 = .ok (.iconst 0, 1) := by decide +kernel
theorem dL_isRider_330 : decode cL_isRider 330 = .ok (.ireturn, 1) := by decide +kernel
theorem dL_isVan_0 : decode cL_isVan 0 = .ok (.iconst 0, 1) := by decide +kernel
theorem dL_isVan_1 : decode cL_isVan 1 = .ok (.istore 7, 2) := by decide +kernel
theorem dL_isVan_3 : decode cL_isVan 3 = .ok (.iconst (-1), 1) := by decide +kernel
theorem dL_isVan_4 : decode cL_isVan 4 = .ok (.istore 8, 2) := by decide +kernel
theorem dL_isVan_6 : decode cL_isVan 6 = .ok (.iconst (-1), 1) := by decide +kernel
theorem dL_isVan_7 : decode cL_isVan 7 = .ok (.istore 9, 2) := by decide +kernel
theorem dL_isVan_9 : decode cL_isVan 9 = .ok (.iload_n 1, 1) := by decide +kernel
theorem dL_isVan_10 : decode cL_isVan 10 = .ok (.sipush 1000, 3) := by decide +kernel
theorem dL_isVan_13 : decode cL_isVan 13 = .ok (.aload_n 3, 1) := by decide +kernel
theorem dL_isVan_14 : decode cL_isVan 14 = .ok (.aload 4, 2) := by decide +kernel
theorem dL_isVan_16 : decode cL_isVan 16 = .ok (.aload 5, 2) := by decide +kernel
theorem dL_isVan_18 : decode cL_isVan 18 = .ok (.invokestatic 35, 3) := by decide +kernel
theorem dL_isVan_21 : decode cL_isVan 21 = .ok (.istore 10, 2) := by decide +kernel
theorem dL_isVan_23 : decode cL_isVan 23 = .ok (.iconst 0, 1) := by decide +kernel
theorem dL_isVan_24 : decode cL_isVan 24 = .ok (.istore 11, 2) := by decide +kernel
theorem dL_isVan_26 : decode cL_isVan 26 = .ok (.iconst 0, 1) := by decide +kernel
theorem dL_isVan_27 : decode cL_isVan 27 = .ok (.istore 12, 2) := by decide +kernel
theorem dL_isVan_29 : decode cL_isVan 29 = .ok (.iload 12, 2) := by decide +kernel
theorem dL_isVan_31 : decode cL_isVan 31 = .ok (.aload_n 3, 1) := by decide +kernel
theorem dL_isVan_32 : decode cL_isVan 32 = .ok (.iconst 5, 1) := by decide +kernel
theorem dL_isVan_33 : decode cL_isVan 33 = .ok (.iaload, 1) := by decide +kernel
theorem dL_isVan_34 : decode cL_isVan 34 = .ok (.if_icmp .ge 113, 3) := by decide +kernel
theorem dL_isVan_37 : decode cL_isVan 37 = .ok (.iload 7, 2) := by decide +kernel
theorem dL_isVan_39 : decode cL_isVan 39 = .ok (.aload 5, 2) := by decide +kernel
theorem dL_isVan_41 : decode cL_isVan 41 = .ok (.iload 12, 2) := by decide +kernel
theorem dL_isVan_43 : decode cL_isVan 43 = .ok (.iaload, 1) := by decide +kernel
theorem dL_isVan_44 : decode cL_isVan 44 = .ok (.iload_n 1, 1) := by decide +kernel
theorem dL_isVan_45 : decode cL_isVan 45 = .ok (.if_icmp .ne 10, 3) := by decide +kernel
theorem dL_isVan_48 : decode cL_isVan 48 = .ok (.iconst 1, 1) := by decide +kernel
theorem dL_isVan_49 : decode cL_isVan 49 = .ok (.iload 12, 2) := by decide +kernel
theorem dL_isVan_51 : decode cL_isVan 51 = .ok (.ishl, 1) := by decide +kernel
theorem dL_isVan_52 : decode cL_isVan 52 = .ok (.goto 4, 3) := by decide +kernel
theorem dL_isVan_55 : decode cL_isVan 55 = .ok (.iconst 0, 1) := by decide +kernel
theorem dL_isVan_56 : decode cL_isVan 56 = .ok (.ior, 1) := by decide +kernel
theorem dL_isVan_57 : decode cL_isVan 57 = .ok (.istore 7, 2) := by decide +kernel
theorem dL_isVan_59 : decode cL_isVan 59 = .ok (.aload 5, 2) := by decide +kernel
theorem dL_isVan_61 : decode cL_isVan 61 = .ok (.iload 12, 2) := by decide +kernel
theorem dL_isVan_63 : decode cL_isVan 63 = .ok (.iaload, 1) := by decide +kernel
theorem dL_isVan_64 : decode cL_isVan 64 = .ok (.iload_n 1, 1) := by decide +kernel
theorem dL_isVan_65 : decode cL_isVan 65 = .ok (.if_icmp .ne 27, 3) := by decide +kernel
theorem dL_isVan_68 : decode cL_isVan 68 = .ok (.aload 4, 2) := by decide +kernel
theorem dL_isVan_70 : decode cL_isVan 70 = .ok (.iload 12, 2) := by decide +kernel
theorem dL_isVan_72 : decode cL_isVan 72 = .ok (.iaload, 1) := by decide +kernel
theorem dL_isVan_73 : decode cL_isVan 73 = .ok (.invokestatic 29, 3) := by decide +kernel
theorem dL_isVan_76 : decode cL_isVan 76 = .ok (.iload 8, 2) := by decide +kernel
theorem dL_isVan_78 : decode cL_isVan 78 = .ok (.if_icmp .le 14, 3) := by decide +kernel
theorem dL_isVan_81 : decode cL_isVan 81 = .ok (.aload 4, 2) := by decide +kernel
theorem dL_isVan_83 : decode cL_isVan 83 = .ok (.iload 12, 2) := by decide +kernel
theorem dL_isVan_85 : decode cL_isVan 85 = .ok (.iaload, 1) := by decide +kernel
theorem dL_isVan_86 : decode cL_isVan 86 = .ok (.invokestatic 29, 3) := by decide +kernel
theorem dL_isVan_89 : decode cL_isVan 89 = .ok (.goto 5, 3) := by decide +kernel
theorem dL_isVan_92 : decode cL_isVan 92 = .ok (.iload 8, 2) := by decide +kernel
theorem dL_isVan_94 : decode cL_isVan 94 = .ok (.istore 8, 2) := by decide +kernel
theorem dL_isVan_96 : decode cL_isVan 96 = .ok (.aload 5, 2) := by decide +kernel
theorem dL_isVan_98 : decode cL_isVan 98 = .ok (.iload 12, 2) := by decide +kernel
theorem dL_isVan_100 : decode cL_isVan 100 = .ok (.iaload, 1) := by decide +kernel
theorem dL_isVan_101 : decode cL_isVan 101 = .ok (.iload_n 1, 1) := by decide +kernel
theorem dL_isVan_102 : decode cL_isVan 102 = .ok (.if_icmp .ne 35, 3) := by decide +kernel
theorem dL_isVan_105 : decode cL_isVan 105 = .ok (.iload_n 1, 1) := by decide +kernel
theorem dL_isVan_106 : decode cL_isVan 106 = .ok (.aload 4, 2) := by decide +kernel
theorem dL_isVan_108 : decode cL_isVan 108 = .ok (.iload 12, 2) := by decide +kernel
theorem dL_isVan_110 : decode cL_isVan 110 = .ok (.iaload, 1) := by decide +kernel
theorem dL_isVan_111 : decode cL_isVan 111 = .ok (.invokestatic 29, 3) := by decide +kernel
theorem dL_isVan_114 : decode cL_isVan 114 = .ok (.aload_n 3, 1) := by decide +kernel
theorem dL_isVan_115 : decode cL_isVan 115 = .ok (.aload 4, 2) := by decide +kernel
theorem dL_isVan_117 : decode cL_isVan 117 = .ok (.aload 5, 2) := by decide +kernel
theorem dL_isVan_119 : decode cL_isVan 119 = .ok (.invokestatic 35, 3) := by decide +kernel
theorem dL_isVan_122 : decode cL_isVan 122 = .ok (.iload_n 2, 1) := by decide +kernel
theorem dL_isVan_123 : decode cL_isVan 123 = .ok (.if_icmp .ne 14, 3) := by decide +kernel
theorem dL_isVan_126 : decode cL_isVan 126 = .ok (.aload 4, 2) := by decide +kernel
theorem dL_isVan_128 : decode cL_isVan 128 = .ok (.iload 12, 2) := by decide +kernel
theorem dL_isVan_130 : decode cL_isVan 130 = .ok (.iaload, 1) := by decide +kernel
theorem dL_isVan_131 : decode cL_isVan 131 = .ok (.invokestatic 29, 3) := by decide +kernel
theorem dL_isVan_134 : decode cL_isVan 134 = .ok (.goto 5, 3) := by decide +kernel
theorem dL_isVan_137 : decode cL_isVan 137 = .ok (.iload 9, 2) := by decide +kernel
theorem dL_isVan_139 : decode cL_isVan 139 = .ok (.istore 9, 2) := by decide +kernel
theorem dL_isVan_141 : decode cL_isVan 141 = .ok (.iinc 12 1, 3) := by decide +kernel
theorem dL_isVan_144 : decode cL_isVan 144 = .ok (.goto (-115), 3) := by decide +kernel
theorem dL_isVan_147 : decode cL_isVan 147 = .ok (.iconst 0, 1) := by decide +kernel
theorem dL_isVan_148 : decode cL_isVan 148 = .ok (.istore 12, 2) := by decide +kernel
theorem dL_isVan_150 : decode cL_isVan 150 = .ok (.iload 12, 2) := by decide +kernel
theorem dL_isVan_152 : decode cL_isVan 152 = .ok (.aload_n 3, 1) := by decide +kernel
theorem dL_isVan_153 : decode cL_isVan 153 = .ok (.iconst 5, 1) := by decide +kernel
theorem dL_isVan_154 : decode cL_isVan 154 = .ok (.iaload, 1) := by decide +kernel
theorem dL_isVan_155 : decode cL_isVan 155 = .ok (.if_icmp .ge 48, 3) := by decide +kernel
theorem dL_isVan_158 : decode cL_isVan 158 = .ok (.iload 11, 2) := by decide +kernel
theorem dL_isVan_160 : decode cL_isVan 160 = .ok (.aload 5, 2) := by decide +kernel
theorem dL_isVan_162 : decode cL_isVan 162 = .ok (.iload 12, 2) := by decide +kernel
theorem dL_isVan_164 : decode cL_isVan 164 = .ok (.iaload, 1) := by decide +kernel
theorem dL_isVan_165 : decode cL_isVan 165 = .ok (.iload_n 1, 1) := by decide +kernel
theorem dL_isVan_166 : decode cL_isVan 166 = .ok (.if_icmp .ne 27, 3) := by decide +kernel
theorem dL_isVan_169 : decode cL_isVan 169 = .ok (.aload 4, 2) := by decide +kernel
theorem dL_isVan_171 : decode cL_isVan 171 = .ok (.iload 12, 2) := by decide +kernel
theorem dL_isVan_173 : decode cL_isVan 173 = .ok (.iaload, 1) := by decide +kernel
theorem dL_isVan_174 : decode cL_isVan 174 = .ok (.invokestatic 29, 3) := by decide +kernel
theorem dL_isVan_177 : decode cL_isVan 177 = .ok (.iload 9, 2) := by decide +kernel
theorem dL_isVan_179 : decode cL_isVan 179 = .ok (.if_icmp .ne 14, 3) := by decide +kernel
theorem dL_isVan_182 : decode cL_isVan 182 = .ok (.aload 4, 2) := by decide +kernel
theorem dL_isVan_184 : decode cL_isVan 184 = .ok (.iload 12, 2) := by decide +kernel
theorem dL_isVan_186 : decode cL_isVan 186 = .ok (.iaload, 1) := by decide +kernel
theorem dL_isVan_187 : decode cL_isVan 187 = .ok (.invokestatic 20, 3) := by decide +kernel
theorem dL_isVan_190 : decode cL_isVan 190 = .ok (.goto 4, 3) := by decide +kernel
theorem dL_isVan_193 : decode cL_isVan 193 = .ok (.iconst 0, 1) := by decide +kernel
theorem dL_isVan_194 : decode cL_isVan 194 = .ok (.iadd, 1) := by decide +kernel
theorem dL_isVan_195 : decode cL_isVan 195 = .ok (.istore 11, 2) := by decide +kernel
theorem dL_isVan_197 : decode cL_isVan 197 = .ok (.iinc 12 1, 3) := by decide +kernel
theorem dL_isVan_200 : decode cL_isVan 200 = .ok (.goto (-50), 3) := by decide +kernel
theorem dL_isVan_203 : decode cL_isVan 203 = .ok (.aload_n 0, 1) := by decide +kernel
theorem dL_isVan_204 : decode cL_isVan 204 = .ok (.iload_n 1, 1) := by decide +kernel
theorem dL_isVan_205 : decode cL_isVan 205 = .ok (.iconst 0, 1) := by decide +kernel
theorem dL_isVan_206 : decode cL_isVan 206 = .ok (.invokevirtual 52, 3) := by decide +kernel
theorem dL_isVan_209 : decode cL_isVan 209 = .ok (.aload_n 3, 1) := by decide +kernel
theorem dL_isVan_210 : decode cL_isVan 210 = .ok (.bipush 18, 2) := by decide +kernel
theorem dL_isVan_212 : decode cL_isVan 212 = .ok (.iload_n 1, 1) := by decide +kernel
theorem dL_isVan_213 : decode cL_isVan 213 = .ok (.iadd, 1) := by decide +kernel
theorem dL_isVan_214 : decode cL_isVan 214 = .ok (.iaload, 1) := by decide +kernel
theorem dL_isVan_215 : decode cL_isVan 215 = .ok (.if_icmp .ne 133, 3) := by decide +kernel
theorem dL_isVan_218 : decode cL_isVan 218 = .ok (.aload_n 0, 1) := by decide +kernel
theorem dL_isVan_219 : decode cL_isVan 219 = .ok (.iload_n 1, 1) := by decide +kernel
theorem dL_isVan_220 : decode cL_isVan 220 = .ok (.iconst 1, 1) := by decide +kernel
theorem dL_isVan_221 : decode cL_isVan 221 = .ok (.invokevirtual 52, 3) := by decide +kernel
theorem dL_isVan_224 : decode cL_isVan 224 = .ok (.aload_n 3, 1) := by decide +kernel
theorem dL_isVan_225 : decode cL_isVan 225 = .ok (.bipush 26, 2) := by decide +kernel
theorem dL_isVan_227 : decode cL_isVan 227 = .ok (.iload_n 1, 1) := by decide +kernel
theorem dL_isVan_228 : decode cL_isVan 228 = .ok (.iadd, 1) := by decide +kernel
theorem dL_isVan_229 : decode cL_isVan 229 = .ok (.iaload, 1) := by decide +kernel
theorem dL_isVan_230 : decode cL_isVan 230 = .ok (.if_icmp .ne 118, 3) := by decide +kernel
theorem dL_isVan_233 : decode cL_isVan 233 = .ok (.aload_n 0, 1) := by decide +kernel
theorem dL_isVan_234 : decode cL_isVan 234 = .ok (.iload_n 1, 1) := by decide +kernel
theorem dL_isVan_235 : decode cL_isVan 235 = .ok (.iconst 2, 1) := by decide +kernel
theorem dL_isVan_236 : decode cL_isVan 236 = .ok (.invokevirtual 52, 3) := by decide +kernel
theorem dL_isVan_239 : decode cL_isVan 239 = .ok (.aload 6, 2) := by decide +kernel
theorem dL_isVan_241 : decode cL_isVan 241 = .ok (.iload_n 1, 1) := by decide +kernel
theorem dL_isVan_242 : decode cL_isVan 242 = .ok (.iaload, 1) := by decide +kernel
theorem dL_isVan_243 : decode cL_isVan 243 = .ok (.if_icmp .ne 105, 3) := by decide +kernel
theorem dL_isVan_246 : decode cL_isVan 246 = .ok (.aload_n 0, 1) := by decide +kernel
theorem dL_isVan_247 : decode cL_isVan 247 = .ok (.iload_n 1, 1) := by decide +kernel
theorem dL_isVan_248 : decode cL_isVan 248 = .ok (.iconst 3, 1) := by decide +kernel
theorem dL_isVan_249 : decode cL_isVan 249 = .ok (.invokevirtual 52, 3) := by decide +kernel
theorem dL_isVan_252 : decode cL_isVan 252 = .ok (.iload 7, 2) := by decide +kernel
theorem dL_isVan_254 : decode cL_isVan 254 = .ok (.if_icmp .ne 94, 3) := by decide +kernel
theorem dL_isVan_257 : decode cL_isVan 257 = .ok (.aload_n 0, 1) := by decide +kernel
theorem dL_isVan_258 : decode cL_isVan 258 = .ok (.iload_n 1, 1) := by decide +kernel
theorem dL_isVan_259 : decode cL_isVan 259 = .ok (.iconst 4, 1) := by decide +kernel
theorem dL_isVan_260 : decode cL_isVan 260 = .ok (.invokevirtual 52, 3) := by decide +kernel
theorem dL_isVan_263 : decode cL_isVan 263 = .ok (.aload 6, 2) := by decide +kernel
theorem dL_isVan_265 : decode cL_isVan 265 = .ok (.bipush 8, 2) := by decide +kernel
theorem dL_isVan_267 : decode cL_isVan 267 = .ok (.iload_n 1, 1) := by decide +kernel
theorem dL_isVan_268 : decode cL_isVan 268 = .ok (.iadd, 1) := by decide +kernel
theorem dL_isVan_269 : decode cL_isVan 269 = .ok (.iaload, 1) := by decide +kernel
theorem dL_isVan_270 : decode cL_isVan 270 = .ok (.if_icmp .ne 78, 3) := by decide +kernel
theorem dL_isVan_273 : decode cL_isVan 273 = .ok (.aload_n 0, 1) := by decide +kernel
theorem dL_isVan_274 : decode cL_isVan 274 = .ok (.iload_n 1, 1) := by decide +kernel
theorem dL_isVan_275 : decode cL_isVan 275 = .ok (.iconst 5, 1) := by decide +kernel
theorem dL_isVan_276 : decode cL_isVan 276 = .ok (.invokevirtual 52, 3) := by decide +kernel
theorem dL_isVan_279 : decode cL_isVan 279 = .ok (.iload 10, 2) := by decide +kernel
theorem dL_isVan_281 : decode cL_isVan 281 = .ok (.if_icmp .ne 67, 3) := by decide +kernel
theorem dL_isVan_284 : decode cL_isVan 284 = .ok (.aload_n 0, 1) := by decide +kernel
theorem dL_isVan_285 : decode cL_isVan 285 = .ok (.iload_n 1, 1) := by decide +kernel
theorem dL_isVan_286 : decode cL_isVan 286 = .ok (.bipush 6, 2) := by decide +kernel
theorem dL_isVan_288 : decode cL_isVan 288 = .ok (.invokevirtual 52, 3) := by decide +kernel
theorem dL_isVan_291 : decode cL_isVan 291 = .ok (.iload 10, 2) := by decide +kernel
theorem dL_isVan_293 : decode cL_isVan 293 = .ok (.ifCond .ne 8, 3) := by decide +kernel
theorem dL_isVan_296 : decode cL_isVan 296 = .ok (.bipush (-106), 2) := by decide +kernel
theorem dL_isVan_298 : decode cL_isVan 298 = .ok (.goto 14, 3) := by decide +kernel
theorem dL_isVan_301 : decode cL_isVan 301 = .ok (.iload_n 1, 1) := by decide +kernel
theorem dL_isVan_302 : decode cL_isVan 302 = .ok (.iload 8, 2) := by decide +kernel
theorem dL_isVan_304 : decode cL_isVan 304 = .ok (.aload_n 3, 1) := by decide +kernel
theorem dL_isVan_305 : decode cL_isVan 305 = .ok (.aload 4, 2) := by decide +kernel
theorem dL_isVan_307 : decode cL_isVan 307 = .ok (.aload 5, 2) := by decide +kernel
theorem dL_isVan_309 : decode cL_isVan 309 = .ok (.invokestatic 45, 3) := by decide +kernel
theorem dL_isVan_312 : decode cL_isVan 312 = .ok (.if_icmp .ne 36, 3) := by decide +kernel
theorem dL_isVan_315 : decode cL_isVan 315 = .ok (.aload_n 0, 1) := by decide +kernel
theorem dL_isVan_316 : decode cL_isVan 316 = .ok (.iload_n 1, 1) := by decide +kernel
theorem dL_isVan_317 : decode cL_isVan 317 = .ok (.bipush 7, 2) := by decide +kernel
theorem dL_isVan_319 : decode cL_isVan 319 = .ok (.invokevirtual 52, 3) := by decide +kernel
theorem dL_isVan_322 : decode cL_isVan 322 = .ok (.iload 10, 2) := by decide +kernel
theorem dL_isVan_324 : decode cL_isVan 324 = .ok (.ifCond .ne 7, 3) := by decide +kernel
theorem dL_isVan_327 : decode cL_isVan 327 = .ok (.iconst 0, 1) := by decide +kernel
theorem dL_isVan_328 : decode cL_isVan 328 = .ok (.goto 13, 3) := by decide +kernel
theorem dL_isVan_331 : decode cL_isVan 331 = .ok (.aload_n 3, 1) := by decide +kernel
theorem dL_isVan_332 : decode cL_isVan 332 = .ok (.iconst 3, 1) := by decide +kernel
theorem dL_isVan_333 : decode cL_isVan 333 = .ok (.iaload, 1) := by decide +kernel
theorem dL_isVan_334 : decode cL_isVan 334 = .ok (.aload_n 3, 1) := by decide +kernel
theorem dL_isVan_335 : decode cL_isVan 335 = .ok (.iconst 4, 1) := by decide +kernel
theorem dL_isVan_336 : decode cL_isVan 336 = .ok (.iaload, 1) := by decide +kernel
theorem dL_isVan_337 : decode cL_isVan 337 = .ok (.iload 10, 2) := by decide +kernel
theorem dL_isVan_339 : decode cL_isVan 339 = .ok (.imul, 1) := by decide +kernel
theorem dL_isVan_340 : decode cL_isVan 340 = .ok (.iadd, 1) := by decide +kernel
theorem dL_isVan_341 : decode cL_isVan 341 = .ok (.if_icmp .ne 7, 3) := by decide +kernel
theorem dL_isVan_344 : decode cL_isVan 344 = .ok (.iconst 1, 1) := by decide +kernel
theorem dL_isVan_345 : decode cL_isVan 345 = .ok (.goto 4, 3) := by decide +kernel
theorem dL_isVan_348 : decode cL_isVan 348 = .ok (.iconst 0, 1) := by decide +kernel
theorem dL_isVan_349 : decode cL_isVan 349 = .ok (.istore 12, 2) := by decide +kernel
theorem dL_isVan_351 : decode cL_isVan 351 = .ok (.iload_n 2, 1) := by decide +kernel
theorem dL_isVan_352 : decode cL_isVan 352 = .ok (.iload 10, 2) := by decide +kernel
theorem dL_isVan_354 : decode cL_isVan 354 = .ok (.if_icmp .lt 26, 3) := by decide +kernel
theorem dL_isVan_357 : decode cL_isVan 357 = .ok (.iload 12, 2) := by decide +kernel
theorem dL_isVan_359 : decode cL_isVan 359 = .ok (.ifCond .eq 19, 3) := by decide +kernel
theorem dL_isVan_362 : decode cL_isVan 362 = .ok (.aload_n 0, 1) := by decide +kernel
theorem dL_isVan_363 : decode cL_isVan 363 = .ok (.iload_n 1, 1) := by decide +kernel
theorem dL_isVan_364 : decode cL_isVan 364 = .ok (.iload_n 2, 1) := by decide +kernel
theorem dL_isVan_365 : decode cL_isVan 365 = .ok (.iconst 0, 1) := by decide +kernel
theorem dL_isVan_366 : decode cL_isVan 366 = .ok (.invokevirtual 55, 3) := by decide +kernel
theorem dL_isVan_369 : decode cL_isVan 369 = .ok (.bipush (-101), 2) := by decide +kernel
theorem dL_isVan_371 : decode cL_isVan 371 = .ok (.if_icmp .ne 7, 3) := by decide +kernel
theorem dL_isVan_374 : decode cL_isVan 374 = .ok (.iconst 1, 1) := by decide +kernel
theorem dL_isVan_375 : decode cL_isVan 375 = .ok (.goto 4, 3) := by decide +kernel
theorem dL_isVan_378 : decode cL_isVan 378 = .ok (.iconst 0, 1) := by decide +kernel
theorem dL_isVan_379 : decode cL_isVan 379 = .ok (.ireturn, 1) := by decide +kernel
theorem dL_isVan_380 : decode cL_isVan 380 = .ok (.iload 12, 2) := by decide +kernel
theorem dL_isVan_382 : decode cL_isVan 382 = .ok (.ifCond .eq 82, 3) := by decide +kernel
theorem dL_isVan_385 : decode cL_isVan 385 = .ok (.aload_n 0, 1) := by decide +kernel
theorem dL_isVan_386 : decode cL_isVan 386 = .ok (.iload_n 1, 1) := by decide +kernel
theorem dL_isVan_387 : decode cL_isVan 387 = .ok (.iload_n 2, 1) := by decide +kernel
theorem dL_isVan_388 : decode cL_isVan 388 = .ok (.iconst 0, 1) := by decide +kernel
theorem dL_isVan_389 : decode cL_isVan 389 = .ok (.invokevirtual 55, 3) := by decide +kernel
theorem dL_isVan_392 : decode cL_isVan 392 = .ok (.iload 9, 2) := by decide +kernel
theorem dL_isVan_394 : decode cL_isVan 394 = .ok (.bipush 100, 2) := by decide +kernel
theorem dL_isVan_396 : decode cL_isVan 396 = .ok (.idiv, 1) := by decide +kernel
theorem dL_isVan_397 : decode cL_isVan 397 = .ok (.if_icmp .ne 67, 3) := by decide +kernel
theorem dL_isVan_400 : decode cL_isVan 400 = .ok (.aload_n 0, 1) := by decide +kernel
theorem dL_isVan_401 : decode cL_isVan 401 = .ok (.iload_n 1, 1) := by decide +kernel
theorem dL_isVan_402 : decode cL_isVan 402 = .ok (.iload_n 2, 1) := by decide +kernel
theorem dL_isVan_403 : decode cL_isVan 403 = .ok (.iconst 1, 1) := by decide +kernel
theorem dL_isVan_404 : decode cL_isVan 404 = .ok (.invokevirtual 55, 3) := by decide +kernel
theorem dL_isVan_407 : decode cL_isVan 407 = .ok (.iload 9, 2) := by decide +kernel
theorem dL_isVan_409 : decode cL_isVan 409 = .ok (.bipush 100, 2) := by decide +kernel
theorem dL_isVan_411 : decode cL_isVan 411 = .ok (.irem, 1) := by decide +kernel
theorem dL_isVan_412 : decode cL_isVan 412 = .ok (.if_icmp .ne 52, 3) := by decide +kernel
theorem dL_isVan_415 : decode cL_isVan 415 = .ok (.aload_n 0, 1) := by decide +kernel
theorem dL_isVan_416 : decode cL_isVan 416 = .ok (.iload_n 1, 1) := by decide +kernel
theorem dL_isVan_417 : decode cL_isVan 417 = .ok (.iload_n 2, 1) := by decide +kernel
theorem dL_isVan_418 : decode cL_isVan 418 = .ok (.iconst 2, 1) := by decide +kernel
theorem dL_isVan_419 : decode cL_isVan 419 = .ok (.invokevirtual 55, 3) := by decide +kernel
theorem dL_isVan_422 : decode cL_isVan 422 = .ok (.iload_n 1, 1) := by decide +kernel
theorem dL_isVan_423 : decode cL_isVan 423 = .ok (.iload 9, 2) := by decide +kernel
theorem dL_isVan_425 : decode cL_isVan 425 = .ok (.aload_n 3, 1) := by decide +kernel
theorem dL_isVan_426 : decode cL_isVan 426 = .ok (.aload 4, 2) := by decide +kernel
theorem dL_isVan_428 : decode cL_isVan 428 = .ok (.aload 5, 2) := by decide +kernel
theorem dL_isVan_430 : decode cL_isVan 430 = .ok (.invokestatic 45, 3) := by decide +kernel
theorem dL_isVan_433 : decode cL_isVan 433 = .ok (.if_icmp .ne 31, 3) := by decide +kernel
theorem dL_isVan_436 : decode cL_isVan 436 = .ok (.aload_n 0, 1) := by decide +kernel
theorem dL_isVan_437 : decode cL_isVan 437 = .ok (.iload_n 1, 1) := by decide +kernel
theorem dL_isVan_438 : decode cL_isVan 438 = .ok (.iload_n 2, 1) := by decide +kernel
theorem dL_isVan_439 : decode cL_isVan 439 = .ok (.iconst 3, 1) := by decide +kernel
theorem dL_isVan_440 : decode cL_isVan 440 = .ok (.invokevirtual 55, 3) := by decide +kernel
theorem dL_isVan_443 : decode cL_isVan 443 = .ok (.iload 11, 2) := by decide +kernel
theorem dL_isVan_445 : decode cL_isVan 445 = .ok (.if_icmp .ne 19, 3) := by decide +kernel
theorem dL_isVan_448 : decode cL_isVan 448 = .ok (.aload_n 0, 1) := by decide +kernel
theorem dL_isVan_449 : decode cL_isVan 449 = .ok (.iload_n 1, 1) := by decide +kernel
theorem dL_isVan_450 : decode cL_isVan 450 = .ok (.iload_n 2, 1) := by decide +kernel
theorem dL_isVan_451 : decode cL_isVan 451 = .ok (.iconst 4, 1) := by decide +kernel
theorem dL_isVan_452 : decode cL_isVan 452 = .ok (.invokevirtual 55, 3) := by decide +kernel
theorem dL_isVan_455 : decode cL_isVan 455 = .ok (.bipush (-102), 2) := by decide +kernel
theorem dL_isVan_457 : decode cL_isVan 457 = .ok (.if_icmp .ne 7, 3) := by decide +kernel
theorem dL_isVan_460 : decode cL_isVan 460 = .ok (.iconst 1, 1) := by decide +kernel
theorem dL_isVan_461 : decode cL_isVan 461 = .ok (.goto 4, 3) := by decide +kernel
theorem dL_isVan_464 : decode cL_isVan 464 = .ok (.iconst 0, 1) := by decide +kernel
theorem dL_isVan_465 : decode cL_isVan 465 = .ok (.ireturn, 1) := by decide +kernel
theorem dL_areCounts_0 : decode cL_areCounts 0 = .ok (.iconst 0, 1) := by decide +kernel
theorem dL_areCounts_1 : decode cL_areCounts 1 = .ok (.istore 6, 2) := by decide +kernel
theorem dL_areCounts_3 : decode cL_areCounts 3 = .ok (.iconst 0, 1) := by decide +kernel
theorem dL_areCounts_4 : decode cL_areCounts 4 = .ok (.istore 7, 2) := by decide +kernel
theorem dL_areCounts_6 : decode cL_areCounts 6 = .ok (.iconst 0, 1) := by decide +kernel
theorem dL_areCounts_7 : decode cL_areCounts 7 = .ok (.istore 8, 2) := by decide +kernel
theorem dL_areCounts_9 : decode cL_areCounts 9 = .ok (.iconst 0, 1) := by decide +kernel
theorem dL_areCounts_10 : decode cL_areCounts 10 = .ok (.istore 9, 2) := by decide +kernel
theorem dL_areCounts_12 : decode cL_areCounts 12 = .ok (.iconst 0, 1) := by decide +kernel
theorem dL_areCounts_13 : decode cL_areCounts 13 = .ok (.istore 10, 2) := by decide +kernel
theorem dL_areCounts_15 : decode cL_areCounts 15 = .ok (.iconst 0, 1) := by decide +kernel
theorem dL_areCounts_16 : decode cL_areCounts 16 = .ok (.istore 11, 2) := by decide +kernel
theorem dL_areCounts_18 : decode cL_areCounts 18 = .ok (.iconst 0, 1) := by decide +kernel
theorem dL_areCounts_19 : decode cL_areCounts 19 = .ok (.istore 12, 2) := by decide +kernel
theorem dL_areCounts_21 : decode cL_areCounts 21 = .ok (.bipush (-106), 2) := by decide +kernel
theorem dL_areCounts_23 : decode cL_areCounts 23 = .ok (.istore 13, 2) := by decide +kernel
theorem dL_areCounts_25 : decode cL_areCounts 25 = .ok (.iload_n 1, 1) := by decide +kernel
theorem dL_areCounts_26 : decode cL_areCounts 26 = .ok (.sipush 1800, 3) := by decide +kernel
theorem dL_areCounts_29 : decode cL_areCounts 29 = .ok (.invokestatic 59, 3) := by decide +kernel
theorem dL_areCounts_32 : decode cL_areCounts 32 = .ok (.istore 14, 2) := by decide +kernel
theorem dL_areCounts_34 : decode cL_areCounts 34 = .ok (.iconst 0, 1) := by decide +kernel
theorem dL_areCounts_35 : decode cL_areCounts 35 = .ok (.istore 15, 2) := by decide +kernel
theorem dL_areCounts_37 : decode cL_areCounts 37 = .ok (.iload_n 1, 1) := by decide +kernel
theorem dL_areCounts_38 : decode cL_areCounts 38 = .ok (.bipush 11, 2) := by decide +kernel
theorem dL_areCounts_40 : decode cL_areCounts 40 = .ok (.ishr, 1) := by decide +kernel
theorem dL_areCounts_41 : decode cL_areCounts 41 = .ok (.bipush 6, 2) := by decide +kernel
theorem dL_areCounts_43 : decode cL_areCounts 43 = .ok (.invokestatic 59, 3) := by decide +kernel
theorem dL_areCounts_46 : decode cL_areCounts 46 = .ok (.istore 16, 2) := by decide +kernel
theorem dL_areCounts_48 : decode cL_areCounts 48 = .ok (.iconst 0, 1) := by decide +kernel
theorem dL_areCounts_49 : decode cL_areCounts 49 = .ok (.istore 17, 2) := by decide +kernel
theorem dL_areCounts_51 : decode cL_areCounts 51 = .ok (.iconst 0, 1) := by decide +kernel
theorem dL_areCounts_52 : decode cL_areCounts 52 = .ok (.istore 18, 2) := by decide +kernel
theorem dL_areCounts_54 : decode cL_areCounts 54 = .ok (.iconst 0, 1) := by decide +kernel
theorem dL_areCounts_55 : decode cL_areCounts 55 = .ok (.istore 19, 2) := by decide +kernel
theorem dL_areCounts_57 : decode cL_areCounts 57 = .ok (.iload 19, 2) := by decide +kernel
theorem dL_areCounts_59 : decode cL_areCounts 59 = .ok (.aload_n 2, 1) := by decide +kernel
theorem dL_areCounts_60 : decode cL_areCounts 60 = .ok (.iconst 5, 1) := by decide +kernel
theorem dL_areCounts_61 : decode cL_areCounts 61 = .ok (.iaload, 1) := by decide +kernel
theorem dL_areCounts_62 : decode cL_areCounts 62 = .ok (.if_icmp .ge 312, 3) := by decide +kernel
theorem dL_areCounts_65 : decode cL_areCounts 65 = .ok (.aload_n 3, 1) := by decide +kernel
theorem dL_areCounts_66 : decode cL_areCounts 66 = .ok (.iload 19, 2) := by decide +kernel
theorem dL_areCounts_68 : decode cL_areCounts 68 = .ok (.iaload, 1) := by decide +kernel
theorem dL_areCounts_69 : decode cL_areCounts 69 = .ok (.invokestatic 20, 3) := by decide +kernel
theorem dL_areCounts_72 : decode cL_areCounts 72 = .ok (.istore 20, 2) := by decide +kernel
theorem dL_areCounts_74 : decode cL_areCounts 74 = .ok (.iload 14, 2) := by decide +kernel
theorem dL_areCounts_76 : decode cL_areCounts 76 = .ok (.aload_n 3, 1) := by decide +kernel
theorem dL_areCounts_77 : decode cL_areCounts 77 = .ok (.iload 19, 2) := by decide +kernel
theorem dL_areCounts_79 : decode cL_areCounts 79 = .ok (.iaload, 1) := by decide +kernel
theorem dL_areCounts_80 : decode cL_areCounts 80 = .ok (.aload_n 2, 1) := by decide +kernel
theorem dL_areCounts_81 : decode cL_areCounts 81 = .ok (.invokestatic 16, 3) := by decide +kernel
theorem dL_areCounts_84 : decode cL_areCounts 84 = .ok (.isub, 1) := by decide +kernel
theorem dL_areCounts_85 : decode cL_areCounts 85 = .ok (.istore 21, 2) := by decide +kernel
theorem dL_areCounts_87 : decode cL_areCounts 87 = .ok (.iload 6, 2) := by decide +kernel
theorem dL_areCounts_89 : decode cL_areCounts 89 = .ok (.iload 20, 2) := by decide +kernel
theorem dL_areCounts_91 : decode cL_areCounts 91 = .ok (.iadd, 1) := by decide +kernel
theorem dL_areCounts_92 : decode cL_areCounts 92 = .ok (.istore 6, 2) := by decide +kernel
theorem dL_areCounts_94 : decode cL_areCounts 94 = .ok (.iload 7, 2) := by decide +kernel
theorem dL_areCounts_96 : decode cL_areCounts 96 = .ok (.aload 4, 2) := by decide +kernel
theorem dL_areCounts_98 : decode cL_areCounts 98 = .ok (.iload 19, 2) := by decide +kernel
theorem dL_areCounts_100 : decode cL_areCounts 100 = .ok (.iaload, 1) := by decide +kernel
theorem dL_areCounts_101 : decode cL_areCounts 101 = .ok (.ifCond .ge 7, 3) := by decide +kernel
theorem dL_areCounts_104 : decode cL_areCounts 104 = .ok (.iconst 1, 1) := by decide +kernel
theorem dL_areCounts_105 : decode cL_areCounts 105 = .ok (.goto 4, 3) := by decide +kernel
theorem dL_areCounts_108 : decode cL_areCounts 108 = .ok (.iconst 0, 1) := by decide +kernel
theorem dL_areCounts_109 : decode cL_areCounts 109 = .ok (.iadd, 1) := by decide +kernel
theorem dL_areCounts_110 : decode cL_areCounts 110 = .ok (.istore 7, 2) := by decide +kernel
theorem dL_areCounts_112 : decode cL_areCounts 112 = .ok (.iload 8, 2) := by decide +kernel
theorem dL_areCounts_114 : decode cL_areCounts 114 = .ok (.aload 4, 2) := by decide +kernel
theorem dL_areCounts_116 : decode cL_areCounts 116 = .ok (.iload 19, 2) := by decide +kernel
theorem dL_areCounts_118 : decode cL_areCounts 118 = .ok (.iaload, 1) := by decide +kernel
theorem dL_areCounts_119 : decode cL_areCounts 119 = .ok (.ifCond .ge 8, 3) := by decide +kernel
theorem dL_areCounts_122 : decode cL_areCounts 122 = .ok (.iload 20, 2) := by decide +kernel
theorem dL_areCounts_124 : decode cL_areCounts 124 = .ok (.goto 4, 3) := by decide +kernel
theorem dL_areCounts_127 : decode cL_areCounts 127 = .ok (.iconst 0, 1) := by decide +kernel
theorem dL_areCounts_128 : decode cL_areCounts 128 = .ok (.iadd, 1) := by decide +kernel
theorem dL_areCounts_129 : decode cL_areCounts 129 = .ok (.istore 8, 2) := by decide +kernel
theorem dL_areCounts_131 : decode cL_areCounts 131 = .ok (.iload 9, 2) := by decide +kernel
theorem dL_areCounts_133 : decode cL_areCounts 133 = .ok (.aload 4, 2) := by decide +kernel
theorem dL_areCounts_135 : decode cL_areCounts 135 = .ok (.iload 19, 2) := by decide +kernel
theorem dL_areCounts_137 : decode cL_areCounts 137 = .ok (.iaload, 1) := by decide +kernel
theorem dL_areCounts_138 : decode cL_areCounts 138 = .ok (.ifCond .ge 7, 3) := by decide +kernel
theorem dL_areCounts_141 : decode cL_areCounts 141 = .ok (.iconst 0, 1) := by decide +kernel
theorem dL_areCounts_142 : decode cL_areCounts 142 = .ok (.goto 25, 3) := by decide +kernel
theorem dL_areCounts_145 : decode cL_areCounts 145 = .ok (.iload 20, 2) := by decide +kernel
theorem dL_areCounts_147 : decode cL_areCounts 147 = .ok (.aload_n 2, 1) := by decide +kernel
theorem dL_areCounts_148 : decode cL_areCounts 148 = .ok (.bipush 18, 2) := by decide +kernel
theorem dL_areCounts_150 : decode cL_areCounts 150 = .ok (.aload 4, 2) := by decide +kernel
theorem dL_areCounts_152 : decode cL_areCounts 152 = .ok (.iload 19, 2) := by decide +kernel
theorem dL_areCounts_154 : decode cL_areCounts 154 = .ok (.iaload, 1) := by decide +kernel
theorem dL_areCounts_155 : decode cL_areCounts 155 = .ok (.iadd, 1) := by decide +kernel
theorem dL_areCounts_156 : decode cL_areCounts 156 = .ok (.iaload, 1) := by decide +kernel
theorem dL_areCounts_157 : decode cL_areCounts 157 = .ok (.aload_n 3, 1) := by decide +kernel
theorem dL_areCounts_158 : decode cL_areCounts 158 = .ok (.iload 19, 2) := by decide +kernel
theorem dL_areCounts_160 : decode cL_areCounts 160 = .ok (.iaload, 1) := by decide +kernel
theorem dL_areCounts_161 : decode cL_areCounts 161 = .ok (.aload_n 2, 1) := by decide +kernel
theorem dL_areCounts_162 : decode cL_areCounts 162 = .ok (.invokestatic 16, 3) := by decide +kernel
theorem dL_areCounts_165 : decode cL_areCounts 165 = .ok (.isub, 1) := by decide +kernel
theorem dL_areCounts_166 : decode cL_areCounts 166 = .ok (.imul, 1) := by decide +kernel
theorem dL_areCounts_167 : decode cL_areCounts 167 = .ok (.iadd, 1) := by decide +kernel
theorem dL_areCounts_168 : decode cL_areCounts 168 = .ok (.istore 9, 2) := by decide +kernel
theorem dL_areCounts_170 : decode cL_areCounts 170 = .ok (.iload 10, 2) := by decide +kernel
theorem dL_areCounts_172 : decode cL_areCounts 172 = .ok (.aload 4, 2) := by decide +kernel
theorem dL_areCounts_174 : decode cL_areCounts 174 = .ok (.iload 19, 2) := by decide +kernel
theorem dL_areCounts_176 : decode cL_areCounts 176 = .ok (.iaload, 1) := by decide +kernel
theorem dL_areCounts_177 : decode cL_areCounts 177 = .ok (.ifCond .ge 7, 3) := by decide +kernel
theorem dL_areCounts_180 : decode cL_areCounts 180 = .ok (.iconst 0, 1) := by decide +kernel
theorem dL_areCounts_181 : decode cL_areCounts 181 = .ok (.goto 30, 3) := by decide +kernel
theorem dL_areCounts_184 : decode cL_areCounts 184 = .ok (.iload 19, 2) := by decide +kernel
theorem dL_areCounts_186 : decode cL_areCounts 186 = .ok (.aload_n 2, 1) := by decide +kernel
theorem dL_areCounts_187 : decode cL_areCounts 187 = .ok (.iconst 3, 1) := by decide +kernel
theorem dL_areCounts_188 : decode cL_areCounts 188 = .ok (.iaload, 1) := by decide +kernel
theorem dL_areCounts_189 : decode cL_areCounts 189 = .ok (.iconst 0, 1) := by decide +kernel
theorem dL_areCounts_190 : decode cL_areCounts 190 = .ok (.aload_n 2, 1) := by decide +kernel
theorem dL_areCounts_191 : decode cL_areCounts 191 = .ok (.aload_n 3, 1) := by decide +kernel
theorem dL_areCounts_192 : decode cL_areCounts 192 = .ok (.aload 4, 2) := by decide +kernel
theorem dL_areCounts_194 : decode cL_areCounts 194 = .ok (.invokestatic 48, 3) := by decide +kernel
theorem dL_areCounts_197 : decode cL_areCounts 197 = .ok (.iload 19, 2) := by decide +kernel
theorem dL_areCounts_199 : decode cL_areCounts 199 = .ok (.aload_n 2, 1) := by decide +kernel
theorem dL_areCounts_200 : decode cL_areCounts 200 = .ok (.iconst 4, 1) := by decide +kernel
theorem dL_areCounts_201 : decode cL_areCounts 201 = .ok (.iaload, 1) := by decide +kernel
theorem dL_areCounts_202 : decode cL_areCounts 202 = .ok (.iconst 1, 1) := by decide +kernel
theorem dL_areCounts_203 : decode cL_areCounts 203 = .ok (.aload_n 2, 1) := by decide +kernel
theorem dL_areCounts_204 : decode cL_areCounts 204 = .ok (.aload_n 3, 1) := by decide +kernel
theorem dL_areCounts_205 : decode cL_areCounts 205 = .ok (.aload 4, 2) := by decide +kernel
theorem dL_areCounts_207 : decode cL_areCounts 207 = .ok (.invokestatic 48, 3) := by decide +kernel
theorem dL_areCounts_210 : decode cL_areCounts 210 = .ok (.iadd, 1) := by decide +kernel
theorem dL_areCounts_211 : decode cL_areCounts 211 = .ok (.iadd, 1) := by decide +kernel
theorem dL_areCounts_212 : decode cL_areCounts 212 = .ok (.istore 10, 2) := by decide +kernel
theorem dL_areCounts_214 : decode cL_areCounts 214 = .ok (.iload 15, 2) := by decide +kernel
theorem dL_areCounts_216 : decode cL_areCounts 216 = .ok (.iload 21, 2) := by decide +kernel
theorem dL_areCounts_218 : decode cL_areCounts 218 = .ok (.ifCond .lt 42, 3) := by decide +kernel
theorem dL_areCounts_221 : decode cL_areCounts 221 = .ok (.aload 4, 2) := by decide +kernel
theorem dL_areCounts_223 : decode cL_areCounts 223 = .ok (.iload 19, 2) := by decide +kernel
theorem dL_areCounts_225 : decode cL_areCounts 225 = .ok (.iaload, 1) := by decide +kernel
theorem dL_areCounts_226 : decode cL_areCounts 226 = .ok (.ifCond .ge 14, 3) := by decide +kernel
theorem dL_areCounts_229 : decode cL_areCounts 229 = .ok (.iload 21, 2) := by decide +kernel
theorem dL_areCounts_231 : decode cL_areCounts 231 = .ok (.aload_n 2, 1) := by decide +kernel
theorem dL_areCounts_232 : decode cL_areCounts 232 = .ok (.iconst 1, 1) := by decide +kernel
theorem dL_areCounts_233 : decode cL_areCounts 233 = .ok (.iaload, 1) := by decide +kernel
theorem dL_areCounts_234 : decode cL_areCounts 234 = .ok (.if_icmp .gt 26, 3) := by decide +kernel
theorem dL_areCounts_237 : decode cL_areCounts 237 = .ok (.goto 18, 3) := by decide +kernel
theorem dL_areCounts_240 : decode cL_areCounts 240 = .ok (.aload_n 2, 1) := by decide +kernel
theorem dL_areCounts_241 : decode cL_areCounts 241 = .ok (.bipush 18, 2) := by decide +kernel
theorem dL_areCounts_243 : decode cL_areCounts 243 = .ok (.aload 4, 2) := by decide +kernel
theorem dL_areCounts_245 : decode cL_areCounts 245 = .ok (.iload 19, 2) := by decide +kernel
theorem dL_areCounts_247 : decode cL_areCounts 247 = .ok (.iaload, 1) := by decide +kernel
