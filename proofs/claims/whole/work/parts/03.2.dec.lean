theorem dX11_isLine_109 : decode cX11_isLine 109 = .ok (.goto 68, 3) := by decide +kernel
theorem dX11_isLine_112 : decode cX11_isLine 112 = .ok (.aload_n 0, 1) := by decide +kernel
theorem dX11_isLine_113 : decode cX11_isLine 113 = .ok (.getfield 77, 3) := by decide +kernel
theorem dX11_isLine_116 : decode cX11_isLine 116 = .ok (.ldc2_w 124, 3) := by decide +kernel
theorem dX11_isLine_119 : decode cX11_isLine 119 = .ok (.lcmp, 1) := by decide +kernel
theorem dX11_isLine_120 : decode cX11_isLine 120 = .ok (.ifCond .ne 8, 3) := by decide +kernel
theorem dX11_isLine_123 : decode cX11_isLine 123 = .ok (.bipush 7, 2) := by decide +kernel
theorem dX11_isLine_125 : decode cX11_isLine 125 = .ok (.goto 52, 3) := by decide +kernel
theorem dX11_isLine_128 : decode cX11_isLine 128 = .ok (.aload_n 0, 1) := by decide +kernel
theorem dX11_isLine_129 : decode cX11_isLine 129 = .ok (.getfield 77, 3) := by decide +kernel
theorem dX11_isLine_132 : decode cX11_isLine 132 = .ok (.ldc2_w 126, 3) := by decide +kernel
theorem dX11_isLine_135 : decode cX11_isLine 135 = .ok (.lcmp, 1) := by decide +kernel
theorem dX11_isLine_136 : decode cX11_isLine 136 = .ok (.ifCond .ne 8, 3) := by decide +kernel
theorem dX11_isLine_139 : decode cX11_isLine 139 = .ok (.bipush 8, 2) := by decide +kernel
theorem dX11_isLine_141 : decode cX11_isLine 141 = .ok (.goto 36, 3) := by decide +kernel
theorem dX11_isLine_144 : decode cX11_isLine 144 = .ok (.aload_n 0, 1) := by decide +kernel
theorem dX11_isLine_145 : decode cX11_isLine 145 = .ok (.getfield 77, 3) := by decide +kernel
theorem dX11_isLine_148 : decode cX11_isLine 148 = .ok (.ldc2_w 128, 3) := by decide +kernel
theorem dX11_isLine_151 : decode cX11_isLine 151 = .ok (.lcmp, 1) := by decide +kernel
theorem dX11_isLine_152 : decode cX11_isLine 152 = .ok (.ifCond .ne 8, 3) := by decide +kernel
theorem dX11_isLine_155 : decode cX11_isLine 155 = .ok (.bipush 9, 2) := by decide +kernel
theorem dX11_isLine_157 : decode cX11_isLine 157 = .ok (.goto 20, 3) := by decide +kernel
theorem dX11_isLine_160 : decode cX11_isLine 160 = .ok (.aload_n 0, 1) := by decide +kernel
theorem dX11_isLine_161 : decode cX11_isLine 161 = .ok (.getfield 77, 3) := by decide +kernel
theorem dX11_isLine_164 : decode cX11_isLine 164 = .ok (.ldc2_w 130, 3) := by decide +kernel
theorem dX11_isLine_167 : decode cX11_isLine 167 = .ok (.lcmp, 1) := by decide +kernel
theorem dX11_isLine_168 : decode cX11_isLine 168 = .ok (.ifCond .ne 8, 3) := by decide +kernel
theorem dX11_isLine_171 : decode cX11_isLine 171 = .ok (.bipush 10, 2) := by decide +kernel
theorem dX11_isLine_173 : decode cX11_isLine 173 = .ok (.goto 4, 3) := by decide +kernel
theorem dX11_isLine_176 : decode cX11_isLine 176 = .ok (.iconst (-1), 1) := by decide +kernel
theorem dX11_isLine_177 : decode cX11_isLine 177 = .ok (.istore_n 3, 1) := by decide +kernel
theorem dX11_isLine_178 : decode cX11_isLine 178 = .ok (.aload_n 0, 1) := by decide +kernel
theorem dX11_isLine_179 : decode cX11_isLine 179 = .ok (.getfield 22, 3) := by decide +kernel
theorem dX11_isLine_182 : decode cX11_isLine 182 = .ok (.iload_n 1, 1) := by decide +kernel
theorem dX11_isLine_183 : decode cX11_isLine 183 = .ok (.iload_n 2, 1) := by decide +kernel
theorem dX11_isLine_184 : decode cX11_isLine 184 = .ok (.iconst (-1), 1) := by decide +kernel
theorem dX11_isLine_185 : decode cX11_isLine 185 = .ok (.if_icmp .ne 7, 3) := by decide +kernel
theorem dX11_isLine_188 : decode cX11_isLine 188 = .ok (.iload_n 3, 1) := by decide +kernel
theorem dX11_isLine_189 : decode cX11_isLine 189 = .ok (.goto 4, 3) := by decide +kernel
theorem dX11_isLine_192 : decode cX11_isLine 192 = .ok (.iload_n 2, 1) := by decide +kernel
theorem dX11_isLine_193 : decode cX11_isLine 193 = .ok (.iastore, 1) := by decide +kernel
theorem dX11_isLine_194 : decode cX11_isLine 194 = .ok (.aload_n 0, 1) := by decide +kernel
theorem dX11_isLine_195 : decode cX11_isLine 195 = .ok (.getfield 22, 3) := by decide +kernel
theorem dX11_isLine_198 : decode cX11_isLine 198 = .ok (.iload_n 1, 1) := by decide +kernel
theorem dX11_isLine_199 : decode cX11_isLine 199 = .ok (.iaload, 1) := by decide +kernel
theorem dX11_isLine_200 : decode cX11_isLine 200 = .ok (.tableswitch 141 0 10 #[60, 60, 60, 60, 66, 66, 66, 72, 84, 90, 126], 60) := by decide +kernel
theorem dX11_isLine_260 : decode cX11_isLine 260 = .ok (.aload_n 0, 1) := by decide +kernel
theorem dX11_isLine_261 : decode cX11_isLine 261 = .ok (.iload_n 1, 1) := by decide +kernel
theorem dX11_isLine_262 : decode cX11_isLine 262 = .ok (.invokevirtual 132, 3) := by decide +kernel
theorem dX11_isLine_265 : decode cX11_isLine 265 = .ok (.ireturn, 1) := by decide +kernel
theorem dX11_isLine_266 : decode cX11_isLine 266 = .ok (.aload_n 0, 1) := by decide +kernel
theorem dX11_isLine_267 : decode cX11_isLine 267 = .ok (.iload_n 1, 1) := by decide +kernel
theorem dX11_isLine_268 : decode cX11_isLine 268 = .ok (.invokevirtual 136, 3) := by decide +kernel
theorem dX11_isLine_271 : decode cX11_isLine 271 = .ok (.ireturn, 1) := by decide +kernel
theorem dX11_isLine_272 : decode cX11_isLine 272 = .ok (.aload_n 0, 1) := by decide +kernel
theorem dX11_isLine_273 : decode cX11_isLine 273 = .ok (.iconst 0, 1) := by decide +kernel
theorem dX11_isLine_274 : decode cX11_isLine 274 = .ok (.putfield 101, 3) := by decide +kernel
theorem dX11_isLine_277 : decode cX11_isLine 277 = .ok (.aload_n 0, 1) := by decide +kernel
theorem dX11_isLine_278 : decode cX11_isLine 278 = .ok (.iconst 0, 1) := by decide +kernel
theorem dX11_isLine_279 : decode cX11_isLine 279 = .ok (.putfield 107, 3) := by decide +kernel
theorem dX11_isLine_282 : decode cX11_isLine 282 = .ok (.iconst 1, 1) := by decide +kernel
theorem dX11_isLine_283 : decode cX11_isLine 283 = .ok (.ireturn, 1) := by decide +kernel
theorem dX11_isLine_284 : decode cX11_isLine 284 = .ok (.aload_n 0, 1) := by decide +kernel
theorem dX11_isLine_285 : decode cX11_isLine 285 = .ok (.iload_n 1, 1) := by decide +kernel
theorem dX11_isLine_286 : decode cX11_isLine 286 = .ok (.invokevirtual 139, 3) := by decide +kernel
theorem dX11_isLine_289 : decode cX11_isLine 289 = .ok (.ireturn, 1) := by decide +kernel
theorem dX11_isLine_290 : decode cX11_isLine 290 = .ok (.aload_n 0, 1) := by decide +kernel
theorem dX11_isLine_291 : decode cX11_isLine 291 = .ok (.iload_n 1, 1) := by decide +kernel
theorem dX11_isLine_292 : decode cX11_isLine 292 = .ok (.iconst 1, 1) := by decide +kernel
theorem dX11_isLine_293 : decode cX11_isLine 293 = .ok (.iadd, 1) := by decide +kernel
theorem dX11_isLine_294 : decode cX11_isLine 294 = .ok (.iconst 0, 1) := by decide +kernel
theorem dX11_isLine_295 : decode cX11_isLine 295 = .ok (.aload_n 0, 1) := by decide +kernel
theorem dX11_isLine_296 : decode cX11_isLine 296 = .ok (.getfield 101, 3) := by decide +kernel
theorem dX11_isLine_299 : decode cX11_isLine 299 = .ok (.iconst 1, 1) := by decide +kernel
theorem dX11_isLine_300 : decode cX11_isLine 300 = .ok (.isub, 1) := by decide +kernel
theorem dX11_isLine_301 : decode cX11_isLine 301 = .ok (.invokevirtual 104, 3) := by decide +kernel
theorem dX11_isLine_304 : decode cX11_isLine 304 = .ok (.ifCond .eq 20, 3) := by decide +kernel
theorem dX11_isLine_307 : decode cX11_isLine 307 = .ok (.aload_n 0, 1) := by decide +kernel
theorem dX11_isLine_308 : decode cX11_isLine 308 = .ok (.iload_n 1, 1) := by decide +kernel
theorem dX11_isLine_309 : decode cX11_isLine 309 = .ok (.iconst 2, 1) := by decide +kernel
theorem dX11_isLine_310 : decode cX11_isLine 310 = .ok (.iadd, 1) := by decide +kernel
theorem dX11_isLine_311 : decode cX11_isLine 311 = .ok (.iconst 0, 1) := by decide +kernel
theorem dX11_isLine_312 : decode cX11_isLine 312 = .ok (.bipush 9, 2) := by decide +kernel
theorem dX11_isLine_314 : decode cX11_isLine 314 = .ok (.invokevirtual 104, 3) := by decide +kernel
theorem dX11_isLine_317 : decode cX11_isLine 317 = .ok (.ifCond .eq 7, 3) := by decide +kernel
theorem dX11_isLine_320 : decode cX11_isLine 320 = .ok (.iconst 1, 1) := by decide +kernel
theorem dX11_isLine_321 : decode cX11_isLine 321 = .ok (.goto 4, 3) := by decide +kernel
theorem dX11_isLine_324 : decode cX11_isLine 324 = .ok (.iconst 0, 1) := by decide +kernel
theorem dX11_isLine_325 : decode cX11_isLine 325 = .ok (.ireturn, 1) := by decide +kernel
theorem dX11_isLine_326 : decode cX11_isLine 326 = .ok (.aload_n 0, 1) := by decide +kernel
theorem dX11_isLine_327 : decode cX11_isLine 327 = .ok (.iload_n 1, 1) := by decide +kernel
theorem dX11_isLine_328 : decode cX11_isLine 328 = .ok (.iconst 1, 1) := by decide +kernel
theorem dX11_isLine_329 : decode cX11_isLine 329 = .ok (.iadd, 1) := by decide +kernel
theorem dX11_isLine_330 : decode cX11_isLine 330 = .ok (.iconst 0, 1) := by decide +kernel
theorem dX11_isLine_331 : decode cX11_isLine 331 = .ok (.aload_n 0, 1) := by decide +kernel
theorem dX11_isLine_332 : decode cX11_isLine 332 = .ok (.getfield 101, 3) := by decide +kernel
theorem dX11_isLine_335 : decode cX11_isLine 335 = .ok (.iconst 1, 1) := by decide +kernel
theorem dX11_isLine_336 : decode cX11_isLine 336 = .ok (.isub, 1) := by decide +kernel
theorem dX11_isLine_337 : decode cX11_isLine 337 = .ok (.invokevirtual 104, 3) := by decide +kernel
theorem dX11_isLine_340 : decode cX11_isLine 340 = .ok (.ireturn, 1) := by decide +kernel
theorem dX11_isLine_341 : decode cX11_isLine 341 = .ok (.aload_n 0, 1) := by decide +kernel
theorem dX11_isLine_342 : decode cX11_isLine 342 = .ok (.invokevirtual 97, 3) := by decide +kernel
theorem dX11_isLine_345 : decode cX11_isLine 345 = .ok (.ireturn, 1) := by decide +kernel
theorem dX11_isRead_0 : decode cX11_isRead 0 = .ok (.aload_n 0, 1) := by decide +kernel
theorem dX11_isRead_1 : decode cX11_isRead 1 = .ok (.iconst 0, 1) := by decide +kernel
theorem dX11_isRead_2 : decode cX11_isRead 2 = .ok (.putfield 63, 3) := by decide +kernel
theorem dX11_isRead_5 : decode cX11_isRead 5 = .ok (.aload_n 0, 1) := by decide +kernel
theorem dX11_isRead_6 : decode cX11_isRead 6 = .ok (.iconst 0, 1) := by decide +kernel
theorem dX11_isRead_7 : decode cX11_isRead 7 = .ok (.putfield 142, 3) := by decide +kernel
theorem dX11_isRead_10 : decode cX11_isRead 10 = .ok (.aload_n 0, 1) := by decide +kernel
theorem dX11_isRead_11 : decode cX11_isRead 11 = .ok (.aload_n 0, 1) := by decide +kernel
theorem dX11_isRead_12 : decode cX11_isRead 12 = .ok (.getfield 47, 3) := by decide +kernel
theorem dX11_isRead_15 : decode cX11_isRead 15 = .ok (.putfield 101, 3) := by decide +kernel
theorem dX11_isRead_18 : decode cX11_isRead 18 = .ok (.aload_n 0, 1) := by decide +kernel
theorem dX11_isRead_19 : decode cX11_isRead 19 = .ok (.aload_n 0, 1) := by decide +kernel
theorem dX11_isRead_20 : decode cX11_isRead 20 = .ok (.getfield 55, 3) := by decide +kernel
theorem dX11_isRead_23 : decode cX11_isRead 23 = .ok (.putfield 107, 3) := by decide +kernel
theorem dX11_isRead_26 : decode cX11_isRead 26 = .ok (.iconst 0, 1) := by decide +kernel
theorem dX11_isRead_27 : decode cX11_isRead 27 = .ok (.istore_n 1, 1) := by decide +kernel
theorem dX11_isRead_28 : decode cX11_isRead 28 = .ok (.iload_n 1, 1) := by decide +kernel
theorem dX11_isRead_29 : decode cX11_isRead 29 = .ok (.aload_n 0, 1) := by decide +kernel
theorem dX11_isRead_30 : decode cX11_isRead 30 = .ok (.getfield 47, 3) := by decide +kernel
theorem dX11_isRead_33 : decode cX11_isRead 33 = .ok (.if_icmp .ge 24, 3) := by decide +kernel
theorem dX11_isRead_36 : decode cX11_isRead 36 = .ok (.aload_n 0, 1) := by decide +kernel
theorem dX11_isRead_37 : decode cX11_isRead 37 = .ok (.getfield 19, 3) := by decide +kernel
theorem dX11_isRead_40 : decode cX11_isRead 40 = .ok (.iload_n 1, 1) := by decide +kernel
theorem dX11_isRead_41 : decode cX11_isRead 41 = .ok (.aload_n 0, 1) := by decide +kernel
theorem dX11_isRead_42 : decode cX11_isRead 42 = .ok (.getfield 7, 3) := by decide +kernel
theorem dX11_isRead_45 : decode cX11_isRead 45 = .ok (.bipush 6, 2) := by decide +kernel
theorem dX11_isRead_47 : decode cX11_isRead 47 = .ok (.iload_n 1, 1) := by decide +kernel
theorem dX11_isRead_48 : decode cX11_isRead 48 = .ok (.imul, 1) := by decide +kernel
theorem dX11_isRead_49 : decode cX11_isRead 49 = .ok (.iaload, 1) := by decide +kernel
theorem dX11_isRead_50 : decode cX11_isRead 50 = .ok (.iastore, 1) := by decide +kernel
theorem dX11_isRead_51 : decode cX11_isRead 51 = .ok (.iinc 1 1, 3) := by decide +kernel
theorem dX11_isRead_54 : decode cX11_isRead 54 = .ok (.goto (-26), 3) := by decide +kernel
theorem dX11_isRead_57 : decode cX11_isRead 57 = .ok (.iconst 1, 1) := by decide +kernel
theorem dX11_isRead_58 : decode cX11_isRead 58 = .ok (.istore_n 1, 1) := by decide +kernel
theorem dX11_isRead_59 : decode cX11_isRead 59 = .ok (.iload_n 1, 1) := by decide +kernel
theorem dX11_isRead_60 : decode cX11_isRead 60 = .ok (.ifCond .eq 61, 3) := by decide +kernel
theorem dX11_isRead_63 : decode cX11_isRead 63 = .ok (.aload_n 0, 1) := by decide +kernel
theorem dX11_isRead_64 : decode cX11_isRead 64 = .ok (.iconst 5, 1) := by decide +kernel
theorem dX11_isRead_65 : decode cX11_isRead 65 = .ok (.aload_n 0, 1) := by decide +kernel
theorem dX11_isRead_66 : decode cX11_isRead 66 = .ok (.getfield 142, 3) := by decide +kernel
theorem dX11_isRead_69 : decode cX11_isRead 69 = .ok (.imul, 1) := by decide +kernel
theorem dX11_isRead_70 : decode cX11_isRead 70 = .ok (.invokevirtual 145, 3) := by decide +kernel
theorem dX11_isRead_73 : decode cX11_isRead 73 = .ok (.ifCond .ne 5, 3) := by decide +kernel
theorem dX11_isRead_76 : decode cX11_isRead 76 = .ok (.iconst 0, 1) := by decide +kernel
theorem dX11_isRead_77 : decode cX11_isRead 77 = .ok (.ireturn, 1) := by decide +kernel
theorem dX11_isRead_78 : decode cX11_isRead 78 = .ok (.aload_n 0, 1) := by decide +kernel
theorem dX11_isRead_79 : decode cX11_isRead 79 = .ok (.dup, 1) := by decide +kernel
theorem dX11_isRead_80 : decode cX11_isRead 80 = .ok (.getfield 142, 3) := by decide +kernel
theorem dX11_isRead_83 : decode cX11_isRead 83 = .ok (.iconst 1, 1) := by decide +kernel
theorem dX11_isRead_84 : decode cX11_isRead 84 = .ok (.iadd, 1) := by decide +kernel
theorem dX11_isRead_85 : decode cX11_isRead 85 = .ok (.putfield 142, 3) := by decide +kernel
theorem dX11_isRead_88 : decode cX11_isRead 88 = .ok (.aload_n 0, 1) := by decide +kernel
theorem dX11_isRead_89 : decode cX11_isRead 89 = .ok (.invokevirtual 94, 3) := by decide +kernel
theorem dX11_isRead_92 : decode cX11_isRead 92 = .ok (.aload_n 0, 1) := by decide +kernel
theorem dX11_isRead_93 : decode cX11_isRead 93 = .ok (.getfield 77, 3) := by decide +kernel
theorem dX11_isRead_96 : decode cX11_isRead 96 = .ok (.ldc2_w 89, 3) := by decide +kernel
theorem dX11_isRead_99 : decode cX11_isRead 99 = .ok (.lcmp, 1) := by decide +kernel
theorem dX11_isRead_100 : decode cX11_isRead 100 = .ok (.ifCond .ne 16, 3) := by decide +kernel
theorem dX11_isRead_103 : decode cX11_isRead 103 = .ok (.aload_n 0, 1) := by decide +kernel
theorem dX11_isRead_104 : decode cX11_isRead 104 = .ok (.getfield 142, 3) := by decide +kernel
theorem dX11_isRead_107 : decode cX11_isRead 107 = .ok (.bipush 12, 2) := by decide +kernel
theorem dX11_isRead_109 : decode cX11_isRead 109 = .ok (.if_icmp .ge 7, 3) := by decide +kernel
theorem dX11_isRead_112 : decode cX11_isRead 112 = .ok (.iconst 1, 1) := by decide +kernel
theorem dX11_isRead_113 : decode cX11_isRead 113 = .ok (.goto 4, 3) := by decide +kernel
theorem dX11_isRead_116 : decode cX11_isRead 116 = .ok (.iconst 0, 1) := by decide +kernel
theorem dX11_isRead_117 : decode cX11_isRead 117 = .ok (.istore_n 1, 1) := by decide +kernel
theorem dX11_isRead_118 : decode cX11_isRead 118 = .ok (.goto (-59), 3) := by decide +kernel
theorem dX11_isRead_121 : decode cX11_isRead 121 = .ok (.aload_n 0, 1) := by decide +kernel
theorem dX11_isRead_122 : decode cX11_isRead 122 = .ok (.getfield 77, 3) := by decide +kernel
theorem dX11_isRead_125 : decode cX11_isRead 125 = .ok (.ldc2_w 75, 3) := by decide +kernel
theorem dX11_isRead_128 : decode cX11_isRead 128 = .ok (.lcmp, 1) := by decide +kernel
theorem dX11_isRead_129 : decode cX11_isRead 129 = .ok (.ifCond .eq 10, 3) := by decide +kernel
theorem dX11_isRead_132 : decode cX11_isRead 132 = .ok (.aload_n 0, 1) := by decide +kernel
theorem dX11_isRead_133 : decode cX11_isRead 133 = .ok (.invokevirtual 97, 3) := by decide +kernel
theorem dX11_isRead_136 : decode cX11_isRead 136 = .ok (.ifCond .eq 7, 3) := by decide +kernel
theorem dX11_isRead_139 : decode cX11_isRead 139 = .ok (.iconst 1, 1) := by decide +kernel
theorem dX11_isRead_140 : decode cX11_isRead 140 = .ok (.goto 4, 3) := by decide +kernel
theorem dX11_isRead_143 : decode cX11_isRead 143 = .ok (.iconst 0, 1) := by decide +kernel
theorem dX11_isRead_144 : decode cX11_isRead 144 = .ok (.ireturn, 1) := by decide +kernel
theorem dX11_fault_0 : decode cX11_fault 0 = .ok (.aload_n 0, 1) := by decide +kernel
theorem dX11_fault_1 : decode cX11_fault 1 = .ok (.invokevirtual 148, 3) := by decide +kernel
theorem dX11_fault_4 : decode cX11_fault 4 = .ok (.ifCond .eq 7, 3) := by decide +kernel
theorem dX11_fault_7 : decode cX11_fault 7 = .ok (.iconst (-1), 1) := by decide +kernel
theorem dX11_fault_8 : decode cX11_fault 8 = .ok (.goto 7, 3) := by decide +kernel
theorem dX11_fault_11 : decode cX11_fault 11 = .ok (.aload_n 0, 1) := by decide +kernel
theorem dX11_fault_12 : decode cX11_fault 12 = .ok (.getfield 91, 3) := by decide +kernel
theorem dX11_fault_15 : decode cX11_fault 15 = .ok (.ireturn, 1) := by decide +kernel
theorem dX11_doLine_0 : decode cX11_doLine 0 = .ok (.aload_n 0, 1) := by decide +kernel
theorem dX11_doLine_1 : decode cX11_doLine 1 = .ok (.getfield 22, 3) := by decide +kernel
theorem dX11_doLine_4 : decode cX11_doLine 4 = .ok (.iload_n 1, 1) := by decide +kernel
theorem dX11_doLine_5 : decode cX11_doLine 5 = .ok (.iconst 1, 1) := by decide +kernel
theorem dX11_doLine_6 : decode cX11_doLine 6 = .ok (.iadd, 1) := by decide +kernel
theorem dX11_doLine_7 : decode cX11_doLine 7 = .ok (.iaload, 1) := by decide +kernel
theorem dX11_doLine_8 : decode cX11_doLine 8 = .ok (.istore_n 2, 1) := by decide +kernel
theorem dX11_doLine_9 : decode cX11_doLine 9 = .ok (.aload_n 0, 1) := by decide +kernel
theorem dX11_doLine_10 : decode cX11_doLine 10 = .ok (.getfield 22, 3) := by decide +kernel
theorem dX11_doLine_13 : decode cX11_doLine 13 = .ok (.iload_n 1, 1) := by decide +kernel
theorem dX11_doLine_14 : decode cX11_doLine 14 = .ok (.iconst 2, 1) := by decide +kernel
theorem dX11_doLine_15 : decode cX11_doLine 15 = .ok (.iadd, 1) := by decide +kernel
theorem dX11_doLine_16 : decode cX11_doLine 16 = .ok (.iaload, 1) := by decide +kernel
theorem dX11_doLine_17 : decode cX11_doLine 17 = .ok (.istore_n 3, 1) := by decide +kernel
theorem dX11_doLine_18 : decode cX11_doLine 18 = .ok (.aload_n 0, 1) := by decide +kernel
theorem dX11_doLine_19 : decode cX11_doLine 19 = .ok (.getfield 22, 3) := by decide +kernel
theorem dX11_doLine_22 : decode cX11_doLine 22 = .ok (.iload_n 1, 1) := by decide +kernel
theorem dX11_doLine_23 : decode cX11_doLine 23 = .ok (.iaload, 1) := by decide +kernel
theorem dX11_doLine_24 : decode cX11_doLine 24 = .ok (.tableswitch 232 0 9 #[56, 56, 56, 56, 119, 119, 119, 189, 202, 217], 56) := by decide +kernel
theorem dX11_doLine_80 : decode cX11_doLine 80 = .ok (.iconst 0, 1) := by decide +kernel
theorem dX11_doLine_81 : decode cX11_doLine 81 = .ok (.istore 4, 2) := by decide +kernel
theorem dX11_doLine_83 : decode cX11_doLine 83 = .ok (.iload 4, 2) := by decide +kernel
theorem dX11_doLine_85 : decode cX11_doLine 85 = .ok (.bipush 6, 2) := by decide +kernel
theorem dX11_doLine_87 : decode cX11_doLine 87 = .ok (.if_icmp .ge 43, 3) := by decide +kernel
theorem dX11_doLine_90 : decode cX11_doLine 90 = .ok (.aload_n 0, 1) := by decide +kernel
theorem dX11_doLine_91 : decode cX11_doLine 91 = .ok (.getfield 7, 3) := by decide +kernel
theorem dX11_doLine_94 : decode cX11_doLine 94 = .ok (.bipush 6, 2) := by decide +kernel
theorem dX11_doLine_96 : decode cX11_doLine 96 = .ok (.aload_n 0, 1) := by decide +kernel
theorem dX11_doLine_97 : decode cX11_doLine 97 = .ok (.getfield 47, 3) := by decide +kernel
theorem dX11_doLine_100 : decode cX11_doLine 100 = .ok (.imul, 1) := by decide +kernel
theorem dX11_doLine_101 : decode cX11_doLine 101 = .ok (.iload 4, 2) := by decide +kernel
theorem dX11_doLine_103 : decode cX11_doLine 103 = .ok (.iadd, 1) := by decide +kernel
theorem dX11_doLine_104 : decode cX11_doLine 104 = .ok (.iload 4, 2) := by decide +kernel
theorem dX11_doLine_106 : decode cX11_doLine 106 = .ok (.iconst 3, 1) := by decide +kernel
theorem dX11_doLine_107 : decode cX11_doLine 107 = .ok (.if_icmp .ge 15, 3) := by decide +kernel
theorem dX11_doLine_110 : decode cX11_doLine 110 = .ok (.aload_n 0, 1) := by decide +kernel
theorem dX11_doLine_111 : decode cX11_doLine 111 = .ok (.getfield 22, 3) := by decide +kernel
theorem dX11_doLine_114 : decode cX11_doLine 114 = .ok (.iload_n 1, 1) := by decide +kernel
theorem dX11_doLine_115 : decode cX11_doLine 115 = .ok (.iload 4, 2) := by decide +kernel
theorem dX11_doLine_117 : decode cX11_doLine 117 = .ok (.iadd, 1) := by decide +kernel
theorem dX11_doLine_118 : decode cX11_doLine 118 = .ok (.iaload, 1) := by decide +kernel
theorem dX11_doLine_119 : decode cX11_doLine 119 = .ok (.goto 4, 3) := by decide +kernel
theorem dX11_doLine_122 : decode cX11_doLine 122 = .ok (.iconst 0, 1) := by decide +kernel
theorem dX11_doLine_123 : decode cX11_doLine 123 = .ok (.iastore, 1) := by decide +kernel
theorem dX11_doLine_124 : decode cX11_doLine 124 = .ok (.iinc 4 1, 3) := by decide +kernel
theorem dX11_doLine_127 : decode cX11_doLine 127 = .ok (.goto (-44), 3) := by decide +kernel
theorem dX11_doLine_130 : decode cX11_doLine 130 = .ok (.aload_n 0, 1) := by decide +kernel
theorem dX11_doLine_131 : decode cX11_doLine 131 = .ok (.dup, 1) := by decide +kernel
theorem dX11_doLine_132 : decode cX11_doLine 132 = .ok (.getfield 47, 3) := by decide +kernel
theorem dX11_doLine_135 : decode cX11_doLine 135 = .ok (.iconst 1, 1) := by decide +kernel
theorem dX11_doLine_136 : decode cX11_doLine 136 = .ok (.iadd, 1) := by decide +kernel
theorem dX11_doLine_137 : decode cX11_doLine 137 = .ok (.putfield 47, 3) := by decide +kernel
theorem dX11_doLine_140 : decode cX11_doLine 140 = .ok (.goto 128, 3) := by decide +kernel
theorem dX11_doLine_143 : decode cX11_doLine 143 = .ok (.aload_n 0, 1) := by decide +kernel
theorem dX11_doLine_144 : decode cX11_doLine 144 = .ok (.getfield 13, 3) := by decide +kernel
theorem dX11_doLine_147 : decode cX11_doLine 147 = .ok (.iconst 5, 1) := by decide +kernel
theorem dX11_doLine_148 : decode cX11_doLine 148 = .ok (.aload_n 0, 1) := by decide +kernel
theorem dX11_doLine_149 : decode cX11_doLine 149 = .ok (.getfield 55, 3) := by decide +kernel
theorem dX11_doLine_152 : decode cX11_doLine 152 = .ok (.imul, 1) := by decide +kernel
theorem dX11_doLine_153 : decode cX11_doLine 153 = .ok (.aload_n 0, 1) := by decide +kernel
theorem dX11_doLine_154 : decode cX11_doLine 154 = .ok (.getfield 22, 3) := by decide +kernel
theorem dX11_doLine_157 : decode cX11_doLine 157 = .ok (.iload_n 1, 1) := by decide +kernel
theorem dX11_doLine_158 : decode cX11_doLine 158 = .ok (.iaload, 1) := by decide +kernel
theorem dX11_doLine_159 : decode cX11_doLine 159 = .ok (.iconst 4, 1) := by decide +kernel
theorem dX11_doLine_160 : decode cX11_doLine 160 = .ok (.isub, 1) := by decide +kernel
theorem dX11_doLine_161 : decode cX11_doLine 161 = .ok (.iastore, 1) := by decide +kernel
theorem dX11_doLine_162 : decode cX11_doLine 162 = .ok (.iconst 1, 1) := by decide +kernel
theorem dX11_doLine_163 : decode cX11_doLine 163 = .ok (.istore 4, 2) := by decide +kernel
theorem dX11_doLine_165 : decode cX11_doLine 165 = .ok (.iload 4, 2) := by decide +kernel
theorem dX11_doLine_167 : decode cX11_doLine 167 = .ok (.iconst 5, 1) := by decide +kernel
theorem dX11_doLine_168 : decode cX11_doLine 168 = .ok (.if_icmp .ge 32, 3) := by decide +kernel
theorem dX11_doLine_171 : decode cX11_doLine 171 = .ok (.aload_n 0, 1) := by decide +kernel
theorem dX11_doLine_172 : decode cX11_doLine 172 = .ok (.getfield 13, 3) := by decide +kernel
theorem dX11_doLine_175 : decode cX11_doLine 175 = .ok (.iconst 5, 1) := by decide +kernel
theorem dX11_doLine_176 : decode cX11_doLine 176 = .ok (.aload_n 0, 1) := by decide +kernel
theorem dX11_doLine_177 : decode cX11_doLine 177 = .ok (.getfield 55, 3) := by decide +kernel
theorem dX11_doLine_180 : decode cX11_doLine 180 = .ok (.imul, 1) := by decide +kernel
theorem dX11_doLine_181 : decode cX11_doLine 181 = .ok (.iload 4, 2) := by decide +kernel
theorem dX11_doLine_183 : decode cX11_doLine 183 = .ok (.iadd, 1) := by decide +kernel
theorem dX11_doLine_184 : decode cX11_doLine 184 = .ok (.aload_n 0, 1) := by decide +kernel
theorem dX11_doLine_185 : decode cX11_doLine 185 = .ok (.getfield 22, 3) := by decide +kernel
theorem dX11_doLine_188 : decode cX11_doLine 188 = .ok (.iload_n 1, 1) := by decide +kernel
theorem dX11_doLine_189 : decode cX11_doLine 189 = .ok (.iload 4, 2) := by decide +kernel
theorem dX11_doLine_191 : decode cX11_doLine 191 = .ok (.iadd, 1) := by decide +kernel
theorem dX11_doLine_192 : decode cX11_doLine 192 = .ok (.iaload, 1) := by decide +kernel
theorem dX11_doLine_193 : decode cX11_doLine 193 = .ok (.iastore, 1) := by decide +kernel
theorem dX11_doLine_194 : decode cX11_doLine 194 = .ok (.iinc 4 1, 3) := by decide +kernel
theorem dX11_doLine_197 : decode cX11_doLine 197 = .ok (.goto (-32), 3) := by decide +kernel
theorem dX11_doLine_200 : decode cX11_doLine 200 = .ok (.aload_n 0, 1) := by decide +kernel
theorem dX11_doLine_201 : decode cX11_doLine 201 = .ok (.dup, 1) := by decide +kernel
theorem dX11_doLine_202 : decode cX11_doLine 202 = .ok (.getfield 55, 3) := by decide +kernel
theorem dX11_doLine_205 : decode cX11_doLine 205 = .ok (.iconst 1, 1) := by decide +kernel
theorem dX11_doLine_206 : decode cX11_doLine 206 = .ok (.iadd, 1) := by decide +kernel
theorem dX11_doLine_207 : decode cX11_doLine 207 = .ok (.putfield 55, 3) := by decide +kernel
theorem dX11_doLine_210 : decode cX11_doLine 210 = .ok (.goto 58, 3) := by decide +kernel
theorem dX11_doLine_213 : decode cX11_doLine 213 = .ok (.aload_n 0, 1) := by decide +kernel
theorem dX11_doLine_214 : decode cX11_doLine 214 = .ok (.iconst 0, 1) := by decide +kernel
theorem dX11_doLine_215 : decode cX11_doLine 215 = .ok (.putfield 47, 3) := by decide +kernel
theorem dX11_doLine_218 : decode cX11_doLine 218 = .ok (.aload_n 0, 1) := by decide +kernel
theorem dX11_doLine_219 : decode cX11_doLine 219 = .ok (.iconst 0, 1) := by decide +kernel
theorem dX11_doLine_220 : decode cX11_doLine 220 = .ok (.putfield 55, 3) := by decide +kernel
theorem dX11_doLine_223 : decode cX11_doLine 223 = .ok (.goto 45, 3) := by decide +kernel
theorem dX11_doLine_226 : decode cX11_doLine 226 = .ok (.aload_n 0, 1) := by decide +kernel
theorem dX11_doLine_227 : decode cX11_doLine 227 = .ok (.getfield 7, 3) := by decide +kernel
theorem dX11_doLine_230 : decode cX11_doLine 230 = .ok (.bipush 6, 2) := by decide +kernel
theorem dX11_doLine_232 : decode cX11_doLine 232 = .ok (.iload_n 2, 1) := by decide +kernel
theorem dX11_doLine_233 : decode cX11_doLine 233 = .ok (.imul, 1) := by decide +kernel
theorem dX11_doLine_234 : decode cX11_doLine 234 = .ok (.iconst 3, 1) := by decide +kernel
theorem dX11_doLine_235 : decode cX11_doLine 235 = .ok (.iadd, 1) := by decide +kernel
theorem dX11_doLine_236 : decode cX11_doLine 236 = .ok (.iload_n 3, 1) := by decide +kernel
theorem dX11_doLine_237 : decode cX11_doLine 237 = .ok (.iastore, 1) := by decide +kernel
theorem dX11_doLine_238 : decode cX11_doLine 238 = .ok (.goto 30, 3) := by decide +kernel
theorem dX11_doLine_241 : decode cX11_doLine 241 = .ok (.aload_n 0, 1) := by decide +kernel
theorem dX11_doLine_242 : decode cX11_doLine 242 = .ok (.getfield 7, 3) := by decide +kernel
theorem dX11_doLine_245 : decode cX11_doLine 245 = .ok (.bipush 6, 2) := by decide +kernel
theorem dX11_doLine_247 : decode cX11_doLine 247 = .ok (.iload_n 2, 1) := by decide +kernel
theorem dX11_doLine_248 : decode cX11_doLine 248 = .ok (.imul, 1) := by decide +kernel
theorem dX11_doLine_249 : decode cX11_doLine 249 = .ok (.iconst 4, 1) := by decide +kernel
theorem dX11_doLine_250 : decode cX11_doLine 250 = .ok (.iadd, 1) := by decide +kernel
theorem dX11_doLine_251 : decode cX11_doLine 251 = .ok (.iload_n 3, 1) := by decide +kernel
theorem dX11_doLine_252 : decode cX11_doLine 252 = .ok (.iastore, 1) := by decide +kernel
theorem dX11_doLine_253 : decode cX11_doLine 253 = .ok (.goto 15, 3) := by decide +kernel
theorem dX11_doLine_256 : decode cX11_doLine 256 = .ok (.aload_n 0, 1) := by decide +kernel
theorem dX11_doLine_257 : decode cX11_doLine 257 = .ok (.getfield 7, 3) := by decide +kernel
theorem dX11_doLine_260 : decode cX11_doLine 260 = .ok (.bipush 6, 2) := by decide +kernel
theorem dX11_doLine_262 : decode cX11_doLine 262 = .ok (.iload_n 2, 1) := by decide +kernel
theorem dX11_doLine_263 : decode cX11_doLine 263 = .ok (.imul, 1) := by decide +kernel
theorem dX11_doLine_264 : decode cX11_doLine 264 = .ok (.iconst 5, 1) := by decide +kernel
theorem dX11_doLine_265 : decode cX11_doLine 265 = .ok (.iadd, 1) := by decide +kernel
theorem dX11_doLine_266 : decode cX11_doLine 266 = .ok (.iconst 1, 1) := by decide +kernel
theorem dX11_doLine_267 : decode cX11_doLine 267 = .ok (.iastore, 1) := by decide +kernel
theorem dX11_doLine_268 : decode cX11_doLine 268 = .ok (.return_, 1) := by decide +kernel
theorem dX11_shore_0 : decode cX11_shore 0 = .ok (.aload_n 0, 1) := by decide +kernel
theorem dX11_shore_1 : decode cX11_shore 1 = .ok (.invokevirtual 148, 3) := by decide +kernel
theorem dX11_shore_4 : decode cX11_shore 4 = .ok (.ifCond .ne 6, 3) := by decide +kernel
theorem dX11_shore_7 : decode cX11_shore 7 = .ok (.bipush (-4), 2) := by decide +kernel
theorem dX11_shore_9 : decode cX11_shore 9 = .ok (.ireturn, 1) := by decide +kernel
theorem dX11_shore_10 : decode cX11_shore 10 = .ok (.iconst 0, 1) := by decide +kernel
theorem dX11_shore_11 : decode cX11_shore 11 = .ok (.istore_n 1, 1) := by decide +kernel
theorem dX11_shore_12 : decode cX11_shore 12 = .ok (.iload_n 1, 1) := by decide +kernel
theorem dX11_shore_13 : decode cX11_shore 13 = .ok (.aload_n 0, 1) := by decide +kernel
theorem dX11_shore_14 : decode cX11_shore 14 = .ok (.getfield 142, 3) := by decide +kernel
theorem dX11_shore_17 : decode cX11_shore 17 = .ok (.if_icmp .ge 16, 3) := by decide +kernel
theorem dX11_shore_20 : decode cX11_shore 20 = .ok (.aload_n 0, 1) := by decide +kernel
theorem dX11_shore_21 : decode cX11_shore 21 = .ok (.iconst 5, 1) := by decide +kernel
theorem dX11_shore_22 : decode cX11_shore 22 = .ok (.iload_n 1, 1) := by decide +kernel
theorem dX11_shore_23 : decode cX11_shore 23 = .ok (.imul, 1) := by decide +kernel
theorem dX11_shore_24 : decode cX11_shore 24 = .ok (.invokevirtual 151, 3) := by decide +kernel
theorem dX11_shore_27 : decode cX11_shore 27 = .ok (.iinc 1 1, 3) := by decide +kernel
theorem dX11_shore_30 : decode cX11_shore 30 = .ok (.goto (-18), 3) := by decide +kernel
theorem dX11_shore_33 : decode cX11_shore 33 = .ok (.aload_n 0, 1) := by decide +kernel
theorem dX11_shore_34 : decode cX11_shore 34 = .ok (.iconst 0, 1) := by decide +kernel
theorem dX11_shore_35 : decode cX11_shore 35 = .ok (.putfield 58, 3) := by decide +kernel
theorem dX11_shore_38 : decode cX11_shore 38 = .ok (.aload_n 0, 1) := by decide +kernel
theorem dX11_shore_39 : decode cX11_shore 39 = .ok (.iconst 0, 1) := by decide +kernel
theorem dX11_shore_40 : decode cX11_shore 40 = .ok (.putfield 155, 3) := by decide +kernel
theorem dX11_shore_43 : decode cX11_shore 43 = .ok (.aload_n 0, 1) := by decide +kernel
theorem dX11_shore_44 : decode cX11_shore 44 = .ok (.iconst 0, 1) := by decide +kernel
theorem dX11_shore_45 : decode cX11_shore 45 = .ok (.putfield 158, 3) := by decide +kernel
theorem dX11_shore_48 : decode cX11_shore 48 = .ok (.iconst 0, 1) := by decide +kernel
theorem dX11_shore_49 : decode cX11_shore 49 = .ok (.istore_n 1, 1) := by decide +kernel
theorem dX11_shore_50 : decode cX11_shore 50 = .ok (.iload_n 1, 1) := by decide +kernel
theorem dX11_shore_51 : decode cX11_shore 51 = .ok (.aload_n 0, 1) := by decide +kernel
theorem dX11_shore_52 : decode cX11_shore 52 = .ok (.getfield 47, 3) := by decide +kernel
theorem dX11_shore_55 : decode cX11_shore 55 = .ok (.if_icmp .ge 31, 3) := by decide +kernel
theorem dX11_shore_58 : decode cX11_shore 58 = .ok (.aload_n 0, 1) := by decide +kernel
theorem dX11_shore_59 : decode cX11_shore 59 = .ok (.aload_n 0, 1) := by decide +kernel
theorem dX11_shore_60 : decode cX11_shore 60 = .ok (.getfield 155, 3) := by decide +kernel
theorem dX11_shore_63 : decode cX11_shore 63 = .ok (.aload_n 0, 1) := by decide +kernel
theorem dX11_shore_64 : decode cX11_shore 64 = .ok (.getfield 7, 3) := by decide +kernel
theorem dX11_shore_67 : decode cX11_shore 67 = .ok (.bipush 6, 2) := by decide +kernel
theorem dX11_shore_69 : decode cX11_shore 69 = .ok (.iload_n 1, 1) := by decide +kernel
theorem dX11_shore_70 : decode cX11_shore 70 = .ok (.imul, 1) := by decide +kernel
theorem dX11_shore_71 : decode cX11_shore 71 = .ok (.iconst 2, 1) := by decide +kernel
theorem dX11_shore_72 : decode cX11_shore 72 = .ok (.iadd, 1) := by decide +kernel
theorem dX11_shore_73 : decode cX11_shore 73 = .ok (.iaload, 1) := by decide +kernel
theorem dX11_shore_74 : decode cX11_shore 74 = .ok (.iload_n 1, 1) := by decide +kernel
theorem dX11_shore_75 : decode cX11_shore 75 = .ok (.ishl, 1) := by decide +kernel
theorem dX11_shore_76 : decode cX11_shore 76 = .ok (.ior, 1) := by decide +kernel
theorem dX11_shore_77 : decode cX11_shore 77 = .ok (.putfield 155, 3) := by decide +kernel
theorem dX11_shore_80 : decode cX11_shore 80 = .ok (.iinc 1 1, 3) := by decide +kernel
theorem dX11_shore_83 : decode cX11_shore 83 = .ok (.goto (-33), 3) := by decide +kernel
theorem dX11_shore_86 : decode cX11_shore 86 = .ok (.iconst 0, 1) := by decide +kernel
theorem dX11_shore_87 : decode cX11_shore 87 = .ok (.istore_n 1, 1) := by decide +kernel
theorem dX11_shore_88 : decode cX11_shore 88 = .ok (.iload_n 1, 1) := by decide +kernel
theorem dX11_shore_89 : decode cX11_shore 89 = .ok (.aload_n 0, 1) := by decide +kernel
theorem dX11_shore_90 : decode cX11_shore 90 = .ok (.getfield 55, 3) := by decide +kernel
theorem dX11_shore_93 : decode cX11_shore 93 = .ok (.if_icmp .ge 30, 3) := by decide +kernel
theorem dX11_shore_96 : decode cX11_shore 96 = .ok (.aload_n 0, 1) := by decide +kernel
theorem dX11_shore_97 : decode cX11_shore 97 = .ok (.aload_n 0, 1) := by decide +kernel
theorem dX11_shore_98 : decode cX11_shore 98 = .ok (.getfield 158, 3) := by decide +kernel
theorem dX11_shore_101 : decode cX11_shore 101 = .ok (.aload_n 0, 1) := by decide +kernel
theorem dX11_shore_102 : decode cX11_shore 102 = .ok (.getfield 13, 3) := by decide +kernel
theorem dX11_shore_105 : decode cX11_shore 105 = .ok (.iconst 5, 1) := by decide +kernel
theorem dX11_shore_106 : decode cX11_shore 106 = .ok (.iload_n 1, 1) := by decide +kernel
theorem dX11_shore_107 : decode cX11_shore 107 = .ok (.imul, 1) := by decide +kernel
theorem dX11_shore_108 : decode cX11_shore 108 = .ok (.iconst 2, 1) := by decide +kernel
theorem dX11_shore_109 : decode cX11_shore 109 = .ok (.iadd, 1) := by decide +kernel
theorem dX11_shore_110 : decode cX11_shore 110 = .ok (.iaload, 1) := by decide +kernel
theorem dX11_shore_111 : decode cX11_shore 111 = .ok (.iload_n 1, 1) := by decide +kernel
theorem dX11_shore_112 : decode cX11_shore 112 = .ok (.ishl, 1) := by decide +kernel
theorem dX11_shore_113 : decode cX11_shore 113 = .ok (.ior, 1) := by decide +kernel
theorem dX11_shore_114 : decode cX11_shore 114 = .ok (.putfield 158, 3) := by decide +kernel
theorem dX11_shore_117 : decode cX11_shore 117 = .ok (.iinc 1 1, 3) := by decide +kernel
theorem dX11_shore_120 : decode cX11_shore 120 = .ok (.goto (-32), 3) := by decide +kernel
theorem dX11_shore_123 : decode cX11_shore 123 = .ok (.aload_n 0, 1) := by decide +kernel
theorem dX11_shore_124 : decode cX11_shore 124 = .ok (.iconst 0, 1) := by decide +kernel
theorem dX11_shore_125 : decode cX11_shore 125 = .ok (.putfield 161, 3) := by decide +kernel
theorem dX11_shore_128 : decode cX11_shore 128 = .ok (.aload_n 0, 1) := by decide +kernel
theorem dX11_shore_129 : decode cX11_shore 129 = .ok (.iconst 0, 1) := by decide +kernel
theorem dX11_shore_130 : decode cX11_shore 130 = .ok (.putfield 164, 3) := by decide +kernel
theorem dX11_shore_133 : decode cX11_shore 133 = .ok (.aload_n 0, 1) := by decide +kernel
theorem dX11_shore_134 : decode cX11_shore 134 = .ok (.iconst 0, 1) := by decide +kernel
theorem dX11_shore_135 : decode cX11_shore 135 = .ok (.putfield 167, 3) := by decide +kernel
theorem dX11_shore_138 : decode cX11_shore 138 = .ok (.aload_n 0, 1) := by decide +kernel
theorem dX11_shore_139 : decode cX11_shore 139 = .ok (.iconst 0, 1) := by decide +kernel
theorem dX11_shore_140 : decode cX11_shore 140 = .ok (.putfield 170, 3) := by decide +kernel
theorem dX11_shore_143 : decode cX11_shore 143 = .ok (.aload_n 0, 1) := by decide +kernel
theorem dX11_shore_144 : decode cX11_shore 144 = .ok (.getfield 28, 3) := by decide +kernel
theorem dX11_shore_147 : decode cX11_shore 147 = .ok (.iconst 0, 1) := by decide +kernel
theorem dX11_shore_148 : decode cX11_shore 148 = .ok (.iconst 0, 1) := by decide +kernel
theorem dX11_shore_149 : decode cX11_shore 149 = .ok (.bastore, 1) := by decide +kernel
theorem dX11_shore_150 : decode cX11_shore 150 = .ok (.aload_n 0, 1) := by decide +kernel
theorem dX11_shore_151 : decode cX11_shore 151 = .ok (.getfield 28, 3) := by decide +kernel
theorem dX11_shore_154 : decode cX11_shore 154 = .ok (.iconst 1, 1) := by decide +kernel
theorem dX11_shore_155 : decode cX11_shore 155 = .ok (.iconst 0, 1) := by decide +kernel
theorem dX11_shore_156 : decode cX11_shore 156 = .ok (.bastore, 1) := by decide +kernel
theorem dX11_shore_157 : decode cX11_shore 157 = .ok (.aload_n 0, 1) := by decide +kernel
theorem dX11_shore_158 : decode cX11_shore 158 = .ok (.getfield 142, 3) := by decide +kernel
theorem dX11_shore_161 : decode cX11_shore 161 = .ok (.ireturn, 1) := by decide +kernel
theorem dX11_poundsOf_0 : decode cX11_poundsOf 0 = .ok (.aload_n 0, 1) := by decide +kernel
theorem dX11_poundsOf_1 : decode cX11_poundsOf 1 = .ok (.getfield 7, 3) := by decide +kernel
theorem dX11_poundsOf_4 : decode cX11_poundsOf 4 = .ok (.bipush 6, 2) := by decide +kernel
theorem dX11_poundsOf_6 : decode cX11_poundsOf 6 = .ok (.iload_n 1, 1) := by decide +kernel
theorem dX11_poundsOf_7 : decode cX11_poundsOf 7 = .ok (.imul, 1) := by decide +kernel
theorem dX11_poundsOf_8 : decode cX11_poundsOf 8 = .ok (.iconst 1, 1) := by decide +kernel
theorem dX11_poundsOf_9 : decode cX11_poundsOf 9 = .ok (.iadd, 1) := by decide +kernel
theorem dX11_poundsOf_10 : decode cX11_poundsOf 10 = .ok (.iaload, 1) := by decide +kernel
theorem dX11_poundsOf_11 : decode cX11_poundsOf 11 = .ok (.iload_n 2, 1) := by decide +kernel
theorem dX11_poundsOf_12 : decode cX11_poundsOf 12 = .ok (.iload_n 1, 1) := by decide +kernel
theorem dX11_poundsOf_13 : decode cX11_poundsOf 13 = .ok (.invokestatic 173, 3) := by decide +kernel
theorem dX11_poundsOf_16 : decode cX11_poundsOf 16 = .ok (.ifCond .eq 7, 3) := by decide +kernel
theorem dX11_poundsOf_19 : decode cX11_poundsOf 19 = .ok (.iconst 0, 1) := by decide +kernel
theorem dX11_poundsOf_20 : decode cX11_poundsOf 20 = .ok (.goto 14, 3) := by decide +kernel
theorem dX11_poundsOf_23 : decode cX11_poundsOf 23 = .ok (.aload_n 0, 1) := by decide +kernel
theorem dX11_poundsOf_24 : decode cX11_poundsOf 24 = .ok (.getfield 7, 3) := by decide +kernel
theorem dX11_poundsOf_27 : decode cX11_poundsOf 27 = .ok (.bipush 6, 2) := by decide +kernel
theorem dX11_poundsOf_29 : decode cX11_poundsOf 29 = .ok (.iload_n 1, 1) := by decide +kernel
theorem dX11_poundsOf_30 : decode cX11_poundsOf 30 = .ok (.imul, 1) := by decide +kernel
theorem dX11_poundsOf_31 : decode cX11_poundsOf 31 = .ok (.iconst 3, 1) := by decide +kernel
theorem dX11_poundsOf_32 : decode cX11_poundsOf 32 = .ok (.iadd, 1) := by decide +kernel
theorem dX11_poundsOf_33 : decode cX11_poundsOf 33 = .ok (.iaload, 1) := by decide +kernel
theorem dX11_poundsOf_34 : decode cX11_poundsOf 34 = .ok (.iadd, 1) := by decide +kernel
theorem dX11_poundsOf_35 : decode cX11_poundsOf 35 = .ok (.ireturn, 1) := by decide +kernel
theorem dX11_thing_0 : decode cX11_thing 0 = .ok (.aload_n 0, 1) := by decide +kernel
theorem dX11_thing_1 : decode cX11_thing 1 = .ok (.iload_n 1, 1) := by decide +kernel
theorem dX11_thing_2 : decode cX11_thing 2 = .ok (.invokevirtual 177, 3) := by decide +kernel
theorem dX11_thing_5 : decode cX11_thing 5 = .ok (.ifCond .ne 6, 3) := by decide +kernel
theorem dX11_thing_8 : decode cX11_thing 8 = .ok (.bipush (-2), 2) := by decide +kernel
theorem dX11_thing_10 : decode cX11_thing 10 = .ok (.ireturn, 1) := by decide +kernel
theorem dX11_thing_11 : decode cX11_thing 11 = .ok (.iload_n 2, 1) := by decide +kernel
theorem dX11_thing_12 : decode cX11_thing 12 = .ok (.tableswitch 135 0 7 #[48, 48, 60, 69, 81, 111, 111, 125], 48) := by decide +kernel
theorem dX11_thing_60 : decode cX11_thing 60 = .ok (.aload_n 0, 1) := by decide +kernel
theorem dX11_thing_61 : decode cX11_thing 61 = .ok (.getfield 7, 3) := by decide +kernel
theorem dX11_thing_64 : decode cX11_thing 64 = .ok (.bipush 6, 2) := by decide +kernel
theorem dX11_thing_66 : decode cX11_thing 66 = .ok (.iload_n 1, 1) := by decide +kernel
theorem dX11_thing_67 : decode cX11_thing 67 = .ok (.imul, 1) := by decide +kernel
theorem dX11_thing_68 : decode cX11_thing 68 = .ok (.iload_n 2, 1) := by decide +kernel
theorem dX11_thing_69 : decode cX11_thing 69 = .ok (.iadd, 1) := by decide +kernel
theorem dX11_thing_70 : decode cX11_thing 70 = .ok (.iaload, 1) := by decide +kernel
theorem dX11_thing_71 : decode cX11_thing 71 = .ok (.ireturn, 1) := by decide +kernel
theorem dX11_thing_72 : decode cX11_thing 72 = .ok (.aload_n 0, 1) := by decide +kernel
theorem dX11_thing_73 : decode cX11_thing 73 = .ok (.getfield 155, 3) := by decide +kernel
theorem dX11_thing_76 : decode cX11_thing 76 = .ok (.iload_n 1, 1) := by decide +kernel
theorem dX11_thing_77 : decode cX11_thing 77 = .ok (.ishr, 1) := by decide +kernel
theorem dX11_thing_78 : decode cX11_thing 78 = .ok (.iconst 1, 1) := by decide +kernel
theorem dX11_thing_79 : decode cX11_thing 79 = .ok (.iand, 1) := by decide +kernel
theorem dX11_thing_80 : decode cX11_thing 80 = .ok (.ireturn, 1) := by decide +kernel
theorem dX11_thing_81 : decode cX11_thing 81 = .ok (.aload_n 0, 1) := by decide +kernel
theorem dX11_thing_82 : decode cX11_thing 82 = .ok (.getfield 7, 3) := by decide +kernel
theorem dX11_thing_85 : decode cX11_thing 85 = .ok (.bipush 6, 2) := by decide +kernel
theorem dX11_thing_87 : decode cX11_thing 87 = .ok (.iload_n 1, 1) := by decide +kernel
theorem dX11_thing_88 : decode cX11_thing 88 = .ok (.imul, 1) := by decide +kernel
theorem dX11_thing_89 : decode cX11_thing 89 = .ok (.iconst 3, 1) := by decide +kernel
theorem dX11_thing_90 : decode cX11_thing 90 = .ok (.iadd, 1) := by decide +kernel
theorem dX11_thing_91 : decode cX11_thing 91 = .ok (.iaload, 1) := by decide +kernel
theorem dX11_thing_92 : decode cX11_thing 92 = .ok (.ireturn, 1) := by decide +kernel
theorem dX11_thing_93 : decode cX11_thing 93 = .ok (.aload_n 0, 1) := by decide +kernel
theorem dX11_thing_94 : decode cX11_thing 94 = .ok (.getfield 7, 3) := by decide +kernel
theorem dX11_thing_97 : decode cX11_thing 97 = .ok (.bipush 6, 2) := by decide +kernel
theorem dX11_thing_99 : decode cX11_thing 99 = .ok (.iload_n 1, 1) := by decide +kernel
theorem dX11_thing_100 : decode cX11_thing 100 = .ok (.imul, 1) := by decide +kernel
theorem dX11_thing_101 : decode cX11_thing 101 = .ok (.iaload, 1) := by decide +kernel
theorem dX11_thing_102 : decode cX11_thing 102 = .ok (.iconst 2, 1) := by decide +kernel
theorem dX11_thing_103 : decode cX11_thing 103 = .ok (.if_icmp .ge 18, 3) := by decide +kernel
theorem dX11_thing_106 : decode cX11_thing 106 = .ok (.aload_n 0, 1) := by decide +kernel
theorem dX11_thing_107 : decode cX11_thing 107 = .ok (.getfield 161, 3) := by decide +kernel
theorem dX11_thing_110 : decode cX11_thing 110 = .ok (.iload_n 1, 1) := by decide +kernel
theorem dX11_thing_111 : decode cX11_thing 111 = .ok (.invokestatic 173, 3) := by decide +kernel
theorem dX11_thing_114 : decode cX11_thing 114 = .ok (.ifCond .ne 7, 3) := by decide +kernel
theorem dX11_thing_117 : decode cX11_thing 117 = .ok (.iconst 1, 1) := by decide +kernel
theorem dX11_thing_118 : decode cX11_thing 118 = .ok (.goto 4, 3) := by decide +kernel
theorem dX11_thing_121 : decode cX11_thing 121 = .ok (.iconst 0, 1) := by decide +kernel
theorem dX11_thing_122 : decode cX11_thing 122 = .ok (.ireturn, 1) := by decide +kernel
theorem dX11_thing_123 : decode cX11_thing 123 = .ok (.aload_n 0, 1) := by decide +kernel
theorem dX11_thing_124 : decode cX11_thing 124 = .ok (.getfield 7, 3) := by decide +kernel
theorem dX11_thing_127 : decode cX11_thing 127 = .ok (.bipush 6, 2) := by decide +kernel
theorem dX11_thing_129 : decode cX11_thing 129 = .ok (.iload_n 1, 1) := by decide +kernel
theorem dX11_thing_130 : decode cX11_thing 130 = .ok (.imul, 1) := by decide +kernel
theorem dX11_thing_131 : decode cX11_thing 131 = .ok (.iload_n 2, 1) := by decide +kernel
theorem dX11_thing_132 : decode cX11_thing 132 = .ok (.iadd, 1) := by decide +kernel
theorem dX11_thing_133 : decode cX11_thing 133 = .ok (.iconst 1, 1) := by decide +kernel
theorem dX11_thing_134 : decode cX11_thing 134 = .ok (.isub, 1) := by decide +kernel
theorem dX11_thing_135 : decode cX11_thing 135 = .ok (.iaload, 1) := by decide +kernel
theorem dX11_thing_136 : decode cX11_thing 136 = .ok (.ireturn, 1) := by decide +kernel
theorem dX11_thing_137 : decode cX11_thing 137 = .ok (.aload_n 0, 1) := by decide +kernel
theorem dX11_thing_138 : decode cX11_thing 138 = .ok (.iload_n 1, 1) := by decide +kernel
theorem dX11_thing_139 : decode cX11_thing 139 = .ok (.aload_n 0, 1) := by decide +kernel
theorem dX11_thing_140 : decode cX11_thing 140 = .ok (.getfield 161, 3) := by decide +kernel
theorem dX11_thing_143 : decode cX11_thing 143 = .ok (.invokevirtual 180, 3) := by decide +kernel
theorem dX11_thing_146 : decode cX11_thing 146 = .ok (.ireturn, 1) := by decide +kernel
theorem dX11_thing_147 : decode cX11_thing 147 = .ok (.bipush (-3), 2) := by decide +kernel
theorem dX11_thing_149 : decode cX11_thing 149 = .ok (.ireturn, 1) := by decide +kernel
theorem dX11_numberOf_0 : decode cX11_numberOf 0 = .ok (.aload_n 0, 1) := by decide +kernel
theorem dX11_numberOf_1 : decode cX11_numberOf 1 = .ok (.getfield 13, 3) := by decide +kernel
theorem dX11_numberOf_4 : decode cX11_numberOf 4 = .ok (.iconst 5, 1) := by decide +kernel
theorem dX11_numberOf_5 : decode cX11_numberOf 5 = .ok (.iload_n 1, 1) := by decide +kernel
theorem dX11_numberOf_6 : decode cX11_numberOf 6 = .ok (.imul, 1) := by decide +kernel
theorem dX11_numberOf_7 : decode cX11_numberOf 7 = .ok (.iconst 1, 1) := by decide +kernel
theorem dX11_numberOf_8 : decode cX11_numberOf 8 = .ok (.iadd, 1) := by decide +kernel
theorem dX11_numberOf_9 : decode cX11_numberOf 9 = .ok (.iaload, 1) := by decide +kernel
theorem dX11_numberOf_10 : decode cX11_numberOf 10 = .ok (.istore_n 2, 1) := by decide +kernel
theorem dX11_numberOf_11 : decode cX11_numberOf 11 = .ok (.aload_n 0, 1) := by decide +kernel
theorem dX11_numberOf_12 : decode cX11_numberOf 12 = .ok (.getfield 13, 3) := by decide +kernel
theorem dX11_numberOf_15 : decode cX11_numberOf 15 = .ok (.iconst 5, 1) := by decide +kernel
theorem dX11_numberOf_16 : decode cX11_numberOf 16 = .ok (.iload_n 1, 1) := by decide +kernel
theorem dX11_numberOf_17 : decode cX11_numberOf 17 = .ok (.imul, 1) := by decide +kernel
theorem dX11_numberOf_18 : decode cX11_numberOf 18 = .ok (.iaload, 1) := by decide +kernel
theorem dX11_numberOf_19 : decode cX11_numberOf 19 = .ok (.iconst 2, 1) := by decide +kernel
theorem dX11_numberOf_20 : decode cX11_numberOf 20 = .ok (.if_icmp .lt 10, 3) := by decide +kernel
theorem dX11_numberOf_23 : decode cX11_numberOf 23 = .ok (.aload_n 0, 1) := by decide +kernel
theorem dX11_numberOf_24 : decode cX11_numberOf 24 = .ok (.getfield 164, 3) := by decide +kernel
theorem dX11_numberOf_27 : decode cX11_numberOf 27 = .ok (.ifCond .ne 5, 3) := by decide +kernel
theorem dX11_numberOf_30 : decode cX11_numberOf 30 = .ok (.iload_n 2, 1) := by decide +kernel
theorem dX11_numberOf_31 : decode cX11_numberOf 31 = .ok (.ireturn, 1) := by decide +kernel
theorem dX11_numberOf_32 : decode cX11_numberOf 32 = .ok (.iconst 0, 1) := by decide +kernel
theorem dX11_numberOf_33 : decode cX11_numberOf 33 = .ok (.istore_n 3, 1) := by decide +kernel
theorem dX11_numberOf_34 : decode cX11_numberOf 34 = .ok (.iload_n 2, 1) := by decide +kernel
theorem dX11_numberOf_35 : decode cX11_numberOf 35 = .ok (.ifCond .le 21, 3) := by decide +kernel
theorem dX11_numberOf_38 : decode cX11_numberOf 38 = .ok (.bipush 10, 2) := by decide +kernel
theorem dX11_numberOf_40 : decode cX11_numberOf 40 = .ok (.iload_n 3, 1) := by decide +kernel
theorem dX11_numberOf_41 : decode cX11_numberOf 41 = .ok (.imul, 1) := by decide +kernel
theorem dX11_numberOf_42 : decode cX11_numberOf 42 = .ok (.iload_n 2, 1) := by decide +kernel
theorem dX11_numberOf_43 : decode cX11_numberOf 43 = .ok (.bipush 10, 2) := by decide +kernel
theorem dX11_numberOf_45 : decode cX11_numberOf 45 = .ok (.irem, 1) := by decide +kernel
theorem dX11_numberOf_46 : decode cX11_numberOf 46 = .ok (.iadd, 1) := by decide +kernel
theorem dX11_numberOf_47 : decode cX11_numberOf 47 = .ok (.istore_n 3, 1) := by decide +kernel
theorem dX11_numberOf_48 : decode cX11_numberOf 48 = .ok (.iload_n 2, 1) := by decide +kernel
theorem dX11_numberOf_49 : decode cX11_numberOf 49 = .ok (.bipush 10, 2) := by decide +kernel
theorem dX11_numberOf_51 : decode cX11_numberOf 51 = .ok (.idiv, 1) := by decide +kernel
theorem dX11_numberOf_52 : decode cX11_numberOf 52 = .ok (.istore_n 2, 1) := by decide +kernel
theorem dX11_numberOf_53 : decode cX11_numberOf 53 = .ok (.goto (-19), 3) := by decide +kernel
theorem dX11_numberOf_56 : decode cX11_numberOf 56 = .ok (.iload_n 3, 1) := by decide +kernel
theorem dX11_numberOf_57 : decode cX11_numberOf 57 = .ok (.ireturn, 1) := by decide +kernel
theorem dX11_ferry_0 : decode cX11_ferry 0 = .ok (.aload_n 0, 1) := by decide +kernel
theorem dX11_ferry_1 : decode cX11_ferry 1 = .ok (.iload_n 1, 1) := by decide +kernel
theorem dX11_ferry_2 : decode cX11_ferry 2 = .ok (.invokevirtual 184, 3) := by decide +kernel
theorem dX11_ferry_5 : decode cX11_ferry 5 = .ok (.ifCond .ne 6, 3) := by decide +kernel
theorem dX11_ferry_8 : decode cX11_ferry 8 = .ok (.bipush (-2), 2) := by decide +kernel
theorem dX11_ferry_10 : decode cX11_ferry 10 = .ok (.ireturn, 1) := by decide +kernel
theorem dX11_ferry_11 : decode cX11_ferry 11 = .ok (.iload_n 2, 1) := by decide +kernel
theorem dX11_ferry_12 : decode cX11_ferry 12 = .ok (.tableswitch 62 0 4 #[51, 36, 42, 51, 51], 36) := by decide +kernel
theorem dX11_ferry_48 : decode cX11_ferry 48 = .ok (.aload_n 0, 1) := by decide +kernel
theorem dX11_ferry_49 : decode cX11_ferry 49 = .ok (.iload_n 1, 1) := by decide +kernel
theorem dX11_ferry_50 : decode cX11_ferry 50 = .ok (.invokevirtual 187, 3) := by decide +kernel
theorem dX11_ferry_53 : decode cX11_ferry 53 = .ok (.ireturn, 1) := by decide +kernel
theorem dX11_ferry_54 : decode cX11_ferry 54 = .ok (.aload_n 0, 1) := by decide +kernel
theorem dX11_ferry_55 : decode cX11_ferry 55 = .ok (.getfield 158, 3) := by decide +kernel
theorem dX11_ferry_58 : decode cX11_ferry 58 = .ok (.iload_n 1, 1) := by decide +kernel
theorem dX11_ferry_59 : decode cX11_ferry 59 = .ok (.ishr, 1) := by decide +kernel
theorem dX11_ferry_60 : decode cX11_ferry 60 = .ok (.iconst 1, 1) := by decide +kernel
theorem dX11_ferry_61 : decode cX11_ferry 61 = .ok (.iand, 1) := by decide +kernel
theorem dX11_ferry_62 : decode cX11_ferry 62 = .ok (.ireturn, 1) := by decide +kernel
theorem dX11_ferry_63 : decode cX11_ferry 63 = .ok (.aload_n 0, 1) := by decide +kernel
theorem dX11_ferry_64 : decode cX11_ferry 64 = .ok (.getfield 13, 3) := by decide +kernel
theorem dX11_ferry_67 : decode cX11_ferry 67 = .ok (.iconst 5, 1) := by decide +kernel
theorem dX11_ferry_68 : decode cX11_ferry 68 = .ok (.iload_n 1, 1) := by decide +kernel
theorem dX11_ferry_69 : decode cX11_ferry 69 = .ok (.imul, 1) := by decide +kernel
theorem dX11_ferry_70 : decode cX11_ferry 70 = .ok (.iload_n 2, 1) := by decide +kernel
theorem dX11_ferry_71 : decode cX11_ferry 71 = .ok (.iadd, 1) := by decide +kernel
theorem dX11_ferry_72 : decode cX11_ferry 72 = .ok (.iaload, 1) := by decide +kernel
theorem dX11_ferry_73 : decode cX11_ferry 73 = .ok (.ireturn, 1) := by decide +kernel
theorem dX11_ferry_74 : decode cX11_ferry 74 = .ok (.bipush (-3), 2) := by decide +kernel
theorem dX11_ferry_76 : decode cX11_ferry 76 = .ok (.ireturn, 1) := by decide +kernel
theorem dX11_as_0 : decode cX11_as 0 = .ok (.aload_n 0, 1) := by decide +kernel
theorem dX11_as_1 : decode cX11_as 1 = .ok (.iload_n 1, 1) := by decide +kernel
theorem dX11_as_2 : decode cX11_as 2 = .ok (.invokevirtual 177, 3) := by decide +kernel
theorem dX11_as_5 : decode cX11_as 5 = .ok (.ifCond .ne 6, 3) := by decide +kernel
theorem dX11_as_8 : decode cX11_as 8 = .ok (.bipush (-2), 2) := by decide +kernel
theorem dX11_as_10 : decode cX11_as 10 = .ok (.ireturn, 1) := by decide +kernel
theorem dX11_as_11 : decode cX11_as 11 = .ok (.iload_n 2, 1) := by decide +kernel
theorem dX11_as_12 : decode cX11_as 12 = .ok (.iconst 0, 1) := by decide +kernel
theorem dX11_as_13 : decode cX11_as 13 = .ok (.iconst 5, 1) := by decide +kernel
theorem dX11_as_14 : decode cX11_as 14 = .ok (.invokestatic 51, 3) := by decide +kernel
theorem dX11_as_17 : decode cX11_as 17 = .ok (.ifCond .ne 6, 3) := by decide +kernel
theorem dX11_as_20 : decode cX11_as 20 = .ok (.bipush (-3), 2) := by decide +kernel
theorem dX11_as_22 : decode cX11_as 22 = .ok (.ireturn, 1) := by decide +kernel
theorem dX11_as_23 : decode cX11_as 23 = .ok (.aload_n 0, 1) := by decide +kernel
theorem dX11_as_24 : decode cX11_as 24 = .ok (.getfield 7, 3) := by decide +kernel
theorem dX11_as_27 : decode cX11_as 27 = .ok (.bipush 6, 2) := by decide +kernel
theorem dX11_as_29 : decode cX11_as 29 = .ok (.iload_n 1, 1) := by decide +kernel
theorem dX11_as_30 : decode cX11_as 30 = .ok (.imul, 1) := by decide +kernel
theorem dX11_as_31 : decode cX11_as 31 = .ok (.iaload, 1) := by decide +kernel
theorem dX11_as_32 : decode cX11_as 32 = .ok (.istore_n 3, 1) := by decide +kernel
theorem dX11_as_33 : decode cX11_as 33 = .ok (.iload_n 2, 1) := by decide +kernel
theorem dX11_as_34 : decode cX11_as 34 = .ok (.ifCond .eq 60, 3) := by decide +kernel
theorem dX11_as_37 : decode cX11_as 37 = .ok (.iload_n 2, 1) := by decide +kernel
theorem dX11_as_38 : decode cX11_as 38 = .ok (.iconst 1, 1) := by decide +kernel
theorem dX11_as_39 : decode cX11_as 39 = .ok (.if_icmp .ne 11, 3) := by decide +kernel
theorem dX11_as_42 : decode cX11_as 42 = .ok (.iload_n 3, 1) := by decide +kernel
theorem dX11_as_43 : decode cX11_as 43 = .ok (.iconst 3, 1) := by decide +kernel
theorem dX11_as_44 : decode cX11_as 44 = .ok (.if_icmp .ge 54, 3) := by decide +kernel
theorem dX11_as_47 : decode cX11_as 47 = .ok (.goto 47, 3) := by decide +kernel
theorem dX11_as_50 : decode cX11_as 50 = .ok (.iload_n 2, 1) := by decide +kernel
theorem dX11_as_51 : decode cX11_as 51 = .ok (.iconst 2, 1) := by decide +kernel
theorem dX11_as_52 : decode cX11_as 52 = .ok (.if_icmp .ne 11, 3) := by decide +kernel
theorem dX11_as_55 : decode cX11_as 55 = .ok (.iload_n 3, 1) := by decide +kernel
theorem dX11_as_56 : decode cX11_as 56 = .ok (.iconst 2, 1) := by decide +kernel
theorem dX11_as_57 : decode cX11_as 57 = .ok (.if_icmp .ge 41, 3) := by decide +kernel
theorem dX11_as_60 : decode cX11_as 60 = .ok (.goto 34, 3) := by decide +kernel
theorem dX11_as_63 : decode cX11_as 63 = .ok (.iload_n 2, 1) := by decide +kernel
theorem dX11_as_64 : decode cX11_as 64 = .ok (.iconst 3, 1) := by decide +kernel
theorem dX11_as_65 : decode cX11_as 65 = .ok (.if_icmp .ne 11, 3) := by decide +kernel
theorem dX11_as_68 : decode cX11_as 68 = .ok (.iload_n 3, 1) := by decide +kernel
theorem dX11_as_69 : decode cX11_as 69 = .ok (.iconst 1, 1) := by decide +kernel
theorem dX11_as_70 : decode cX11_as 70 = .ok (.if_icmp .ne 28, 3) := by decide +kernel
theorem dX11_as_73 : decode cX11_as 73 = .ok (.goto 21, 3) := by decide +kernel
theorem dX11_as_76 : decode cX11_as 76 = .ok (.iload_n 2, 1) := by decide +kernel
theorem dX11_as_77 : decode cX11_as 77 = .ok (.iconst 4, 1) := by decide +kernel
theorem dX11_as_78 : decode cX11_as 78 = .ok (.if_icmp .ne 11, 3) := by decide +kernel
theorem dX11_as_81 : decode cX11_as 81 = .ok (.iload_n 3, 1) := by decide +kernel
theorem dX11_as_82 : decode cX11_as 82 = .ok (.iconst 2, 1) := by decide +kernel
theorem dX11_as_83 : decode cX11_as 83 = .ok (.if_icmp .ne 15, 3) := by decide +kernel
theorem dX11_as_86 : decode cX11_as 86 = .ok (.goto 8, 3) := by decide +kernel
theorem dX11_as_89 : decode cX11_as 89 = .ok (.iload_n 3, 1) := by decide +kernel
theorem dX11_as_90 : decode cX11_as 90 = .ok (.iconst 3, 1) := by decide +kernel
theorem dX11_as_91 : decode cX11_as 91 = .ok (.if_icmp .ne 7, 3) := by decide +kernel
theorem dX11_as_94 : decode cX11_as 94 = .ok (.iconst 1, 1) := by decide +kernel
theorem dX11_as_95 : decode cX11_as 95 = .ok (.goto 4, 3) := by decide +kernel
theorem dX11_as_98 : decode cX11_as 98 = .ok (.iconst 0, 1) := by decide +kernel
theorem dX11_as_99 : decode cX11_as 99 = .ok (.istore 4, 2) := by decide +kernel
theorem dX11_as_101 : decode cX11_as 101 = .ok (.iload 4, 2) := by decide +kernel
theorem dX11_as_103 : decode cX11_as 103 = .ok (.ifCond .eq 15, 3) := by decide +kernel
theorem dX11_as_106 : decode cX11_as 106 = .ok (.aload_n 0, 1) := by decide +kernel
theorem dX11_as_107 : decode cX11_as 107 = .ok (.iload_n 1, 1) := by decide +kernel
theorem dX11_as_108 : decode cX11_as 108 = .ok (.aload_n 0, 1) := by decide +kernel
theorem dX11_as_109 : decode cX11_as 109 = .ok (.getfield 161, 3) := by decide +kernel
theorem dX11_as_112 : decode cX11_as 112 = .ok (.invokevirtual 180, 3) := by decide +kernel
theorem dX11_as_115 : decode cX11_as 115 = .ok (.goto 5, 3) := by decide +kernel
theorem dX11_as_118 : decode cX11_as 118 = .ok (.bipush (-4), 2) := by decide +kernel
theorem dX11_as_120 : decode cX11_as 120 = .ok (.ireturn, 1) := by decide +kernel
theorem dX11_bits_0 : decode cX11_bits 0 = .ok (.iconst 0, 1) := by decide +kernel
theorem dX11_bits_1 : decode cX11_bits 1 = .ok (.istore_n 1, 1) := by decide +kernel
theorem dX11_bits_2 : decode cX11_bits 2 = .ok (.iconst 0, 1) := by decide +kernel
theorem dX11_bits_3 : decode cX11_bits 3 = .ok (.istore_n 2, 1) := by decide +kernel
theorem dX11_bits_4 : decode cX11_bits 4 = .ok (.iload_n 2, 1) := by decide +kernel
theorem dX11_bits_5 : decode cX11_bits 5 = .ok (.bipush 8, 2) := by decide +kernel
theorem dX11_bits_7 : decode cX11_bits 7 = .ok (.if_icmp .ge 17, 3) := by decide +kernel
theorem dX11_bits_10 : decode cX11_bits 10 = .ok (.iload_n 1, 1) := by decide +kernel
theorem dX11_bits_11 : decode cX11_bits 11 = .ok (.iload_n 0, 1) := by decide +kernel
theorem dX11_bits_12 : decode cX11_bits 12 = .ok (.iload_n 2, 1) := by decide +kernel
theorem dX11_bits_13 : decode cX11_bits 13 = .ok (.ishr, 1) := by decide +kernel
theorem dX11_bits_14 : decode cX11_bits 14 = .ok (.iconst 1, 1) := by decide +kernel
theorem dX11_bits_15 : decode cX11_bits 15 = .ok (.iand, 1) := by decide +kernel
theorem dX11_bits_16 : decode cX11_bits 16 = .ok (.iadd, 1) := by decide +kernel
theorem dX11_bits_17 : decode cX11_bits 17 = .ok (.istore_n 1, 1) := by decide +kernel
theorem dX11_bits_18 : decode cX11_bits 18 = .ok (.iinc 2 1, 3) := by decide +kernel
theorem dX11_bits_21 : decode cX11_bits 21 = .ok (.goto (-17), 3) := by decide +kernel
theorem dX11_bits_24 : decode cX11_bits 24 = .ok (.iload_n 1, 1) := by decide +kernel
theorem dX11_bits_25 : decode cX11_bits 25 = .ok (.ireturn, 1) := by decide +kernel
theorem dX11_poundsOfAll_0 : decode cX11_poundsOfAll 0 = .ok (.iconst 0, 1) := by decide +kernel
theorem dX11_poundsOfAll_1 : decode cX11_poundsOfAll 1 = .ok (.istore_n 3, 1) := by decide +kernel
theorem dX11_poundsOfAll_2 : decode cX11_poundsOfAll 2 = .ok (.iconst 0, 1) := by decide +kernel
theorem dX11_poundsOfAll_3 : decode cX11_poundsOfAll 3 = .ok (.istore 4, 2) := by decide +kernel
theorem dX11_poundsOfAll_5 : decode cX11_poundsOfAll 5 = .ok (.iload 4, 2) := by decide +kernel
theorem dX11_poundsOfAll_7 : decode cX11_poundsOfAll 7 = .ok (.aload_n 0, 1) := by decide +kernel
theorem dX11_poundsOfAll_8 : decode cX11_poundsOfAll 8 = .ok (.getfield 47, 3) := by decide +kernel
theorem dX11_poundsOfAll_11 : decode cX11_poundsOfAll 11 = .ok (.if_icmp .ge 32, 3) := by decide +kernel
theorem dX11_poundsOfAll_14 : decode cX11_poundsOfAll 14 = .ok (.iload_n 3, 1) := by decide +kernel
theorem dX11_poundsOfAll_15 : decode cX11_poundsOfAll 15 = .ok (.iload_n 1, 1) := by decide +kernel
theorem dX11_poundsOfAll_16 : decode cX11_poundsOfAll 16 = .ok (.iload 4, 2) := by decide +kernel
theorem dX11_poundsOfAll_18 : decode cX11_poundsOfAll 18 = .ok (.invokestatic 173, 3) := by decide +kernel
theorem dX11_poundsOfAll_21 : decode cX11_poundsOfAll 21 = .ok (.ifCond .eq 13, 3) := by decide +kernel
theorem dX11_poundsOfAll_24 : decode cX11_poundsOfAll 24 = .ok (.aload_n 0, 1) := by decide +kernel
theorem dX11_poundsOfAll_25 : decode cX11_poundsOfAll 25 = .ok (.iload 4, 2) := by decide +kernel
theorem dX11_poundsOfAll_27 : decode cX11_poundsOfAll 27 = .ok (.iload_n 2, 1) := by decide +kernel
theorem dX11_poundsOfAll_28 : decode cX11_poundsOfAll 28 = .ok (.invokevirtual 180, 3) := by decide +kernel
theorem dX11_poundsOfAll_31 : decode cX11_poundsOfAll 31 = .ok (.goto 4, 3) := by decide +kernel
theorem dX11_poundsOfAll_34 : decode cX11_poundsOfAll 34 = .ok (.iconst 0, 1) := by decide +kernel
theorem dX11_poundsOfAll_35 : decode cX11_poundsOfAll 35 = .ok (.iadd, 1) := by decide +kernel
theorem dX11_poundsOfAll_36 : decode cX11_poundsOfAll 36 = .ok (.istore_n 3, 1) := by decide +kernel
theorem dX11_poundsOfAll_37 : decode cX11_poundsOfAll 37 = .ok (.iinc 4 1, 3) := by decide +kernel
theorem dX11_poundsOfAll_40 : decode cX11_poundsOfAll 40 = .ok (.goto (-35), 3) := by decide +kernel
theorem dX11_poundsOfAll_43 : decode cX11_poundsOfAll 43 = .ok (.iload_n 3, 1) := by decide +kernel
theorem dX11_poundsOfAll_44 : decode cX11_poundsOfAll 44 = .ok (.ireturn, 1) := by decide +kernel
theorem dX11_canBoard_0 : decode cX11_canBoard 0 = .ok (.iconst 0, 1) := by decide +kernel
theorem dX11_canBoard_1 : decode cX11_canBoard 1 = .ok (.istore 5, 2) := by decide +kernel
theorem dX11_canBoard_3 : decode cX11_canBoard 3 = .ok (.iconst 0, 1) := by decide +kernel
theorem dX11_canBoard_4 : decode cX11_canBoard 4 = .ok (.istore 6, 2) := by decide +kernel
theorem dX11_canBoard_6 : decode cX11_canBoard 6 = .ok (.iload 6, 2) := by decide +kernel
theorem dX11_canBoard_8 : decode cX11_canBoard 8 = .ok (.aload_n 0, 1) := by decide +kernel
theorem dX11_canBoard_9 : decode cX11_canBoard 9 = .ok (.getfield 47, 3) := by decide +kernel
theorem dX11_canBoard_12 : decode cX11_canBoard 12 = .ok (.if_icmp .ge 43, 3) := by decide +kernel
theorem dX11_canBoard_15 : decode cX11_canBoard 15 = .ok (.iload 5, 2) := by decide +kernel
theorem dX11_canBoard_17 : decode cX11_canBoard 17 = .ok (.ifCond .ne 25, 3) := by decide +kernel
theorem dX11_canBoard_20 : decode cX11_canBoard 20 = .ok (.iload_n 2, 1) := by decide +kernel
theorem dX11_canBoard_21 : decode cX11_canBoard 21 = .ok (.iload 6, 2) := by decide +kernel
theorem dX11_canBoard_23 : decode cX11_canBoard 23 = .ok (.invokestatic 173, 3) := by decide +kernel
theorem dX11_canBoard_26 : decode cX11_canBoard 26 = .ok (.ifCond .eq 20, 3) := by decide +kernel
theorem dX11_canBoard_29 : decode cX11_canBoard 29 = .ok (.aload_n 0, 1) := by decide +kernel
theorem dX11_canBoard_30 : decode cX11_canBoard 30 = .ok (.getfield 7, 3) := by decide +kernel
theorem dX11_canBoard_33 : decode cX11_canBoard 33 = .ok (.bipush 6, 2) := by decide +kernel
theorem dX11_canBoard_35 : decode cX11_canBoard 35 = .ok (.iload 6, 2) := by decide +kernel
theorem dX11_canBoard_37 : decode cX11_canBoard 37 = .ok (.imul, 1) := by decide +kernel
theorem dX11_canBoard_38 : decode cX11_canBoard 38 = .ok (.iaload, 1) := by decide +kernel
theorem dX11_canBoard_39 : decode cX11_canBoard 39 = .ok (.ifCond .ne 7, 3) := by decide +kernel
theorem dX11_canBoard_42 : decode cX11_canBoard 42 = .ok (.iconst 1, 1) := by decide +kernel
theorem dX11_canBoard_43 : decode cX11_canBoard 43 = .ok (.goto 4, 3) := by decide +kernel
theorem dX11_canBoard_46 : decode cX11_canBoard 46 = .ok (.iconst 0, 1) := by decide +kernel
theorem dX11_canBoard_47 : decode cX11_canBoard 47 = .ok (.istore 5, 2) := by decide +kernel
theorem dX11_canBoard_49 : decode cX11_canBoard 49 = .ok (.iinc 6 1, 3) := by decide +kernel
theorem dX11_canBoard_52 : decode cX11_canBoard 52 = .ok (.goto (-46), 3) := by decide +kernel
theorem dX11_canBoard_55 : decode cX11_canBoard 55 = .ok (.iload 5, 2) := by decide +kernel
theorem dX11_canBoard_57 : decode cX11_canBoard 57 = .ok (.ifCond .eq 33, 3) := by decide +kernel
theorem dX11_canBoard_60 : decode cX11_canBoard 60 = .ok (.iload 4, 2) := by decide +kernel
theorem dX11_canBoard_62 : decode cX11_canBoard 62 = .ok (.iload_n 1, 1) := by decide +kernel
theorem dX11_canBoard_63 : decode cX11_canBoard 63 = .ok (.invokestatic 173, 3) := by decide +kernel
theorem dX11_canBoard_66 : decode cX11_canBoard 66 = .ok (.ifCond .eq 14, 3) := by decide +kernel
theorem dX11_canBoard_69 : decode cX11_canBoard 69 = .ok (.iload_n 2, 1) := by decide +kernel
theorem dX11_canBoard_70 : decode cX11_canBoard 70 = .ok (.iload_n 3, 1) := by decide +kernel
theorem dX11_canBoard_71 : decode cX11_canBoard 71 = .ok (.iconst (-1), 1) := by decide +kernel
theorem dX11_canBoard_72 : decode cX11_canBoard 72 = .ok (.ixor, 1) := by decide +kernel
theorem dX11_canBoard_73 : decode cX11_canBoard 73 = .ok (.iand, 1) := by decide +kernel
theorem dX11_canBoard_74 : decode cX11_canBoard 74 = .ok (.ifCond .ne 16, 3) := by decide +kernel
theorem dX11_canBoard_77 : decode cX11_canBoard 77 = .ok (.goto 9, 3) := by decide +kernel
theorem dX11_canBoard_80 : decode cX11_canBoard 80 = .ok (.iload_n 2, 1) := by decide +kernel
theorem dX11_canBoard_81 : decode cX11_canBoard 81 = .ok (.iload_n 3, 1) := by decide +kernel
theorem dX11_canBoard_82 : decode cX11_canBoard 82 = .ok (.iand, 1) := by decide +kernel
theorem dX11_canBoard_83 : decode cX11_canBoard 83 = .ok (.ifCond .ne 7, 3) := by decide +kernel
theorem dX11_canBoard_86 : decode cX11_canBoard 86 = .ok (.iconst 1, 1) := by decide +kernel
theorem dX11_canBoard_87 : decode cX11_canBoard 87 = .ok (.goto 4, 3) := by decide +kernel
theorem dX11_canBoard_90 : decode cX11_canBoard 90 = .ok (.iconst 0, 1) := by decide +kernel
theorem dX11_canBoard_91 : decode cX11_canBoard 91 = .ok (.ireturn, 1) := by decide +kernel
theorem dX11_fitsBy_0 : decode cX11_fitsBy 0 = .ok (.iload_n 2, 1) := by decide +kernel
theorem dX11_fitsBy_1 : decode cX11_fitsBy 1 = .ok (.aload_n 0, 1) := by decide +kernel
theorem dX11_fitsBy_2 : decode cX11_fitsBy 2 = .ok (.iload_n 1, 1) := by decide +kernel
theorem dX11_fitsBy_3 : decode cX11_fitsBy 3 = .ok (.invokevirtual 187, 3) := by decide +kernel
theorem dX11_fitsBy_6 : decode cX11_fitsBy 6 = .ok (.isub, 1) := by decide +kernel
theorem dX11_fitsBy_7 : decode cX11_fitsBy 7 = .ok (.istore 4, 2) := by decide +kernel
theorem dX11_fitsBy_9 : decode cX11_fitsBy 9 = .ok (.iload 4, 2) := by decide +kernel
theorem dX11_fitsBy_11 : decode cX11_fitsBy 11 = .ok (.ifCond .ge 9, 3) := by decide +kernel
theorem dX11_fitsBy_14 : decode cX11_fitsBy 14 = .ok (.iload 4, 2) := by decide +kernel
theorem dX11_fitsBy_16 : decode cX11_fitsBy 16 = .ok (.ineg, 1) := by decide +kernel
theorem dX11_fitsBy_17 : decode cX11_fitsBy 17 = .ok (.goto 5, 3) := by decide +kernel
theorem dX11_fitsBy_20 : decode cX11_fitsBy 20 = .ok (.iload 4, 2) := by decide +kernel
theorem dX11_fitsBy_22 : decode cX11_fitsBy 22 = .ok (.iload_n 3, 1) := by decide +kernel
theorem dX11_fitsBy_23 : decode cX11_fitsBy 23 = .ok (.iadd, 1) := by decide +kernel
theorem dX11_fitsBy_24 : decode cX11_fitsBy 24 = .ok (.aload_n 0, 1) := by decide +kernel
theorem dX11_fitsBy_25 : decode cX11_fitsBy 25 = .ok (.getfield 13, 3) := by decide +kernel
theorem dX11_fitsBy_28 : decode cX11_fitsBy 28 = .ok (.iconst 5, 1) := by decide +kernel
theorem dX11_fitsBy_29 : decode cX11_fitsBy 29 = .ok (.iload_n 1, 1) := by decide +kernel
theorem dX11_fitsBy_30 : decode cX11_fitsBy 30 = .ok (.imul, 1) := by decide +kernel
theorem dX11_fitsBy_31 : decode cX11_fitsBy 31 = .ok (.iaload, 1) := by decide +kernel
theorem dX11_fitsBy_32 : decode cX11_fitsBy 32 = .ok (.iconst 1, 1) := by decide +kernel
theorem dX11_fitsBy_33 : decode cX11_fitsBy 33 = .ok (.if_icmp .ne 7, 3) := by decide +kernel
theorem dX11_fitsBy_36 : decode cX11_fitsBy 36 = .ok (.iconst 1, 1) := by decide +kernel
theorem dX11_fitsBy_37 : decode cX11_fitsBy 37 = .ok (.goto 4, 3) := by decide +kernel
theorem dX11_fitsBy_40 : decode cX11_fitsBy 40 = .ok (.iconst 0, 1) := by decide +kernel
theorem dX11_fitsBy_41 : decode cX11_fitsBy 41 = .ok (.if_icmp .gt 7, 3) := by decide +kernel
theorem dX11_fitsBy_44 : decode cX11_fitsBy 44 = .ok (.iconst 1, 1) := by decide +kernel
theorem dX11_fitsBy_45 : decode cX11_fitsBy 45 = .ok (.goto 4, 3) := by decide +kernel
theorem dX11_fitsBy_48 : decode cX11_fitsBy 48 = .ok (.iconst 0, 1) := by decide +kernel
theorem dX11_fitsBy_49 : decode cX11_fitsBy 49 = .ok (.ireturn, 1) := by decide +kernel
theorem dX11_isRight_0 : decode cX11_isRight 0 = .ok (.aload_n 0, 1) := by decide +kernel
theorem dX11_isRight_1 : decode cX11_isRight 1 = .ok (.iload_n 1, 1) := by decide +kernel
theorem dX11_isRight_2 : decode cX11_isRight 2 = .ok (.iload_n 2, 1) := by decide +kernel
theorem dX11_isRight_3 : decode cX11_isRight 3 = .ok (.iload_n 3, 1) := by decide +kernel
theorem dX11_isRight_4 : decode cX11_isRight 4 = .ok (.iload 4, 2) := by decide +kernel
theorem dX11_isRight_6 : decode cX11_isRight 6 = .ok (.invokevirtual 191, 3) := by decide +kernel
theorem dX11_isRight_9 : decode cX11_isRight 9 = .ok (.ifCond .eq 40, 3) := by decide +kernel
theorem dX11_isRight_12 : decode cX11_isRight 12 = .ok (.iload_n 2, 1) := by decide +kernel
theorem dX11_isRight_13 : decode cX11_isRight 13 = .ok (.invokestatic 195, 3) := by decide +kernel
theorem dX11_isRight_16 : decode cX11_isRight 16 = .ok (.aload_n 0, 1) := by decide +kernel
theorem dX11_isRight_17 : decode cX11_isRight 17 = .ok (.getfield 13, 3) := by decide +kernel
theorem dX11_isRight_20 : decode cX11_isRight 20 = .ok (.iconst 5, 1) := by decide +kernel
theorem dX11_isRight_21 : decode cX11_isRight 21 = .ok (.iload_n 1, 1) := by decide +kernel
theorem dX11_isRight_22 : decode cX11_isRight 22 = .ok (.imul, 1) := by decide +kernel
theorem dX11_isRight_23 : decode cX11_isRight 23 = .ok (.iconst 3, 1) := by decide +kernel
theorem dX11_isRight_24 : decode cX11_isRight 24 = .ok (.iadd, 1) := by decide +kernel
theorem dX11_isRight_25 : decode cX11_isRight 25 = .ok (.iaload, 1) := by decide +kernel
theorem dX11_isRight_26 : decode cX11_isRight 26 = .ok (.if_icmp .gt 23, 3) := by decide +kernel
theorem dX11_isRight_29 : decode cX11_isRight 29 = .ok (.aload_n 0, 1) := by decide +kernel
theorem dX11_isRight_30 : decode cX11_isRight 30 = .ok (.iload_n 1, 1) := by decide +kernel
theorem dX11_isRight_31 : decode cX11_isRight 31 = .ok (.aload_n 0, 1) := by decide +kernel
theorem dX11_isRight_32 : decode cX11_isRight 32 = .ok (.iload_n 2, 1) := by decide +kernel
theorem dX11_isRight_33 : decode cX11_isRight 33 = .ok (.iload 5, 2) := by decide +kernel
theorem dX11_isRight_35 : decode cX11_isRight 35 = .ok (.invokevirtual 198, 3) := by decide +kernel
theorem dX11_isRight_38 : decode cX11_isRight 38 = .ok (.iconst 0, 1) := by decide +kernel
theorem dX11_isRight_39 : decode cX11_isRight 39 = .ok (.invokevirtual 201, 3) := by decide +kernel
theorem dX11_isRight_42 : decode cX11_isRight 42 = .ok (.ifCond .eq 7, 3) := by decide +kernel
theorem dX11_isRight_45 : decode cX11_isRight 45 = .ok (.iconst 1, 1) := by decide +kernel
theorem dX11_isRight_46 : decode cX11_isRight 46 = .ok (.goto 4, 3) := by decide +kernel
theorem dX11_isRight_49 : decode cX11_isRight 49 = .ok (.iconst 0, 1) := by decide +kernel
theorem dX11_isRight_50 : decode cX11_isRight 50 = .ok (.ireturn, 1) := by decide +kernel
theorem dX11_right_0 : decode cX11_right 0 = .ok (.aload_n 0, 1) := by decide +kernel
theorem dX11_right_1 : decode cX11_right 1 = .ok (.iload_n 1, 1) := by decide +kernel
theorem dX11_right_2 : decode cX11_right 2 = .ok (.invokevirtual 184, 3) := by decide +kernel
theorem dX11_right_5 : decode cX11_right 5 = .ok (.ifCond .eq 11, 3) := by decide +kernel
theorem dX11_right_8 : decode cX11_right 8 = .ok (.aload_n 0, 1) := by decide +kernel
theorem dX11_right_9 : decode cX11_right 9 = .ok (.iload_n 2, 1) := by decide +kernel
theorem dX11_right_10 : decode cX11_right 10 = .ok (.invokevirtual 204, 3) := by decide +kernel
theorem dX11_right_13 : decode cX11_right 13 = .ok (.ifCond .ne 6, 3) := by decide +kernel
theorem dX11_right_16 : decode cX11_right 16 = .ok (.bipush (-2), 2) := by decide +kernel
theorem dX11_right_18 : decode cX11_right 18 = .ok (.ireturn, 1) := by decide +kernel
theorem dX11_right_19 : decode cX11_right 19 = .ok (.aload_n 0, 1) := by decide +kernel
theorem dX11_right_20 : decode cX11_right 20 = .ok (.iload_n 1, 1) := by decide +kernel
theorem dX11_right_21 : decode cX11_right 21 = .ok (.iload_n 2, 1) := by decide +kernel
theorem dX11_right_22 : decode cX11_right 22 = .ok (.aload_n 0, 1) := by decide +kernel
theorem dX11_right_23 : decode cX11_right 23 = .ok (.getfield 155, 3) := by decide +kernel
theorem dX11_right_26 : decode cX11_right 26 = .ok (.aload_n 0, 1) := by decide +kernel
theorem dX11_right_27 : decode cX11_right 27 = .ok (.getfield 158, 3) := by decide +kernel
theorem dX11_right_30 : decode cX11_right 30 = .ok (.aload_n 0, 1) := by decide +kernel
theorem dX11_right_31 : decode cX11_right 31 = .ok (.getfield 161, 3) := by decide +kernel
theorem dX11_right_34 : decode cX11_right 34 = .ok (.invokevirtual 207, 3) := by decide +kernel
theorem dX11_right_37 : decode cX11_right 37 = .ok (.ifCond .eq 7, 3) := by decide +kernel
theorem dX11_right_40 : decode cX11_right 40 = .ok (.iconst 1, 1) := by decide +kernel
theorem dX11_right_41 : decode cX11_right 41 = .ok (.goto 4, 3) := by decide +kernel
theorem dX11_right_44 : decode cX11_right 44 = .ok (.iconst 0, 1) := by decide +kernel
theorem dX11_right_45 : decode cX11_right 45 = .ok (.ireturn, 1) := by decide +kernel
theorem dX11_cross_0 : decode cX11_cross 0 = .ok (.aload_n 0, 1) := by decide +kernel
theorem dX11_cross_1 : decode cX11_cross 1 = .ok (.iload_n 1, 1) := by decide +kernel
theorem dX11_cross_2 : decode cX11_cross 2 = .ok (.invokevirtual 184, 3) := by decide +kernel
theorem dX11_cross_5 : decode cX11_cross 5 = .ok (.ifCond .eq 11, 3) := by decide +kernel
theorem dX11_cross_8 : decode cX11_cross 8 = .ok (.aload_n 0, 1) := by decide +kernel
theorem dX11_cross_9 : decode cX11_cross 9 = .ok (.iload_n 2, 1) := by decide +kernel
theorem dX11_cross_10 : decode cX11_cross 10 = .ok (.invokevirtual 204, 3) := by decide +kernel
theorem dX11_cross_13 : decode cX11_cross 13 = .ok (.ifCond .ne 6, 3) := by decide +kernel
theorem dX11_cross_16 : decode cX11_cross 16 = .ok (.bipush (-2), 2) := by decide +kernel
theorem dX11_cross_18 : decode cX11_cross 18 = .ok (.ireturn, 1) := by decide +kernel
theorem dX11_cross_19 : decode cX11_cross 19 = .ok (.aload_n 0, 1) := by decide +kernel
theorem dX11_cross_20 : decode cX11_cross 20 = .ok (.iload_n 1, 1) := by decide +kernel
theorem dX11_cross_21 : decode cX11_cross 21 = .ok (.iload_n 2, 1) := by decide +kernel
theorem dX11_cross_22 : decode cX11_cross 22 = .ok (.aload_n 0, 1) := by decide +kernel
theorem dX11_cross_23 : decode cX11_cross 23 = .ok (.getfield 155, 3) := by decide +kernel
theorem dX11_cross_26 : decode cX11_cross 26 = .ok (.aload_n 0, 1) := by decide +kernel
theorem dX11_cross_27 : decode cX11_cross 27 = .ok (.getfield 158, 3) := by decide +kernel
theorem dX11_cross_30 : decode cX11_cross 30 = .ok (.aload_n 0, 1) := by decide +kernel
theorem dX11_cross_31 : decode cX11_cross 31 = .ok (.getfield 161, 3) := by decide +kernel
theorem dX11_cross_34 : decode cX11_cross 34 = .ok (.invokevirtual 207, 3) := by decide +kernel
theorem dX11_cross_37 : decode cX11_cross 37 = .ok (.ifCond .ne 6, 3) := by decide +kernel
theorem dX11_cross_40 : decode cX11_cross 40 = .ok (.bipush (-4), 2) := by decide +kernel
theorem dX11_cross_42 : decode cX11_cross 42 = .ok (.ireturn, 1) := by decide +kernel
theorem dX11_cross_43 : decode cX11_cross 43 = .ok (.aload_n 0, 1) := by decide +kernel
theorem dX11_cross_44 : decode cX11_cross 44 = .ok (.aload_n 0, 1) := by decide +kernel
theorem dX11_cross_45 : decode cX11_cross 45 = .ok (.getfield 155, 3) := by decide +kernel
theorem dX11_cross_48 : decode cX11_cross 48 = .ok (.iload_n 2, 1) := by decide +kernel
theorem dX11_cross_49 : decode cX11_cross 49 = .ok (.ixor, 1) := by decide +kernel
theorem dX11_cross_50 : decode cX11_cross 50 = .ok (.putfield 155, 3) := by decide +kernel
theorem dX11_cross_53 : decode cX11_cross 53 = .ok (.aload_n 0, 1) := by decide +kernel
theorem dX11_cross_54 : decode cX11_cross 54 = .ok (.aload_n 0, 1) := by decide +kernel
theorem dX11_cross_55 : decode cX11_cross 55 = .ok (.getfield 158, 3) := by decide +kernel
theorem dX11_cross_58 : decode cX11_cross 58 = .ok (.iconst 1, 1) := by decide +kernel
theorem dX11_cross_59 : decode cX11_cross 59 = .ok (.iload_n 1, 1) := by decide +kernel
theorem dX11_cross_60 : decode cX11_cross 60 = .ok (.ishl, 1) := by decide +kernel
theorem dX11_cross_61 : decode cX11_cross 61 = .ok (.ixor, 1) := by decide +kernel
theorem dX11_cross_62 : decode cX11_cross 62 = .ok (.putfield 158, 3) := by decide +kernel
theorem dX11_cross_65 : decode cX11_cross 65 = .ok (.aload_n 0, 1) := by decide +kernel
theorem dX11_cross_66 : decode cX11_cross 66 = .ok (.dup, 1) := by decide +kernel
theorem dX11_cross_67 : decode cX11_cross 67 = .ok (.getfield 167, 3) := by decide +kernel
theorem dX11_cross_70 : decode cX11_cross 70 = .ok (.iconst 1, 1) := by decide +kernel
theorem dX11_cross_71 : decode cX11_cross 71 = .ok (.iadd, 1) := by decide +kernel
theorem dX11_cross_72 : decode cX11_cross 72 = .ok (.putfield 167, 3) := by decide +kernel
theorem dX11_cross_75 : decode cX11_cross 75 = .ok (.aload_n 0, 1) := by decide +kernel
theorem dX11_cross_76 : decode cX11_cross 76 = .ok (.getfield 167, 3) := by decide +kernel
theorem dX11_cross_79 : decode cX11_cross 79 = .ok (.ireturn, 1) := by decide +kernel
theorem dX11_doff_0 : decode cX11_doff 0 = .ok (.aload_n 0, 1) := by decide +kernel
theorem dX11_doff_1 : decode cX11_doff 1 = .ok (.iload_n 1, 1) := by decide +kernel
theorem dX11_doff_2 : decode cX11_doff 2 = .ok (.invokevirtual 177, 3) := by decide +kernel
theorem dX11_doff_5 : decode cX11_doff 5 = .ok (.ifCond .ne 6, 3) := by decide +kernel
theorem dX11_doff_8 : decode cX11_doff 8 = .ok (.bipush (-2), 2) := by decide +kernel
theorem dX11_doff_10 : decode cX11_doff 10 = .ok (.ireturn, 1) := by decide +kernel
theorem dX11_doff_11 : decode cX11_doff 11 = .ok (.aload_n 0, 1) := by decide +kernel
theorem dX11_doff_12 : decode cX11_doff 12 = .ok (.getfield 7, 3) := by decide +kernel
theorem dX11_doff_15 : decode cX11_doff 15 = .ok (.bipush 6, 2) := by decide +kernel
theorem dX11_doff_17 : decode cX11_doff 17 = .ok (.iload_n 1, 1) := by decide +kernel
theorem dX11_doff_18 : decode cX11_doff 18 = .ok (.imul, 1) := by decide +kernel
theorem dX11_doff_19 : decode cX11_doff 19 = .ok (.iaload, 1) := by decide +kernel
theorem dX11_doff_20 : decode cX11_doff 20 = .ok (.iconst 1, 1) := by decide +kernel
theorem dX11_doff_21 : decode cX11_doff 21 = .ok (.if_icmp .le 6, 3) := by decide +kernel
theorem dX11_doff_24 : decode cX11_doff 24 = .ok (.bipush (-4), 2) := by decide +kernel
theorem dX11_doff_26 : decode cX11_doff 26 = .ok (.ireturn, 1) := by decide +kernel
theorem dX11_doff_27 : decode cX11_doff 27 = .ok (.aload_n 0, 1) := by decide +kernel
theorem dX11_doff_28 : decode cX11_doff 28 = .ok (.aload_n 0, 1) := by decide +kernel
theorem dX11_doff_29 : decode cX11_doff 29 = .ok (.getfield 161, 3) := by decide +kernel
theorem dX11_doff_32 : decode cX11_doff 32 = .ok (.iconst 1, 1) := by decide +kernel
theorem dX11_doff_33 : decode cX11_doff 33 = .ok (.iload_n 1, 1) := by decide +kernel
theorem dX11_doff_34 : decode cX11_doff 34 = .ok (.ishl, 1) := by decide +kernel
theorem dX11_doff_35 : decode cX11_doff 35 = .ok (.ixor, 1) := by decide +kernel
theorem dX11_doff_36 : decode cX11_doff 36 = .ok (.putfield 161, 3) := by decide +kernel
theorem dX11_doff_39 : decode cX11_doff 39 = .ok (.aload_n 0, 1) := by decide +kernel
theorem dX11_doff_40 : decode cX11_doff 40 = .ok (.iload_n 1, 1) := by decide +kernel
theorem dX11_doff_41 : decode cX11_doff 41 = .ok (.aload_n 0, 1) := by decide +kernel
theorem dX11_doff_42 : decode cX11_doff 42 = .ok (.getfield 161, 3) := by decide +kernel
theorem dX11_doff_45 : decode cX11_doff 45 = .ok (.invokevirtual 180, 3) := by decide +kernel
theorem dX11_doff_48 : decode cX11_doff 48 = .ok (.ireturn, 1) := by decide +kernel
theorem dX11_noon_0 : decode cX11_noon 0 = .ok (.aload_n 0, 1) := by decide +kernel
theorem dX11_noon_1 : decode cX11_noon 1 = .ok (.iconst 1, 1) := by decide +kernel
theorem dX11_noon_2 : decode cX11_noon 2 = .ok (.aload_n 0, 1) := by decide +kernel
theorem dX11_noon_3 : decode cX11_noon 3 = .ok (.getfield 164, 3) := by decide +kernel
theorem dX11_noon_6 : decode cX11_noon 6 = .ok (.isub, 1) := by decide +kernel
theorem dX11_noon_7 : decode cX11_noon 7 = .ok (.putfield 164, 3) := by decide +kernel
theorem dX11_noon_10 : decode cX11_noon 10 = .ok (.aload_n 0, 1) := by decide +kernel
theorem dX11_noon_11 : decode cX11_noon 11 = .ok (.getfield 164, 3) := by decide +kernel
theorem dX11_noon_14 : decode cX11_noon 14 = .ok (.ireturn, 1) := by decide +kernel
theorem dX11_keep_0 : decode cX11_keep 0 = .ok (.iload_n 1, 1) := by decide +kernel
theorem dX11_keep_1 : decode cX11_keep 1 = .ok (.iconst 0, 1) := by decide +kernel
theorem dX11_keep_2 : decode cX11_keep 2 = .ok (.iconst 1, 1) := by decide +kernel
theorem dX11_keep_3 : decode cX11_keep 3 = .ok (.invokestatic 51, 3) := by decide +kernel
theorem dX11_keep_6 : decode cX11_keep 6 = .ok (.ifCond .ne 6, 3) := by decide +kernel
theorem dX11_keep_9 : decode cX11_keep 9 = .ok (.bipush (-2), 2) := by decide +kernel
theorem dX11_keep_11 : decode cX11_keep 11 = .ok (.ireturn, 1) := by decide +kernel
theorem dX11_keep_12 : decode cX11_keep 12 = .ok (.aload_n 0, 1) := by decide +kernel
theorem dX11_keep_13 : decode cX11_keep 13 = .ok (.getfield 25, 3) := by decide +kernel
theorem dX11_keep_16 : decode cX11_keep 16 = .ok (.iconst 5, 1) := by decide +kernel
theorem dX11_keep_17 : decode cX11_keep 17 = .ok (.iload_n 1, 1) := by decide +kernel
theorem dX11_keep_18 : decode cX11_keep 18 = .ok (.imul, 1) := by decide +kernel
theorem dX11_keep_19 : decode cX11_keep 19 = .ok (.aload_n 0, 1) := by decide +kernel
theorem dX11_keep_20 : decode cX11_keep 20 = .ok (.getfield 155, 3) := by decide +kernel
theorem dX11_keep_23 : decode cX11_keep 23 = .ok (.iastore, 1) := by decide +kernel
theorem dX11_keep_24 : decode cX11_keep 24 = .ok (.aload_n 0, 1) := by decide +kernel
theorem dX11_keep_25 : decode cX11_keep 25 = .ok (.getfield 25, 3) := by decide +kernel
theorem dX11_keep_28 : decode cX11_keep 28 = .ok (.iconst 5, 1) := by decide +kernel
theorem dX11_keep_29 : decode cX11_keep 29 = .ok (.iload_n 1, 1) := by decide +kernel
theorem dX11_keep_30 : decode cX11_keep 30 = .ok (.imul, 1) := by decide +kernel
theorem dX11_keep_31 : decode cX11_keep 31 = .ok (.iconst 1, 1) := by decide +kernel
theorem dX11_keep_32 : decode cX11_keep 32 = .ok (.iadd, 1) := by decide +kernel
theorem dX11_keep_33 : decode cX11_keep 33 = .ok (.aload_n 0, 1) := by decide +kernel
theorem dX11_keep_34 : decode cX11_keep 34 = .ok (.getfield 158, 3) := by decide +kernel
theorem dX11_keep_37 : decode cX11_keep 37 = .ok (.iastore, 1) := by decide +kernel
theorem dX11_keep_38 : decode cX11_keep 38 = .ok (.aload_n 0, 1) := by decide +kernel
theorem dX11_keep_39 : decode cX11_keep 39 = .ok (.getfield 25, 3) := by decide +kernel
theorem dX11_keep_42 : decode cX11_keep 42 = .ok (.iconst 5, 1) := by decide +kernel
theorem dX11_keep_43 : decode cX11_keep 43 = .ok (.iload_n 1, 1) := by decide +kernel
theorem dX11_keep_44 : decode cX11_keep 44 = .ok (.imul, 1) := by decide +kernel
theorem dX11_keep_45 : decode cX11_keep 45 = .ok (.iconst 2, 1) := by decide +kernel
theorem dX11_keep_46 : decode cX11_keep 46 = .ok (.iadd, 1) := by decide +kernel
theorem dX11_keep_47 : decode cX11_keep 47 = .ok (.aload_n 0, 1) := by decide +kernel
theorem dX11_keep_48 : decode cX11_keep 48 = .ok (.getfield 161, 3) := by decide +kernel
theorem dX11_keep_51 : decode cX11_keep 51 = .ok (.iastore, 1) := by decide +kernel
theorem dX11_keep_52 : decode cX11_keep 52 = .ok (.aload_n 0, 1) := by decide +kernel
theorem dX11_keep_53 : decode cX11_keep 53 = .ok (.getfield 25, 3) := by decide +kernel
theorem dX11_keep_56 : decode cX11_keep 56 = .ok (.iconst 5, 1) := by decide +kernel
theorem dX11_keep_57 : decode cX11_keep 57 = .ok (.iload_n 1, 1) := by decide +kernel
theorem dX11_keep_58 : decode cX11_keep 58 = .ok (.imul, 1) := by decide +kernel
theorem dX11_keep_59 : decode cX11_keep 59 = .ok (.iconst 3, 1) := by decide +kernel
theorem dX11_keep_60 : decode cX11_keep 60 = .ok (.iadd, 1) := by decide +kernel
theorem dX11_keep_61 : decode cX11_keep 61 = .ok (.aload_n 0, 1) := by decide +kernel
theorem dX11_keep_62 : decode cX11_keep 62 = .ok (.getfield 164, 3) := by decide +kernel
theorem dX11_keep_65 : decode cX11_keep 65 = .ok (.iastore, 1) := by decide +kernel
theorem dX11_keep_66 : decode cX11_keep 66 = .ok (.aload_n 0, 1) := by decide +kernel
theorem dX11_keep_67 : decode cX11_keep 67 = .ok (.getfield 25, 3) := by decide +kernel
theorem dX11_keep_70 : decode cX11_keep 70 = .ok (.iconst 5, 1) := by decide +kernel
theorem dX11_keep_71 : decode cX11_keep 71 = .ok (.iload_n 1, 1) := by decide +kernel
theorem dX11_keep_72 : decode cX11_keep 72 = .ok (.imul, 1) := by decide +kernel
theorem dX11_keep_73 : decode cX11_keep 73 = .ok (.iconst 4, 1) := by decide +kernel
theorem dX11_keep_74 : decode cX11_keep 74 = .ok (.iadd, 1) := by decide +kernel
theorem dX11_keep_75 : decode cX11_keep 75 = .ok (.aload_n 0, 1) := by decide +kernel
theorem dX11_keep_76 : decode cX11_keep 76 = .ok (.getfield 167, 3) := by decide +kernel
theorem dX11_keep_79 : decode cX11_keep 79 = .ok (.iastore, 1) := by decide +kernel
theorem dX11_keep_80 : decode cX11_keep 80 = .ok (.aload_n 0, 1) := by decide +kernel
theorem dX11_keep_81 : decode cX11_keep 81 = .ok (.getfield 28, 3) := by decide +kernel
theorem dX11_keep_84 : decode cX11_keep 84 = .ok (.iload_n 1, 1) := by decide +kernel
theorem dX11_keep_85 : decode cX11_keep 85 = .ok (.iconst 1, 1) := by decide +kernel
theorem dX11_keep_86 : decode cX11_keep 86 = .ok (.bastore, 1) := by decide +kernel
theorem dX11_keep_87 : decode cX11_keep 87 = .ok (.aload_n 0, 1) := by decide +kernel
theorem dX11_keep_88 : decode cX11_keep 88 = .ok (.getfield 167, 3) := by decide +kernel
theorem dX11_keep_91 : decode cX11_keep 91 = .ok (.ireturn, 1) := by decide +kernel
theorem dX11_back_0 : decode cX11_back 0 = .ok (.iload_n 1, 1) := by decide +kernel
theorem dX11_back_1 : decode cX11_back 1 = .ok (.iconst 0, 1) := by decide +kernel
theorem dX11_back_2 : decode cX11_back 2 = .ok (.iconst 1, 1) := by decide +kernel
theorem dX11_back_3 : decode cX11_back 3 = .ok (.invokestatic 51, 3) := by decide +kernel
theorem dX11_back_6 : decode cX11_back 6 = .ok (.ifCond .ne 6, 3) := by decide +kernel
theorem dX11_back_9 : decode cX11_back 9 = .ok (.bipush (-2), 2) := by decide +kernel
theorem dX11_back_11 : decode cX11_back 11 = .ok (.ireturn, 1) := by decide +kernel
theorem dX11_back_12 : decode cX11_back 12 = .ok (.aload_n 0, 1) := by decide +kernel
theorem dX11_back_13 : decode cX11_back 13 = .ok (.getfield 28, 3) := by decide +kernel
theorem dX11_back_16 : decode cX11_back 16 = .ok (.iload_n 1, 1) := by decide +kernel
theorem dX11_back_17 : decode cX11_back 17 = .ok (.baload, 1) := by decide +kernel
theorem dX11_back_18 : decode cX11_back 18 = .ok (.ifCond .ne 6, 3) := by decide +kernel
theorem dX11_back_21 : decode cX11_back 21 = .ok (.bipush (-4), 2) := by decide +kernel
theorem dX11_back_23 : decode cX11_back 23 = .ok (.ireturn, 1) := by decide +kernel
theorem dX11_back_24 : decode cX11_back 24 = .ok (.aload_n 0, 1) := by decide +kernel
theorem dX11_back_25 : decode cX11_back 25 = .ok (.aload_n 0, 1) := by decide +kernel
theorem dX11_back_26 : decode cX11_back 26 = .ok (.getfield 25, 3) := by decide +kernel
theorem dX11_back_29 : decode cX11_back 29 = .ok (.iconst 5, 1) := by decide +kernel
theorem dX11_back_30 : decode cX11_back 30 = .ok (.iload_n 1, 1) := by decide +kernel
theorem dX11_back_31 : decode cX11_back 31 = .ok (.imul, 1) := by decide +kernel
theorem dX11_back_32 : decode cX11_back 32 = .ok (.iaload, 1) := by decide +kernel
theorem dX11_back_33 : decode cX11_back 33 = .ok (.putfield 155, 3) := by decide +kernel
theorem dX11_back_36 : decode cX11_back 36 = .ok (.aload_n 0, 1) := by decide +kernel
theorem dX11_back_37 : decode cX11_back 37 = .ok (.aload_n 0, 1) := by decide +kernel
theorem dX11_back_38 : decode cX11_back 38 = .ok (.getfield 25, 3) := by decide +kernel
theorem dX11_back_41 : decode cX11_back 41 = .ok (.iconst 5, 1) := by decide +kernel
theorem dX11_back_42 : decode cX11_back 42 = .ok (.iload_n 1, 1) := by decide +kernel
theorem dX11_back_43 : decode cX11_back 43 = .ok (.imul, 1) := by decide +kernel
theorem dX11_back_44 : decode cX11_back 44 = .ok (.iconst 1, 1) := by decide +kernel
theorem dX11_back_45 : decode cX11_back 45 = .ok (.iadd, 1) := by decide +kernel
theorem dX11_back_46 : decode cX11_back 46 = .ok (.iaload, 1) := by decide +kernel
theorem dX11_back_47 : decode cX11_back 47 = .ok (.putfield 158, 3) := by decide +kernel
theorem dX11_back_50 : decode cX11_back 50 = .ok (.aload_n 0, 1) := by decide +kernel
theorem dX11_back_51 : decode cX11_back 51 = .ok (.aload_n 0, 1) := by decide +kernel
theorem dX11_back_52 : decode cX11_back 52 = .ok (.getfield 25, 3) := by decide +kernel
theorem dX11_back_55 : decode cX11_back 55 = .ok (.iconst 5, 1) := by decide +kernel
theorem dX11_back_56 : decode cX11_back 56 = .ok (.iload_n 1, 1) := by decide +kernel
theorem dX11_back_57 : decode cX11_back 57 = .ok (.imul, 1) := by decide +kernel
theorem dX11_back_58 : decode cX11_back 58 = .ok (.iconst 2, 1) := by decide +kernel
theorem dX11_back_59 : decode cX11_back 59 = .ok (.iadd, 1) := by decide +kernel
theorem dX11_back_60 : decode cX11_back 60 = .ok (.iaload, 1) := by decide +kernel
theorem dX11_back_61 : decode cX11_back 61 = .ok (.putfield 161, 3) := by decide +kernel
theorem dX11_back_64 : decode cX11_back 64 = .ok (.aload_n 0, 1) := by decide +kernel
theorem dX11_back_65 : decode cX11_back 65 = .ok (.aload_n 0, 1) := by decide +kernel
theorem dX11_back_66 : decode cX11_back 66 = .ok (.getfield 25, 3) := by decide +kernel
theorem dX11_back_69 : decode cX11_back 69 = .ok (.iconst 5, 1) := by decide +kernel
theorem dX11_back_70 : decode cX11_back 70 = .ok (.iload_n 1, 1) := by decide +kernel
theorem dX11_back_71 : decode cX11_back 71 = .ok (.imul, 1) := by decide +kernel
theorem dX11_back_72 : decode cX11_back 72 = .ok (.iconst 3, 1) := by decide +kernel
theorem dX11_back_73 : decode cX11_back 73 = .ok (.iadd, 1) := by decide +kernel
theorem dX11_back_74 : decode cX11_back 74 = .ok (.iaload, 1) := by decide +kernel
theorem dX11_back_75 : decode cX11_back 75 = .ok (.putfield 164, 3) := by decide +kernel
theorem dX11_back_78 : decode cX11_back 78 = .ok (.aload_n 0, 1) := by decide +kernel
theorem dX11_back_79 : decode cX11_back 79 = .ok (.aload_n 0, 1) := by decide +kernel
theorem dX11_back_80 : decode cX11_back 80 = .ok (.getfield 25, 3) := by decide +kernel
theorem dX11_back_83 : decode cX11_back 83 = .ok (.iconst 5, 1) := by decide +kernel
theorem dX11_back_84 : decode cX11_back 84 = .ok (.iload_n 1, 1) := by decide +kernel
theorem dX11_back_85 : decode cX11_back 85 = .ok (.imul, 1) := by decide +kernel
theorem dX11_back_86 : decode cX11_back 86 = .ok (.iconst 4, 1) := by decide +kernel
theorem dX11_back_87 : decode cX11_back 87 = .ok (.iadd, 1) := by decide +kernel
theorem dX11_back_88 : decode cX11_back 88 = .ok (.iaload, 1) := by decide +kernel
theorem dX11_back_89 : decode cX11_back 89 = .ok (.putfield 167, 3) := by decide +kernel
theorem dX11_back_92 : decode cX11_back 92 = .ok (.aload_n 0, 1) := by decide +kernel
theorem dX11_back_93 : decode cX11_back 93 = .ok (.getfield 167, 3) := by decide +kernel
theorem dX11_back_96 : decode cX11_back 96 = .ok (.ireturn, 1) := by decide +kernel
theorem dX11_wishes_0 : decode cX11_wishes 0 = .ok (.iconst 0, 1) := by decide +kernel
theorem dX11_wishes_1 : decode cX11_wishes 1 = .ok (.istore_n 2, 1) := by decide +kernel
theorem dX11_wishes_2 : decode cX11_wishes 2 = .ok (.iconst 0, 1) := by decide +kernel
theorem dX11_wishes_3 : decode cX11_wishes 3 = .ok (.istore_n 3, 1) := by decide +kernel
theorem dX11_wishes_4 : decode cX11_wishes 4 = .ok (.iload_n 3, 1) := by decide +kernel
theorem dX11_wishes_5 : decode cX11_wishes 5 = .ok (.aload_n 0, 1) := by decide +kernel
theorem dX11_wishes_6 : decode cX11_wishes 6 = .ok (.getfield 47, 3) := by decide +kernel
theorem dX11_wishes_9 : decode cX11_wishes 9 = .ok (.if_icmp .ge 35, 3) := by decide +kernel
theorem dX11_wishes_12 : decode cX11_wishes 12 = .ok (.iload_n 2, 1) := by decide +kernel
theorem dX11_wishes_13 : decode cX11_wishes 13 = .ok (.iload_n 1, 1) := by decide +kernel
theorem dX11_wishes_14 : decode cX11_wishes 14 = .ok (.iload_n 3, 1) := by decide +kernel
theorem dX11_wishes_15 : decode cX11_wishes 15 = .ok (.invokestatic 173, 3) := by decide +kernel
theorem dX11_wishes_18 : decode cX11_wishes 18 = .ok (.ifCond .eq 17, 3) := by decide +kernel
theorem dX11_wishes_21 : decode cX11_wishes 21 = .ok (.aload_n 0, 1) := by decide +kernel
theorem dX11_wishes_22 : decode cX11_wishes 22 = .ok (.getfield 7, 3) := by decide +kernel
theorem dX11_wishes_25 : decode cX11_wishes 25 = .ok (.bipush 6, 2) := by decide +kernel
theorem dX11_wishes_27 : decode cX11_wishes 27 = .ok (.iload_n 3, 1) := by decide +kernel
theorem dX11_wishes_28 : decode cX11_wishes 28 = .ok (.imul, 1) := by decide +kernel
theorem dX11_wishes_29 : decode cX11_wishes 29 = .ok (.iconst 4, 1) := by decide +kernel
theorem dX11_wishes_30 : decode cX11_wishes 30 = .ok (.iadd, 1) := by decide +kernel
theorem dX11_wishes_31 : decode cX11_wishes 31 = .ok (.iaload, 1) := by decide +kernel
theorem dX11_wishes_32 : decode cX11_wishes 32 = .ok (.goto 4, 3) := by decide +kernel
theorem dX11_wishes_35 : decode cX11_wishes 35 = .ok (.iconst 0, 1) := by decide +kernel
theorem dX11_wishes_36 : decode cX11_wishes 36 = .ok (.iadd, 1) := by decide +kernel
theorem dX11_wishes_37 : decode cX11_wishes 37 = .ok (.istore_n 2, 1) := by decide +kernel
theorem dX11_wishes_38 : decode cX11_wishes 38 = .ok (.iinc 3 1, 3) := by decide +kernel
theorem dX11_wishes_41 : decode cX11_wishes 41 = .ok (.goto (-37), 3) := by decide +kernel
theorem dX11_wishes_44 : decode cX11_wishes 44 = .ok (.iload_n 2, 1) := by decide +kernel
theorem dX11_wishes_45 : decode cX11_wishes 45 = .ok (.ireturn, 1) := by decide +kernel
theorem dX11_loads_0 : decode cX11_loads 0 = .ok (.aload_n 0, 1) := by decide +kernel
theorem dX11_loads_1 : decode cX11_loads 1 = .ok (.iload_n 1, 1) := by decide +kernel
theorem dX11_loads_2 : decode cX11_loads 2 = .ok (.invokevirtual 184, 3) := by decide +kernel
theorem dX11_loads_5 : decode cX11_loads 5 = .ok (.ifCond .ne 6, 3) := by decide +kernel
theorem dX11_loads_8 : decode cX11_loads 8 = .ok (.bipush (-2), 2) := by decide +kernel
theorem dX11_loads_10 : decode cX11_loads 10 = .ok (.ireturn, 1) := by decide +kernel
theorem dX11_loads_11 : decode cX11_loads 11 = .ok (.iload_n 2, 1) := by decide +kernel
theorem dX11_loads_12 : decode cX11_loads 12 = .ok (.iconst 0, 1) := by decide +kernel
theorem dX11_loads_13 : decode cX11_loads 13 = .ok (.iconst 3, 1) := by decide +kernel
theorem dX11_loads_14 : decode cX11_loads 14 = .ok (.invokestatic 51, 3) := by decide +kernel
theorem dX11_loads_17 : decode cX11_loads 17 = .ok (.ifCond .ne 6, 3) := by decide +kernel
theorem dX11_loads_20 : decode cX11_loads 20 = .ok (.bipush (-3), 2) := by decide +kernel
theorem dX11_loads_22 : decode cX11_loads 22 = .ok (.ireturn, 1) := by decide +kernel
theorem dX11_loads_23 : decode cX11_loads 23 = .ok (.iconst 0, 1) := by decide +kernel
theorem dX11_loads_24 : decode cX11_loads 24 = .ok (.istore_n 3, 1) := by decide +kernel
theorem dX11_loads_25 : decode cX11_loads 25 = .ok (.iconst (-1), 1) := by decide +kernel
theorem dX11_loads_26 : decode cX11_loads 26 = .ok (.istore 4, 2) := by decide +kernel
theorem dX11_loads_28 : decode cX11_loads 28 = .ok (.iconst (-1), 1) := by decide +kernel
theorem dX11_loads_29 : decode cX11_loads 29 = .ok (.istore 5, 2) := by decide +kernel
theorem dX11_loads_31 : decode cX11_loads 31 = .ok (.iconst 0, 1) := by decide +kernel
theorem dX11_loads_32 : decode cX11_loads 32 = .ok (.istore 6, 2) := by decide +kernel
theorem dX11_loads_34 : decode cX11_loads 34 = .ok (.iload 6, 2) := by decide +kernel
theorem dX11_loads_36 : decode cX11_loads 36 = .ok (.iconst 1, 1) := by decide +kernel
theorem dX11_loads_37 : decode cX11_loads 37 = .ok (.aload_n 0, 1) := by decide +kernel
theorem dX11_loads_38 : decode cX11_loads 38 = .ok (.getfield 47, 3) := by decide +kernel
theorem dX11_loads_41 : decode cX11_loads 41 = .ok (.ishl, 1) := by decide +kernel
theorem dX11_loads_42 : decode cX11_loads 42 = .ok (.if_icmp .ge 79, 3) := by decide +kernel
theorem dX11_loads_45 : decode cX11_loads 45 = .ok (.aload_n 0, 1) := by decide +kernel
theorem dX11_loads_46 : decode cX11_loads 46 = .ok (.iload_n 1, 1) := by decide +kernel
theorem dX11_loads_47 : decode cX11_loads 47 = .ok (.iload 6, 2) := by decide +kernel
theorem dX11_loads_49 : decode cX11_loads 49 = .ok (.aload_n 0, 1) := by decide +kernel
theorem dX11_loads_50 : decode cX11_loads 50 = .ok (.getfield 155, 3) := by decide +kernel
theorem dX11_loads_53 : decode cX11_loads 53 = .ok (.aload_n 0, 1) := by decide +kernel
theorem dX11_loads_54 : decode cX11_loads 54 = .ok (.getfield 158, 3) := by decide +kernel
theorem dX11_loads_57 : decode cX11_loads 57 = .ok (.aload_n 0, 1) := by decide +kernel
theorem dX11_loads_58 : decode cX11_loads 58 = .ok (.getfield 161, 3) := by decide +kernel
theorem dX11_loads_61 : decode cX11_loads 61 = .ok (.invokevirtual 207, 3) := by decide +kernel
theorem dX11_loads_64 : decode cX11_loads 64 = .ok (.ifCond .eq 51, 3) := by decide +kernel
theorem dX11_loads_67 : decode cX11_loads 67 = .ok (.iinc 3 1, 3) := by decide +kernel
theorem dX11_loads_70 : decode cX11_loads 70 = .ok (.iload 4, 2) := by decide +kernel
theorem dX11_loads_72 : decode cX11_loads 72 = .ok (.iconst (-1), 1) := by decide +kernel
theorem dX11_loads_73 : decode cX11_loads 73 = .ok (.if_icmp .ne 8, 3) := by decide +kernel
theorem dX11_loads_76 : decode cX11_loads 76 = .ok (.iload 6, 2) := by decide +kernel
theorem dX11_loads_78 : decode cX11_loads 78 = .ok (.goto 5, 3) := by decide +kernel
theorem dX11_loads_81 : decode cX11_loads 81 = .ok (.iload 4, 2) := by decide +kernel
theorem dX11_loads_83 : decode cX11_loads 83 = .ok (.istore 4, 2) := by decide +kernel
theorem dX11_loads_85 : decode cX11_loads 85 = .ok (.iload 5, 2) := by decide +kernel
theorem dX11_loads_87 : decode cX11_loads 87 = .ok (.iconst (-1), 1) := by decide +kernel
theorem dX11_loads_88 : decode cX11_loads 88 = .ok (.if_icmp .eq 18, 3) := by decide +kernel
theorem dX11_loads_91 : decode cX11_loads 91 = .ok (.aload_n 0, 1) := by decide +kernel
theorem dX11_loads_92 : decode cX11_loads 92 = .ok (.iload 6, 2) := by decide +kernel
theorem dX11_loads_94 : decode cX11_loads 94 = .ok (.invokevirtual 211, 3) := by decide +kernel
theorem dX11_loads_97 : decode cX11_loads 97 = .ok (.aload_n 0, 1) := by decide +kernel
theorem dX11_loads_98 : decode cX11_loads 98 = .ok (.iload 5, 2) := by decide +kernel
theorem dX11_loads_100 : decode cX11_loads 100 = .ok (.invokevirtual 211, 3) := by decide +kernel
theorem dX11_loads_103 : decode cX11_loads 103 = .ok (.if_icmp .le 8, 3) := by decide +kernel
theorem dX11_loads_106 : decode cX11_loads 106 = .ok (.iload 6, 2) := by decide +kernel
theorem dX11_loads_108 : decode cX11_loads 108 = .ok (.goto 5, 3) := by decide +kernel
theorem dX11_loads_111 : decode cX11_loads 111 = .ok (.iload 5, 2) := by decide +kernel
theorem dX11_loads_113 : decode cX11_loads 113 = .ok (.istore 5, 2) := by decide +kernel
theorem dX11_loads_115 : decode cX11_loads 115 = .ok (.iinc 6 1, 3) := by decide +kernel
theorem dX11_loads_118 : decode cX11_loads 118 = .ok (.goto (-84), 3) := by decide +kernel
theorem dX11_loads_121 : decode cX11_loads 121 = .ok (.iload_n 2, 1) := by decide +kernel
theorem dX11_loads_122 : decode cX11_loads 122 = .ok (.ifCond .ne 7, 3) := by decide +kernel
theorem dX11_loads_125 : decode cX11_loads 125 = .ok (.iload_n 3, 1) := by decide +kernel
theorem dX11_loads_126 : decode cX11_loads 126 = .ok (.goto 35, 3) := by decide +kernel
theorem dX11_loads_129 : decode cX11_loads 129 = .ok (.iload_n 2, 1) := by decide +kernel
theorem dX11_loads_130 : decode cX11_loads 130 = .ok (.iconst 1, 1) := by decide +kernel
theorem dX11_loads_131 : decode cX11_loads 131 = .ok (.if_icmp .ne 8, 3) := by decide +kernel
theorem dX11_loads_134 : decode cX11_loads 134 = .ok (.iload 4, 2) := by decide +kernel
theorem dX11_loads_136 : decode cX11_loads 136 = .ok (.goto 25, 3) := by decide +kernel
theorem dX11_loads_139 : decode cX11_loads 139 = .ok (.iload_n 2, 1) := by decide +kernel
theorem dX11_loads_140 : decode cX11_loads 140 = .ok (.iconst 2, 1) := by decide +kernel
theorem dX11_loads_141 : decode cX11_loads 141 = .ok (.if_icmp .eq 9, 3) := by decide +kernel
theorem dX11_loads_144 : decode cX11_loads 144 = .ok (.iload 5, 2) := by decide +kernel
theorem dX11_loads_146 : decode cX11_loads 146 = .ok (.iconst (-1), 1) := by decide +kernel
theorem dX11_loads_147 : decode cX11_loads 147 = .ok (.if_icmp .ne 8, 3) := by decide +kernel
theorem dX11_loads_150 : decode cX11_loads 150 = .ok (.iload 5, 2) := by decide +kernel
theorem dX11_loads_152 : decode cX11_loads 152 = .ok (.goto 9, 3) := by decide +kernel
theorem dX11_loads_155 : decode cX11_loads 155 = .ok (.aload_n 0, 1) := by decide +kernel
theorem dX11_loads_156 : decode cX11_loads 156 = .ok (.iload 5, 2) := by decide +kernel
theorem dX11_loads_158 : decode cX11_loads 158 = .ok (.invokevirtual 211, 3) := by decide +kernel
theorem dX11_loads_161 : decode cX11_loads 161 = .ok (.ireturn, 1) := by decide +kernel
theorem dX11_weighed_0 : decode cX11_weighed 0 = .ok (.iload_n 1, 1) := by decide +kernel
theorem dX11_weighed_1 : decode cX11_weighed 1 = .ok (.invokestatic 214, 3) := by decide +kernel
theorem dX11_weighed_4 : decode cX11_weighed 4 = .ok (.ifCond .ne 6, 3) := by decide +kernel
theorem dX11_weighed_7 : decode cX11_weighed 7 = .ok (.bipush (-2), 2) := by decide +kernel
theorem dX11_weighed_9 : decode cX11_weighed 9 = .ok (.ireturn, 1) := by decide +kernel
theorem dX11_weighed_10 : decode cX11_weighed 10 = .ok (.iload_n 2, 1) := by decide +kernel
theorem dX11_weighed_11 : decode cX11_weighed 11 = .ok (.iconst 1, 1) := by decide +kernel
theorem dX11_weighed_12 : decode cX11_weighed 12 = .ok (.sipush 999, 3) := by decide +kernel
theorem dX11_weighed_15 : decode cX11_weighed 15 = .ok (.invokestatic 51, 3) := by decide +kernel
theorem dX11_weighed_18 : decode cX11_weighed 18 = .ok (.ifCond .ne 6, 3) := by decide +kernel
theorem dX11_weighed_21 : decode cX11_weighed 21 = .ok (.bipush (-3), 2) := by decide +kernel
theorem dX11_weighed_23 : decode cX11_weighed 23 = .ok (.ireturn, 1) := by decide +kernel
theorem dX11_weighed_24 : decode cX11_weighed 24 = .ok (.iconst 0, 1) := by decide +kernel
theorem dX11_weighed_25 : decode cX11_weighed 25 = .ok (.istore_n 3, 1) := by decide +kernel
theorem dX11_weighed_26 : decode cX11_weighed 26 = .ok (.iconst 1, 1) := by decide +kernel
theorem dX11_weighed_27 : decode cX11_weighed 27 = .ok (.istore 4, 2) := by decide +kernel
theorem dX11_weighed_29 : decode cX11_weighed 29 = .ok (.iload 4, 2) := by decide +kernel
theorem dX11_weighed_31 : decode cX11_weighed 31 = .ok (.iconst 1, 1) := by decide +kernel
theorem dX11_weighed_32 : decode cX11_weighed 32 = .ok (.aload_n 0, 1) := by decide +kernel
theorem dX11_weighed_33 : decode cX11_weighed 33 = .ok (.getfield 47, 3) := by decide +kernel
theorem dX11_weighed_36 : decode cX11_weighed 36 = .ok (.ishl, 1) := by decide +kernel
theorem dX11_weighed_37 : decode cX11_weighed 37 = .ok (.if_icmp .ge 78, 3) := by decide +kernel
theorem dX11_weighed_40 : decode cX11_weighed 40 = .ok (.iload_n 1, 1) := by decide +kernel
theorem dX11_weighed_41 : decode cX11_weighed 41 = .ok (.iconst 1, 1) := by decide +kernel
theorem dX11_weighed_42 : decode cX11_weighed 42 = .ok (.if_icmp .ne 23, 3) := by decide +kernel
theorem dX11_weighed_45 : decode cX11_weighed 45 = .ok (.iload 4, 2) := by decide +kernel
theorem dX11_weighed_47 : decode cX11_weighed 47 = .ok (.aload_n 0, 1) := by decide +kernel
theorem dX11_weighed_48 : decode cX11_weighed 48 = .ok (.getfield 155, 3) := by decide +kernel
theorem dX11_weighed_51 : decode cX11_weighed 51 = .ok (.iconst (-1), 1) := by decide +kernel
theorem dX11_weighed_52 : decode cX11_weighed 52 = .ok (.ixor, 1) := by decide +kernel
theorem dX11_weighed_53 : decode cX11_weighed 53 = .ok (.iand, 1) := by decide +kernel
theorem dX11_weighed_54 : decode cX11_weighed 54 = .ok (.ifCond .ne 7, 3) := by decide +kernel
theorem dX11_weighed_57 : decode cX11_weighed 57 = .ok (.iconst 1, 1) := by decide +kernel
theorem dX11_weighed_58 : decode cX11_weighed 58 = .ok (.goto 22, 3) := by decide +kernel
theorem dX11_weighed_61 : decode cX11_weighed 61 = .ok (.iconst 0, 1) := by decide +kernel
theorem dX11_weighed_62 : decode cX11_weighed 62 = .ok (.goto 18, 3) := by decide +kernel
theorem dX11_weighed_65 : decode cX11_weighed 65 = .ok (.iload 4, 2) := by decide +kernel
theorem dX11_weighed_67 : decode cX11_weighed 67 = .ok (.aload_n 0, 1) := by decide +kernel
theorem dX11_weighed_68 : decode cX11_weighed 68 = .ok (.getfield 155, 3) := by decide +kernel
theorem dX11_weighed_71 : decode cX11_weighed 71 = .ok (.iand, 1) := by decide +kernel
theorem dX11_weighed_72 : decode cX11_weighed 72 = .ok (.ifCond .ne 7, 3) := by decide +kernel
theorem dX11_weighed_75 : decode cX11_weighed 75 = .ok (.iconst 1, 1) := by decide +kernel
theorem dX11_weighed_76 : decode cX11_weighed 76 = .ok (.goto 4, 3) := by decide +kernel
theorem dX11_weighed_79 : decode cX11_weighed 79 = .ok (.iconst 0, 1) := by decide +kernel
theorem dX11_weighed_80 : decode cX11_weighed 80 = .ok (.istore 5, 2) := by decide +kernel
theorem dX11_weighed_82 : decode cX11_weighed 82 = .ok (.iload_n 3, 1) := by decide +kernel
theorem dX11_weighed_83 : decode cX11_weighed 83 = .ok (.iload 5, 2) := by decide +kernel
theorem dX11_weighed_85 : decode cX11_weighed 85 = .ok (.ifCond .eq 21, 3) := by decide +kernel
theorem dX11_weighed_88 : decode cX11_weighed 88 = .ok (.aload_n 0, 1) := by decide +kernel
theorem dX11_weighed_89 : decode cX11_weighed 89 = .ok (.iload 4, 2) := by decide +kernel
theorem dX11_weighed_91 : decode cX11_weighed 91 = .ok (.aload_n 0, 1) := by decide +kernel
theorem dX11_weighed_92 : decode cX11_weighed 92 = .ok (.getfield 161, 3) := by decide +kernel
theorem dX11_weighed_95 : decode cX11_weighed 95 = .ok (.invokevirtual 198, 3) := by decide +kernel
theorem dX11_weighed_98 : decode cX11_weighed 98 = .ok (.iload_n 2, 1) := by decide +kernel
theorem dX11_weighed_99 : decode cX11_weighed 99 = .ok (.if_icmp .ne 7, 3) := by decide +kernel
theorem dX11_weighed_102 : decode cX11_weighed 102 = .ok (.iconst 1, 1) := by decide +kernel
theorem dX11_weighed_103 : decode cX11_weighed 103 = .ok (.goto 4, 3) := by decide +kernel
theorem dX11_weighed_106 : decode cX11_weighed 106 = .ok (.iconst 0, 1) := by decide +kernel
theorem dX11_weighed_107 : decode cX11_weighed 107 = .ok (.iadd, 1) := by decide +kernel
theorem dX11_weighed_108 : decode cX11_weighed 108 = .ok (.istore_n 3, 1) := by decide +kernel
theorem dX11_weighed_109 : decode cX11_weighed 109 = .ok (.iinc 4 1, 3) := by decide +kernel
theorem dX11_weighed_112 : decode cX11_weighed 112 = .ok (.goto (-83), 3) := by decide +kernel
theorem dX11_weighed_115 : decode cX11_weighed 115 = .ok (.iload_n 3, 1) := by decide +kernel
theorem dX11_weighed_116 : decode cX11_weighed 116 = .ok (.ireturn, 1) := by decide +kernel
theorem dX11_hats_0 : decode cX11_hats 0 = .ok (.aload_n 0, 1) := by decide +kernel
theorem dX11_hats_1 : decode cX11_hats 1 = .ok (.iload_n 1, 1) := by decide +kernel
theorem dX11_hats_2 : decode cX11_hats 2 = .ok (.invokevirtual 184, 3) := by decide +kernel
theorem dX11_hats_5 : decode cX11_hats 5 = .ok (.ifCond .eq 11, 3) := by decide +kernel
theorem dX11_hats_8 : decode cX11_hats 8 = .ok (.aload_n 0, 1) := by decide +kernel
theorem dX11_hats_9 : decode cX11_hats 9 = .ok (.iload_n 2, 1) := by decide +kernel
theorem dX11_hats_10 : decode cX11_hats 10 = .ok (.invokevirtual 204, 3) := by decide +kernel
theorem dX11_hats_13 : decode cX11_hats 13 = .ok (.ifCond .ne 6, 3) := by decide +kernel
theorem dX11_hats_16 : decode cX11_hats 16 = .ok (.bipush (-2), 2) := by decide +kernel
theorem dX11_hats_18 : decode cX11_hats 18 = .ok (.ireturn, 1) := by decide +kernel
theorem dX11_hats_19 : decode cX11_hats 19 = .ok (.iload_n 3, 1) := by decide +kernel
theorem dX11_hats_20 : decode cX11_hats 20 = .ok (.iconst 0, 1) := by decide +kernel
theorem dX11_hats_21 : decode cX11_hats 21 = .ok (.iconst 1, 1) := by decide +kernel
theorem dX11_hats_22 : decode cX11_hats 22 = .ok (.invokestatic 51, 3) := by decide +kernel
theorem dX11_hats_25 : decode cX11_hats 25 = .ok (.ifCond .ne 6, 3) := by decide +kernel
theorem dX11_hats_28 : decode cX11_hats 28 = .ok (.bipush (-3), 2) := by decide +kernel
theorem dX11_hats_30 : decode cX11_hats 30 = .ok (.ireturn, 1) := by decide +kernel
theorem dX11_hats_31 : decode cX11_hats 31 = .ok (.iconst (-1), 1) := by decide +kernel
theorem dX11_hats_32 : decode cX11_hats 32 = .ok (.istore 4, 2) := by decide +kernel
theorem dX11_hats_34 : decode cX11_hats 34 = .ok (.iconst 0, 1) := by decide +kernel
theorem dX11_hats_35 : decode cX11_hats 35 = .ok (.istore 5, 2) := by decide +kernel
theorem dX11_hats_37 : decode cX11_hats 37 = .ok (.iload 5, 2) := by decide +kernel
theorem dX11_hats_39 : decode cX11_hats 39 = .ok (.iconst 1, 1) := by decide +kernel
theorem dX11_hats_40 : decode cX11_hats 40 = .ok (.aload_n 0, 1) := by decide +kernel
theorem dX11_hats_41 : decode cX11_hats 41 = .ok (.getfield 47, 3) := by decide +kernel
theorem dX11_hats_44 : decode cX11_hats 44 = .ok (.ishl, 1) := by decide +kernel
theorem dX11_hats_45 : decode cX11_hats 45 = .ok (.if_icmp .ge 126, 3) := by decide +kernel
theorem dX11_hats_48 : decode cX11_hats 48 = .ok (.iload 5, 2) := by decide +kernel
theorem dX11_hats_50 : decode cX11_hats 50 = .ok (.iload_n 2, 1) := by decide +kernel
theorem dX11_hats_51 : decode cX11_hats 51 = .ok (.iconst (-1), 1) := by decide +kernel
theorem dX11_hats_52 : decode cX11_hats 52 = .ok (.ixor, 1) := by decide +kernel
theorem dX11_hats_53 : decode cX11_hats 53 = .ok (.iand, 1) := by decide +kernel
theorem dX11_hats_54 : decode cX11_hats 54 = .ok (.ifCond .ne 7, 3) := by decide +kernel
theorem dX11_hats_57 : decode cX11_hats 57 = .ok (.iconst 1, 1) := by decide +kernel
theorem dX11_hats_58 : decode cX11_hats 58 = .ok (.goto 4, 3) := by decide +kernel
theorem dX11_hats_61 : decode cX11_hats 61 = .ok (.iconst 0, 1) := by decide +kernel
theorem dX11_hats_62 : decode cX11_hats 62 = .ok (.istore 6, 2) := by decide +kernel
theorem dX11_hats_64 : decode cX11_hats 64 = .ok (.iconst 0, 1) := by decide +kernel
theorem dX11_hats_65 : decode cX11_hats 65 = .ok (.istore 7, 2) := by decide +kernel
theorem dX11_hats_67 : decode cX11_hats 67 = .ok (.iload 7, 2) := by decide +kernel
theorem dX11_hats_69 : decode cX11_hats 69 = .ok (.aload_n 0, 1) := by decide +kernel
theorem dX11_hats_70 : decode cX11_hats 70 = .ok (.getfield 47, 3) := by decide +kernel
theorem dX11_hats_73 : decode cX11_hats 73 = .ok (.if_icmp .ge 45, 3) := by decide +kernel
theorem dX11_hats_76 : decode cX11_hats 76 = .ok (.iload 6, 2) := by decide +kernel
theorem dX11_hats_78 : decode cX11_hats 78 = .ok (.ifCond .eq 31, 3) := by decide +kernel
theorem dX11_hats_81 : decode cX11_hats 81 = .ok (.iload 5, 2) := by decide +kernel
theorem dX11_hats_83 : decode cX11_hats 83 = .ok (.iload 7, 2) := by decide +kernel
theorem dX11_hats_85 : decode cX11_hats 85 = .ok (.invokestatic 173, 3) := by decide +kernel
theorem dX11_hats_88 : decode cX11_hats 88 = .ok (.ifCond .eq 17, 3) := by decide +kernel
theorem dX11_hats_91 : decode cX11_hats 91 = .ok (.aload_n 0, 1) := by decide +kernel
theorem dX11_hats_92 : decode cX11_hats 92 = .ok (.getfield 7, 3) := by decide +kernel
theorem dX11_hats_95 : decode cX11_hats 95 = .ok (.bipush 6, 2) := by decide +kernel
theorem dX11_hats_97 : decode cX11_hats 97 = .ok (.iload 7, 2) := by decide +kernel
theorem dX11_hats_99 : decode cX11_hats 99 = .ok (.imul, 1) := by decide +kernel
theorem dX11_hats_100 : decode cX11_hats 100 = .ok (.iaload, 1) := by decide +kernel
theorem dX11_hats_101 : decode cX11_hats 101 = .ok (.iconst 2, 1) := by decide +kernel
theorem dX11_hats_102 : decode cX11_hats 102 = .ok (.if_icmp .ge 7, 3) := by decide +kernel
theorem dX11_hats_105 : decode cX11_hats 105 = .ok (.iconst 1, 1) := by decide +kernel
theorem dX11_hats_106 : decode cX11_hats 106 = .ok (.goto 4, 3) := by decide +kernel
theorem dX11_hats_109 : decode cX11_hats 109 = .ok (.iconst 0, 1) := by decide +kernel
theorem dX11_hats_110 : decode cX11_hats 110 = .ok (.istore 6, 2) := by decide +kernel
theorem dX11_hats_112 : decode cX11_hats 112 = .ok (.iinc 7 1, 3) := by decide +kernel
theorem dX11_hats_115 : decode cX11_hats 115 = .ok (.goto (-48), 3) := by decide +kernel
theorem dX11_hats_118 : decode cX11_hats 118 = .ok (.iload 6, 2) := by decide +kernel
theorem dX11_hats_120 : decode cX11_hats 120 = .ok (.ifCond .eq 45, 3) := by decide +kernel
theorem dX11_hats_123 : decode cX11_hats 123 = .ok (.iload 4, 2) := by decide +kernel
theorem dX11_hats_125 : decode cX11_hats 125 = .ok (.iconst (-1), 1) := by decide +kernel
theorem dX11_hats_126 : decode cX11_hats 126 = .ok (.if_icmp .eq 16, 3) := by decide +kernel
theorem dX11_hats_129 : decode cX11_hats 129 = .ok (.iload 5, 2) := by decide +kernel
theorem dX11_hats_131 : decode cX11_hats 131 = .ok (.invokestatic 195, 3) := by decide +kernel
theorem dX11_hats_134 : decode cX11_hats 134 = .ok (.iload 4, 2) := by decide +kernel
theorem dX11_hats_136 : decode cX11_hats 136 = .ok (.invokestatic 195, 3) := by decide +kernel
theorem dX11_hats_139 : decode cX11_hats 139 = .ok (.if_icmp .ge 26, 3) := by decide +kernel
theorem dX11_hats_142 : decode cX11_hats 142 = .ok (.aload_n 0, 1) := by decide +kernel
theorem dX11_hats_143 : decode cX11_hats 143 = .ok (.iload_n 1, 1) := by decide +kernel
theorem dX11_hats_144 : decode cX11_hats 144 = .ok (.iload_n 2, 1) := by decide +kernel
theorem dX11_hats_145 : decode cX11_hats 145 = .ok (.aload_n 0, 1) := by decide +kernel
theorem dX11_hats_146 : decode cX11_hats 146 = .ok (.getfield 155, 3) := by decide +kernel
theorem dX11_hats_149 : decode cX11_hats 149 = .ok (.aload_n 0, 1) := by decide +kernel
theorem dX11_hats_150 : decode cX11_hats 150 = .ok (.getfield 158, 3) := by decide +kernel
theorem dX11_hats_153 : decode cX11_hats 153 = .ok (.iload 5, 2) := by decide +kernel
theorem dX11_hats_155 : decode cX11_hats 155 = .ok (.invokevirtual 207, 3) := by decide +kernel
theorem dX11_hats_158 : decode cX11_hats 158 = .ok (.ifCond .eq 7, 3) := by decide +kernel
theorem dX11_hats_161 : decode cX11_hats 161 = .ok (.iload 5, 2) := by decide +kernel
theorem dX11_hats_163 : decode cX11_hats 163 = .ok (.istore 4, 2) := by decide +kernel
theorem dX11_hats_165 : decode cX11_hats 165 = .ok (.iinc 5 1, 3) := by decide +kernel
theorem dX11_hats_168 : decode cX11_hats 168 = .ok (.goto (-131), 3) := by decide +kernel
theorem dX11_hats_171 : decode cX11_hats 171 = .ok (.iload 4, 2) := by decide +kernel
theorem dX11_hats_173 : decode cX11_hats 173 = .ok (.iconst (-1), 1) := by decide +kernel
theorem dX11_hats_174 : decode cX11_hats 174 = .ok (.if_icmp .eq 8, 3) := by decide +kernel
theorem dX11_hats_177 : decode cX11_hats 177 = .ok (.iload_n 3, 1) := by decide +kernel
theorem dX11_hats_178 : decode cX11_hats 178 = .ok (.iconst 1, 1) := by decide +kernel
theorem dX11_hats_179 : decode cX11_hats 179 = .ok (.if_icmp .ne 8, 3) := by decide +kernel
theorem dX11_hats_182 : decode cX11_hats 182 = .ok (.iload 4, 2) := by decide +kernel
theorem dX11_hats_184 : decode cX11_hats 184 = .ok (.goto 8, 3) := by decide +kernel
theorem dX11_hats_187 : decode cX11_hats 187 = .ok (.iload 4, 2) := by decide +kernel
theorem dX11_hats_189 : decode cX11_hats 189 = .ok (.invokestatic 195, 3) := by decide +kernel
theorem dX11_hats_192 : decode cX11_hats 192 = .ok (.ireturn, 1) := by decide +kernel
theorem dX11_stones_0 : decode cX11_stones 0 = .ok (.aload_n 0, 1) := by decide +kernel
theorem dX11_stones_1 : decode cX11_stones 1 = .ok (.iload_n 1, 1) := by decide +kernel
theorem dX11_stones_2 : decode cX11_stones 2 = .ok (.invokevirtual 184, 3) := by decide +kernel
theorem dX11_stones_5 : decode cX11_stones 5 = .ok (.ifCond .eq 11, 3) := by decide +kernel
theorem dX11_stones_8 : decode cX11_stones 8 = .ok (.aload_n 0, 1) := by decide +kernel
theorem dX11_stones_9 : decode cX11_stones 9 = .ok (.iload_n 2, 1) := by decide +kernel
theorem dX11_stones_10 : decode cX11_stones 10 = .ok (.invokevirtual 204, 3) := by decide +kernel
theorem dX11_stones_13 : decode cX11_stones 13 = .ok (.ifCond .ne 6, 3) := by decide +kernel
theorem dX11_stones_16 : decode cX11_stones 16 = .ok (.bipush (-2), 2) := by decide +kernel
theorem dX11_stones_18 : decode cX11_stones 18 = .ok (.ireturn, 1) := by decide +kernel
theorem dX11_stones_19 : decode cX11_stones 19 = .ok (.iload_n 3, 1) := by decide +kernel
theorem dX11_stones_20 : decode cX11_stones 20 = .ok (.iconst 1, 1) := by decide +kernel
theorem dX11_stones_21 : decode cX11_stones 21 = .ok (.bipush 99, 2) := by decide +kernel
theorem dX11_stones_23 : decode cX11_stones 23 = .ok (.invokestatic 51, 3) := by decide +kernel
theorem dX11_stones_26 : decode cX11_stones 26 = .ok (.ifCond .ne 6, 3) := by decide +kernel
theorem dX11_stones_29 : decode cX11_stones 29 = .ok (.bipush (-3), 2) := by decide +kernel
theorem dX11_stones_31 : decode cX11_stones 31 = .ok (.ireturn, 1) := by decide +kernel
theorem dX11_stones_32 : decode cX11_stones 32 = .ok (.aload_n 0, 1) := by decide +kernel
theorem dX11_stones_33 : decode cX11_stones 33 = .ok (.iload_n 1, 1) := by decide +kernel
theorem dX11_stones_34 : decode cX11_stones 34 = .ok (.iload_n 2, 1) := by decide +kernel
theorem dX11_stones_35 : decode cX11_stones 35 = .ok (.aload_n 0, 1) := by decide +kernel
theorem dX11_stones_36 : decode cX11_stones 36 = .ok (.getfield 155, 3) := by decide +kernel
theorem dX11_stones_39 : decode cX11_stones 39 = .ok (.aload_n 0, 1) := by decide +kernel
theorem dX11_stones_40 : decode cX11_stones 40 = .ok (.getfield 158, 3) := by decide +kernel
theorem dX11_stones_43 : decode cX11_stones 43 = .ok (.invokevirtual 191, 3) := by decide +kernel
theorem dX11_stones_46 : decode cX11_stones 46 = .ok (.ifCond .ne 5, 3) := by decide +kernel
theorem dX11_stones_49 : decode cX11_stones 49 = .ok (.iconst (-1), 1) := by decide +kernel
theorem dX11_stones_50 : decode cX11_stones 50 = .ok (.ireturn, 1) := by decide +kernel
theorem dX11_stones_51 : decode cX11_stones 51 = .ok (.aload_n 0, 1) := by decide +kernel
theorem dX11_stones_52 : decode cX11_stones 52 = .ok (.iload_n 2, 1) := by decide +kernel
theorem dX11_stones_53 : decode cX11_stones 53 = .ok (.aload_n 0, 1) := by decide +kernel
theorem dX11_stones_54 : decode cX11_stones 54 = .ok (.getfield 161, 3) := by decide +kernel
theorem dX11_stones_57 : decode cX11_stones 57 = .ok (.invokevirtual 198, 3) := by decide +kernel
theorem dX11_stones_60 : decode cX11_stones 60 = .ok (.istore 4, 2) := by decide +kernel
theorem dX11_stones_62 : decode cX11_stones 62 = .ok (.iconst 0, 1) := by decide +kernel
theorem dX11_stones_63 : decode cX11_stones 63 = .ok (.istore 5, 2) := by decide +kernel
theorem dX11_stones_65 : decode cX11_stones 65 = .ok (.iload 5, 2) := by decide +kernel
theorem dX11_stones_67 : decode cX11_stones 67 = .ok (.iload_n 2, 1) := by decide +kernel
theorem dX11_stones_68 : decode cX11_stones 68 = .ok (.invokestatic 195, 3) := by decide +kernel
theorem dX11_stones_71 : decode cX11_stones 71 = .ok (.iadd, 1) := by decide +kernel
theorem dX11_stones_72 : decode cX11_stones 72 = .ok (.aload_n 0, 1) := by decide +kernel
theorem dX11_stones_73 : decode cX11_stones 73 = .ok (.getfield 13, 3) := by decide +kernel
theorem dX11_stones_76 : decode cX11_stones 76 = .ok (.iconst 5, 1) := by decide +kernel
theorem dX11_stones_77 : decode cX11_stones 77 = .ok (.iload_n 1, 1) := by decide +kernel
theorem dX11_stones_78 : decode cX11_stones 78 = .ok (.imul, 1) := by decide +kernel
theorem dX11_stones_79 : decode cX11_stones 79 = .ok (.iconst 3, 1) := by decide +kernel
theorem dX11_stones_80 : decode cX11_stones 80 = .ok (.iadd, 1) := by decide +kernel
theorem dX11_stones_81 : decode cX11_stones 81 = .ok (.iaload, 1) := by decide +kernel
theorem dX11_stones_82 : decode cX11_stones 82 = .ok (.if_icmp .gt 28, 3) := by decide +kernel
theorem dX11_stones_85 : decode cX11_stones 85 = .ok (.aload_n 0, 1) := by decide +kernel
theorem dX11_stones_86 : decode cX11_stones 86 = .ok (.iload_n 1, 1) := by decide +kernel
theorem dX11_stones_87 : decode cX11_stones 87 = .ok (.iload 4, 2) := by decide +kernel
theorem dX11_stones_89 : decode cX11_stones 89 = .ok (.iload 5, 2) := by decide +kernel
theorem dX11_stones_91 : decode cX11_stones 91 = .ok (.iload_n 3, 1) := by decide +kernel
theorem dX11_stones_92 : decode cX11_stones 92 = .ok (.imul, 1) := by decide +kernel
theorem dX11_stones_93 : decode cX11_stones 93 = .ok (.iadd, 1) := by decide +kernel
theorem dX11_stones_94 : decode cX11_stones 94 = .ok (.iconst 0, 1) := by decide +kernel
theorem dX11_stones_95 : decode cX11_stones 95 = .ok (.invokevirtual 201, 3) := by decide +kernel
theorem dX11_stones_98 : decode cX11_stones 98 = .ok (.ifCond .eq 6, 3) := by decide +kernel
theorem dX11_stones_101 : decode cX11_stones 101 = .ok (.iload 5, 2) := by decide +kernel
theorem dX11_stones_103 : decode cX11_stones 103 = .ok (.ireturn, 1) := by decide +kernel
theorem dX11_stones_104 : decode cX11_stones 104 = .ok (.iinc 5 1, 3) := by decide +kernel
theorem dX11_stones_107 : decode cX11_stones 107 = .ok (.goto (-42), 3) := by decide +kernel
theorem dX11_stones_110 : decode cX11_stones 110 = .ok (.iconst (-1), 1) := by decide +kernel
theorem dX11_stones_111 : decode cX11_stones 111 = .ok (.ireturn, 1) := by decide +kernel
theorem dX11_sure_0 : decode cX11_sure 0 = .ok (.aload_n 0, 1) := by decide +kernel
theorem dX11_sure_1 : decode cX11_sure 1 = .ok (.iload_n 1, 1) := by decide +kernel
theorem dX11_sure_2 : decode cX11_sure 2 = .ok (.invokevirtual 184, 3) := by decide +kernel
theorem dX11_sure_5 : decode cX11_sure 5 = .ok (.ifCond .ne 6, 3) := by decide +kernel
theorem dX11_sure_8 : decode cX11_sure 8 = .ok (.bipush (-2), 2) := by decide +kernel
theorem dX11_sure_10 : decode cX11_sure 10 = .ok (.ireturn, 1) := by decide +kernel
theorem dX11_sure_11 : decode cX11_sure 11 = .ok (.iconst 0, 1) := by decide +kernel
theorem dX11_sure_12 : decode cX11_sure 12 = .ok (.istore_n 2, 1) := by decide +kernel
theorem dX11_sure_13 : decode cX11_sure 13 = .ok (.iconst 0, 1) := by decide +kernel
theorem dX11_sure_14 : decode cX11_sure 14 = .ok (.istore_n 3, 1) := by decide +kernel
theorem dX11_sure_15 : decode cX11_sure 15 = .ok (.iload_n 3, 1) := by decide +kernel
theorem dX11_sure_16 : decode cX11_sure 16 = .ok (.iconst 1, 1) := by decide +kernel
theorem dX11_sure_17 : decode cX11_sure 17 = .ok (.aload_n 0, 1) := by decide +kernel
theorem dX11_sure_18 : decode cX11_sure 18 = .ok (.getfield 47, 3) := by decide +kernel
theorem dX11_sure_21 : decode cX11_sure 21 = .ok (.ishl, 1) := by decide +kernel
theorem dX11_sure_22 : decode cX11_sure 22 = .ok (.if_icmp .ge 108, 3) := by decide +kernel
theorem dX11_sure_25 : decode cX11_sure 25 = .ok (.iconst 0, 1) := by decide +kernel
theorem dX11_sure_26 : decode cX11_sure 26 = .ok (.istore 4, 2) := by decide +kernel
theorem dX11_sure_28 : decode cX11_sure 28 = .ok (.iconst 0, 1) := by decide +kernel
theorem dX11_sure_29 : decode cX11_sure 29 = .ok (.istore 5, 2) := by decide +kernel
theorem dX11_sure_31 : decode cX11_sure 31 = .ok (.iload 5, 2) := by decide +kernel
theorem dX11_sure_33 : decode cX11_sure 33 = .ok (.aload_n 0, 1) := by decide +kernel
theorem dX11_sure_34 : decode cX11_sure 34 = .ok (.getfield 47, 3) := by decide +kernel
theorem dX11_sure_37 : decode cX11_sure 37 = .ok (.if_icmp .ge 39, 3) := by decide +kernel
theorem dX11_sure_40 : decode cX11_sure 40 = .ok (.iload 4, 2) := by decide +kernel
theorem dX11_sure_42 : decode cX11_sure 42 = .ok (.iload_n 3, 1) := by decide +kernel
theorem dX11_sure_43 : decode cX11_sure 43 = .ok (.iload 5, 2) := by decide +kernel
theorem dX11_sure_45 : decode cX11_sure 45 = .ok (.invokestatic 173, 3) := by decide +kernel
theorem dX11_sure_48 : decode cX11_sure 48 = .ok (.ifCond .eq 18, 3) := by decide +kernel
theorem dX11_sure_51 : decode cX11_sure 51 = .ok (.aload_n 0, 1) := by decide +kernel
theorem dX11_sure_52 : decode cX11_sure 52 = .ok (.getfield 7, 3) := by decide +kernel
theorem dX11_sure_55 : decode cX11_sure 55 = .ok (.bipush 6, 2) := by decide +kernel
theorem dX11_sure_57 : decode cX11_sure 57 = .ok (.iload 5, 2) := by decide +kernel
theorem dX11_sure_59 : decode cX11_sure 59 = .ok (.imul, 1) := by decide +kernel
theorem dX11_sure_60 : decode cX11_sure 60 = .ok (.iconst 5, 1) := by decide +kernel
theorem dX11_sure_61 : decode cX11_sure 61 = .ok (.iadd, 1) := by decide +kernel
theorem dX11_sure_62 : decode cX11_sure 62 = .ok (.iaload, 1) := by decide +kernel
theorem dX11_sure_63 : decode cX11_sure 63 = .ok (.goto 4, 3) := by decide +kernel
theorem dX11_sure_66 : decode cX11_sure 66 = .ok (.iconst 0, 1) := by decide +kernel
theorem dX11_sure_67 : decode cX11_sure 67 = .ok (.iadd, 1) := by decide +kernel
theorem dX11_sure_68 : decode cX11_sure 68 = .ok (.istore 4, 2) := by decide +kernel
theorem dX11_sure_70 : decode cX11_sure 70 = .ok (.iinc 5 1, 3) := by decide +kernel
theorem dX11_sure_73 : decode cX11_sure 73 = .ok (.goto (-42), 3) := by decide +kernel
theorem dX11_sure_76 : decode cX11_sure 76 = .ok (.iload_n 2, 1) := by decide +kernel
theorem dX11_sure_77 : decode cX11_sure 77 = .ok (.aload_n 0, 1) := by decide +kernel
theorem dX11_sure_78 : decode cX11_sure 78 = .ok (.iload_n 1, 1) := by decide +kernel
theorem dX11_sure_79 : decode cX11_sure 79 = .ok (.iload_n 3, 1) := by decide +kernel
theorem dX11_sure_80 : decode cX11_sure 80 = .ok (.aload_n 0, 1) := by decide +kernel
theorem dX11_sure_81 : decode cX11_sure 81 = .ok (.getfield 155, 3) := by decide +kernel
theorem dX11_sure_84 : decode cX11_sure 84 = .ok (.aload_n 0, 1) := by decide +kernel
theorem dX11_sure_85 : decode cX11_sure 85 = .ok (.getfield 158, 3) := by decide +kernel
theorem dX11_sure_88 : decode cX11_sure 88 = .ok (.aload_n 0, 1) := by decide +kernel
theorem dX11_sure_89 : decode cX11_sure 89 = .ok (.getfield 161, 3) := by decide +kernel
theorem dX11_sure_92 : decode cX11_sure 92 = .ok (.invokevirtual 207, 3) := by decide +kernel
theorem dX11_sure_95 : decode cX11_sure 95 = .ok (.ifCond .eq 26, 3) := by decide +kernel
theorem dX11_sure_98 : decode cX11_sure 98 = .ok (.aload_n 0, 1) := by decide +kernel
theorem dX11_sure_99 : decode cX11_sure 99 = .ok (.iload_n 1, 1) := by decide +kernel
theorem dX11_sure_100 : decode cX11_sure 100 = .ok (.aload_n 0, 1) := by decide +kernel
theorem dX11_sure_101 : decode cX11_sure 101 = .ok (.iload_n 3, 1) := by decide +kernel
theorem dX11_sure_102 : decode cX11_sure 102 = .ok (.aload_n 0, 1) := by decide +kernel
theorem dX11_sure_103 : decode cX11_sure 103 = .ok (.getfield 161, 3) := by decide +kernel
theorem dX11_sure_106 : decode cX11_sure 106 = .ok (.invokevirtual 198, 3) := by decide +kernel
theorem dX11_sure_109 : decode cX11_sure 109 = .ok (.iload 4, 2) := by decide +kernel
theorem dX11_sure_111 : decode cX11_sure 111 = .ok (.invokevirtual 201, 3) := by decide +kernel
theorem dX11_sure_114 : decode cX11_sure 114 = .ok (.ifCond .eq 7, 3) := by decide +kernel
theorem dX11_sure_117 : decode cX11_sure 117 = .ok (.iconst 1, 1) := by decide +kernel
theorem dX11_sure_118 : decode cX11_sure 118 = .ok (.goto 4, 3) := by decide +kernel
theorem dX11_sure_121 : decode cX11_sure 121 = .ok (.iconst 0, 1) := by decide +kernel
theorem dX11_sure_122 : decode cX11_sure 122 = .ok (.iadd, 1) := by decide +kernel
theorem dX11_sure_123 : decode cX11_sure 123 = .ok (.istore_n 2, 1) := by decide +kernel
theorem dX11_sure_124 : decode cX11_sure 124 = .ok (.iinc 3 1, 3) := by decide +kernel
theorem dX11_sure_127 : decode cX11_sure 127 = .ok (.goto (-112), 3) := by decide +kernel
theorem dX11_sure_130 : decode cX11_sure 130 = .ok (.iload_n 2, 1) := by decide +kernel
theorem dX11_sure_131 : decode cX11_sure 131 = .ok (.ireturn, 1) := by decide +kernel
theorem dX11_aboard_0 : decode cX11_aboard 0 = .ok (.aload_n 0, 1) := by decide +kernel
theorem dX11_aboard_1 : decode cX11_aboard 1 = .ok (.iload_n 1, 1) := by decide +kernel
theorem dX11_aboard_2 : decode cX11_aboard 2 = .ok (.invokevirtual 184, 3) := by decide +kernel
theorem dX11_aboard_5 : decode cX11_aboard 5 = .ok (.ifCond .eq 19, 3) := by decide +kernel
theorem dX11_aboard_8 : decode cX11_aboard 8 = .ok (.aload_n 0, 1) := by decide +kernel
theorem dX11_aboard_9 : decode cX11_aboard 9 = .ok (.iload_n 2, 1) := by decide +kernel
theorem dX11_aboard_10 : decode cX11_aboard 10 = .ok (.invokevirtual 204, 3) := by decide +kernel
theorem dX11_aboard_13 : decode cX11_aboard 13 = .ok (.ifCond .eq 11, 3) := by decide +kernel
theorem dX11_aboard_16 : decode cX11_aboard 16 = .ok (.aload_n 0, 1) := by decide +kernel
theorem dX11_aboard_17 : decode cX11_aboard 17 = .ok (.iload_n 3, 1) := by decide +kernel
theorem dX11_aboard_18 : decode cX11_aboard 18 = .ok (.invokevirtual 204, 3) := by decide +kernel
theorem dX11_aboard_21 : decode cX11_aboard 21 = .ok (.ifCond .ne 6, 3) := by decide +kernel
theorem dX11_aboard_24 : decode cX11_aboard 24 = .ok (.bipush (-2), 2) := by decide +kernel
theorem dX11_aboard_26 : decode cX11_aboard 26 = .ok (.ireturn, 1) := by decide +kernel
theorem dX11_aboard_27 : decode cX11_aboard 27 = .ok (.iload 4, 2) := by decide +kernel
theorem dX11_aboard_29 : decode cX11_aboard 29 = .ok (.iconst 0, 1) := by decide +kernel
theorem dX11_aboard_30 : decode cX11_aboard 30 = .ok (.iconst 2, 1) := by decide +kernel
theorem dX11_aboard_31 : decode cX11_aboard 31 = .ok (.invokestatic 51, 3) := by decide +kernel
theorem dX11_aboard_34 : decode cX11_aboard 34 = .ok (.ifCond .ne 6, 3) := by decide +kernel
theorem dX11_aboard_37 : decode cX11_aboard 37 = .ok (.bipush (-3), 2) := by decide +kernel
theorem dX11_aboard_39 : decode cX11_aboard 39 = .ok (.ireturn, 1) := by decide +kernel
theorem dX11_aboard_40 : decode cX11_aboard 40 = .ok (.iconst 0, 1) := by decide +kernel
theorem dX11_aboard_41 : decode cX11_aboard 41 = .ok (.istore 5, 2) := by decide +kernel
theorem dX11_aboard_43 : decode cX11_aboard 43 = .ok (.iconst 0, 1) := by decide +kernel
theorem dX11_aboard_44 : decode cX11_aboard 44 = .ok (.istore 6, 2) := by decide +kernel
theorem dX11_aboard_46 : decode cX11_aboard 46 = .ok (.iconst 1, 1) := by decide +kernel
theorem dX11_aboard_47 : decode cX11_aboard 47 = .ok (.aload_n 0, 1) := by decide +kernel
theorem dX11_aboard_48 : decode cX11_aboard 48 = .ok (.getfield 47, 3) := by decide +kernel
theorem dX11_aboard_51 : decode cX11_aboard 51 = .ok (.ishl, 1) := by decide +kernel
theorem dX11_aboard_52 : decode cX11_aboard 52 = .ok (.iconst 1, 1) := by decide +kernel
theorem dX11_aboard_53 : decode cX11_aboard 53 = .ok (.isub, 1) := by decide +kernel
theorem dX11_aboard_54 : decode cX11_aboard 54 = .ok (.istore 7, 2) := by decide +kernel
theorem dX11_aboard_56 : decode cX11_aboard 56 = .ok (.iconst 0, 1) := by decide +kernel
theorem dX11_aboard_57 : decode cX11_aboard 57 = .ok (.istore 8, 2) := by decide +kernel
theorem dX11_aboard_59 : decode cX11_aboard 59 = .ok (.iload 8, 2) := by decide +kernel
theorem dX11_aboard_61 : decode cX11_aboard 61 = .ok (.iconst 1, 1) := by decide +kernel
theorem dX11_aboard_62 : decode cX11_aboard 62 = .ok (.aload_n 0, 1) := by decide +kernel
theorem dX11_aboard_63 : decode cX11_aboard 63 = .ok (.getfield 47, 3) := by decide +kernel
theorem dX11_aboard_66 : decode cX11_aboard 66 = .ok (.ishl, 1) := by decide +kernel
theorem dX11_aboard_67 : decode cX11_aboard 67 = .ok (.if_icmp .ge 64, 3) := by decide +kernel
theorem dX11_aboard_70 : decode cX11_aboard 70 = .ok (.iload_n 2, 1) := by decide +kernel
theorem dX11_aboard_71 : decode cX11_aboard 71 = .ok (.iload 8, 2) := by decide +kernel
theorem dX11_aboard_73 : decode cX11_aboard 73 = .ok (.iconst (-1), 1) := by decide +kernel
theorem dX11_aboard_74 : decode cX11_aboard 74 = .ok (.ixor, 1) := by decide +kernel
theorem dX11_aboard_75 : decode cX11_aboard 75 = .ok (.iand, 1) := by decide +kernel
theorem dX11_aboard_76 : decode cX11_aboard 76 = .ok (.ifCond .ne 49, 3) := by decide +kernel
theorem dX11_aboard_79 : decode cX11_aboard 79 = .ok (.iload_n 3, 1) := by decide +kernel
theorem dX11_aboard_80 : decode cX11_aboard 80 = .ok (.iload 8, 2) := by decide +kernel
theorem dX11_aboard_82 : decode cX11_aboard 82 = .ok (.iand, 1) := by decide +kernel
theorem dX11_aboard_83 : decode cX11_aboard 83 = .ok (.ifCond .ne 42, 3) := by decide +kernel
theorem dX11_aboard_86 : decode cX11_aboard 86 = .ok (.aload_n 0, 1) := by decide +kernel
theorem dX11_aboard_87 : decode cX11_aboard 87 = .ok (.iload_n 1, 1) := by decide +kernel
theorem dX11_aboard_88 : decode cX11_aboard 88 = .ok (.iload 8, 2) := by decide +kernel
theorem dX11_aboard_90 : decode cX11_aboard 90 = .ok (.aload_n 0, 1) := by decide +kernel
theorem dX11_aboard_91 : decode cX11_aboard 91 = .ok (.getfield 155, 3) := by decide +kernel
theorem dX11_aboard_94 : decode cX11_aboard 94 = .ok (.aload_n 0, 1) := by decide +kernel
theorem dX11_aboard_95 : decode cX11_aboard 95 = .ok (.getfield 158, 3) := by decide +kernel
theorem dX11_aboard_98 : decode cX11_aboard 98 = .ok (.aload_n 0, 1) := by decide +kernel
theorem dX11_aboard_99 : decode cX11_aboard 99 = .ok (.getfield 161, 3) := by decide +kernel
theorem dX11_aboard_102 : decode cX11_aboard 102 = .ok (.invokevirtual 207, 3) := by decide +kernel
theorem dX11_aboard_105 : decode cX11_aboard 105 = .ok (.ifCond .eq 20, 3) := by decide +kernel
theorem dX11_aboard_108 : decode cX11_aboard 108 = .ok (.iinc 5 1, 3) := by decide +kernel
theorem dX11_aboard_111 : decode cX11_aboard 111 = .ok (.iload 6, 2) := by decide +kernel
theorem dX11_aboard_113 : decode cX11_aboard 113 = .ok (.iload 8, 2) := by decide +kernel
theorem dX11_aboard_115 : decode cX11_aboard 115 = .ok (.ior, 1) := by decide +kernel
theorem dX11_aboard_116 : decode cX11_aboard 116 = .ok (.istore 6, 2) := by decide +kernel
theorem dX11_aboard_118 : decode cX11_aboard 118 = .ok (.iload 7, 2) := by decide +kernel
theorem dX11_aboard_120 : decode cX11_aboard 120 = .ok (.iload 8, 2) := by decide +kernel
theorem dX11_aboard_122 : decode cX11_aboard 122 = .ok (.iand, 1) := by decide +kernel
theorem dX11_aboard_123 : decode cX11_aboard 123 = .ok (.istore 7, 2) := by decide +kernel
theorem dX11_aboard_125 : decode cX11_aboard 125 = .ok (.iinc 8 1, 3) := by decide +kernel
theorem dX11_aboard_128 : decode cX11_aboard 128 = .ok (.goto (-69), 3) := by decide +kernel
theorem dX11_aboard_131 : decode cX11_aboard 131 = .ok (.iload 4, 2) := by decide +kernel
theorem dX11_aboard_133 : decode cX11_aboard 133 = .ok (.ifCond .ne 8, 3) := by decide +kernel
theorem dX11_aboard_136 : decode cX11_aboard 136 = .ok (.iload 5, 2) := by decide +kernel
theorem dX11_aboard_138 : decode cX11_aboard 138 = .ok (.goto 25, 3) := by decide +kernel
theorem dX11_aboard_141 : decode cX11_aboard 141 = .ok (.iload 5, 2) := by decide +kernel
theorem dX11_aboard_143 : decode cX11_aboard 143 = .ok (.ifCond .ne 7, 3) := by decide +kernel
theorem dX11_aboard_146 : decode cX11_aboard 146 = .ok (.iconst (-1), 1) := by decide +kernel
theorem dX11_aboard_147 : decode cX11_aboard 147 = .ok (.goto 16, 3) := by decide +kernel
theorem dX11_aboard_150 : decode cX11_aboard 150 = .ok (.iload 4, 2) := by decide +kernel
theorem dX11_aboard_152 : decode cX11_aboard 152 = .ok (.iconst 1, 1) := by decide +kernel
theorem dX11_aboard_153 : decode cX11_aboard 153 = .ok (.if_icmp .ne 8, 3) := by decide +kernel
theorem dX11_aboard_156 : decode cX11_aboard 156 = .ok (.iload 6, 2) := by decide +kernel
theorem dX11_aboard_158 : decode cX11_aboard 158 = .ok (.goto 5, 3) := by decide +kernel
theorem dX11_aboard_161 : decode cX11_aboard 161 = .ok (.iload 7, 2) := by decide +kernel
theorem dX11_aboard_163 : decode cX11_aboard 163 = .ok (.ireturn, 1) := by decide +kernel
theorem dX11_isOver_0 : decode cX11_isOver 0 = .ok (.iload_n 2, 1) := by decide +kernel
theorem dX11_isOver_1 : decode cX11_isOver 1 = .ok (.iconst 1, 1) := by decide +kernel
theorem dX11_isOver_2 : decode cX11_isOver 2 = .ok (.if_icmp .ne 19, 3) := by decide +kernel
theorem dX11_isOver_5 : decode cX11_isOver 5 = .ok (.iload_n 1, 1) := by decide +kernel
theorem dX11_isOver_6 : decode cX11_isOver 6 = .ok (.iload_n 0, 1) := by decide +kernel
theorem dX11_isOver_7 : decode cX11_isOver 7 = .ok (.iconst (-1), 1) := by decide +kernel
theorem dX11_isOver_8 : decode cX11_isOver 8 = .ok (.ixor, 1) := by decide +kernel
theorem dX11_isOver_9 : decode cX11_isOver 9 = .ok (.iand, 1) := by decide +kernel
theorem dX11_isOver_10 : decode cX11_isOver 10 = .ok (.ifCond .ne 7, 3) := by decide +kernel
theorem dX11_isOver_13 : decode cX11_isOver 13 = .ok (.iconst 1, 1) := by decide +kernel
theorem dX11_isOver_14 : decode cX11_isOver 14 = .ok (.goto 18, 3) := by decide +kernel
theorem dX11_isOver_17 : decode cX11_isOver 17 = .ok (.iconst 0, 1) := by decide +kernel
theorem dX11_isOver_18 : decode cX11_isOver 18 = .ok (.goto 14, 3) := by decide +kernel
theorem dX11_isOver_21 : decode cX11_isOver 21 = .ok (.iload_n 1, 1) := by decide +kernel
theorem dX11_isOver_22 : decode cX11_isOver 22 = .ok (.iload_n 0, 1) := by decide +kernel
theorem dX11_isOver_23 : decode cX11_isOver 23 = .ok (.iand, 1) := by decide +kernel
theorem dX11_isOver_24 : decode cX11_isOver 24 = .ok (.ifCond .ne 7, 3) := by decide +kernel
theorem dX11_isOver_27 : decode cX11_isOver 27 = .ok (.iconst 1, 1) := by decide +kernel
theorem dX11_isOver_28 : decode cX11_isOver 28 = .ok (.goto 4, 3) := by decide +kernel
theorem dX11_isOver_31 : decode cX11_isOver 31 = .ok (.iconst 0, 1) := by decide +kernel
theorem dX11_isOver_32 : decode cX11_isOver 32 = .ok (.ireturn, 1) := by decide +kernel
theorem dX11_goThrough_0 : decode cX11_goThrough 0 = .ok (.iconst 0, 1) := by decide +kernel
theorem dX11_goThrough_1 : decode cX11_goThrough 1 = .ok (.istore_n 3, 1) := by decide +kernel
theorem dX11_goThrough_2 : decode cX11_goThrough 2 = .ok (.iload_n 3, 1) := by decide +kernel
theorem dX11_goThrough_3 : decode cX11_goThrough 3 = .ok (.sipush 2048, 3) := by decide +kernel
theorem dX11_goThrough_6 : decode cX11_goThrough 6 = .ok (.if_icmp .ge 16, 3) := by decide +kernel
theorem dX11_goThrough_9 : decode cX11_goThrough 9 = .ok (.aload_n 0, 1) := by decide +kernel
theorem dX11_goThrough_10 : decode cX11_goThrough 10 = .ok (.getfield 35, 3) := by decide +kernel
theorem dX11_goThrough_13 : decode cX11_goThrough 13 = .ok (.iload_n 3, 1) := by decide +kernel
theorem dX11_goThrough_14 : decode cX11_goThrough 14 = .ok (.iconst (-1), 1) := by decide +kernel
theorem dX11_goThrough_15 : decode cX11_goThrough 15 = .ok (.iastore, 1) := by decide +kernel
theorem dX11_goThrough_16 : decode cX11_goThrough 16 = .ok (.iinc 3 1, 3) := by decide +kernel
theorem dX11_goThrough_19 : decode cX11_goThrough 19 = .ok (.goto (-17), 3) := by decide +kernel
theorem dX11_goThrough_22 : decode cX11_goThrough 22 = .ok (.sipush 256, 3) := by decide +kernel
theorem dX11_goThrough_25 : decode cX11_goThrough 25 = .ok (.aload_n 0, 1) := by decide +kernel
theorem dX11_goThrough_26 : decode cX11_goThrough 26 = .ok (.getfield 158, 3) := by decide +kernel
theorem dX11_goThrough_29 : decode cX11_goThrough 29 = .ok (.imul, 1) := by decide +kernel
theorem dX11_goThrough_30 : decode cX11_goThrough 30 = .ok (.aload_n 0, 1) := by decide +kernel
theorem dX11_goThrough_31 : decode cX11_goThrough 31 = .ok (.getfield 155, 3) := by decide +kernel
theorem dX11_goThrough_34 : decode cX11_goThrough 34 = .ok (.iadd, 1) := by decide +kernel
theorem dX11_goThrough_35 : decode cX11_goThrough 35 = .ok (.istore_n 3, 1) := by decide +kernel
theorem dX11_goThrough_36 : decode cX11_goThrough 36 = .ok (.iconst 1, 1) := by decide +kernel
theorem dX11_goThrough_37 : decode cX11_goThrough 37 = .ok (.istore 4, 2) := by decide +kernel
theorem dX11_goThrough_39 : decode cX11_goThrough 39 = .ok (.aload_n 0, 1) := by decide +kernel
theorem dX11_goThrough_40 : decode cX11_goThrough 40 = .ok (.getfield 44, 3) := by decide +kernel
theorem dX11_goThrough_43 : decode cX11_goThrough 43 = .ok (.iconst 0, 1) := by decide +kernel
theorem dX11_goThrough_44 : decode cX11_goThrough 44 = .ok (.iload_n 3, 1) := by decide +kernel
theorem dX11_goThrough_45 : decode cX11_goThrough 45 = .ok (.iastore, 1) := by decide +kernel
theorem dX11_goThrough_46 : decode cX11_goThrough 46 = .ok (.aload_n 0, 1) := by decide +kernel
theorem dX11_goThrough_47 : decode cX11_goThrough 47 = .ok (.getfield 35, 3) := by decide +kernel
theorem dX11_goThrough_50 : decode cX11_goThrough 50 = .ok (.iload_n 3, 1) := by decide +kernel
theorem dX11_goThrough_51 : decode cX11_goThrough 51 = .ok (.iconst 0, 1) := by decide +kernel
theorem dX11_goThrough_52 : decode cX11_goThrough 52 = .ok (.iastore, 1) := by decide +kernel
theorem dX11_goThrough_53 : decode cX11_goThrough 53 = .ok (.iconst 0, 1) := by decide +kernel
theorem dX11_goThrough_54 : decode cX11_goThrough 54 = .ok (.istore 5, 2) := by decide +kernel
theorem dX11_goThrough_56 : decode cX11_goThrough 56 = .ok (.iload 5, 2) := by decide +kernel
theorem dX11_goThrough_58 : decode cX11_goThrough 58 = .ok (.iload 4, 2) := by decide +kernel
theorem dX11_goThrough_60 : decode cX11_goThrough 60 = .ok (.if_icmp .ge 177, 3) := by decide +kernel
theorem dX11_goThrough_63 : decode cX11_goThrough 63 = .ok (.aload_n 0, 1) := by decide +kernel
theorem dX11_goThrough_64 : decode cX11_goThrough 64 = .ok (.getfield 44, 3) := by decide +kernel
theorem dX11_goThrough_67 : decode cX11_goThrough 67 = .ok (.iload 5, 2) := by decide +kernel
theorem dX11_goThrough_69 : decode cX11_goThrough 69 = .ok (.iaload, 1) := by decide +kernel
theorem dX11_goThrough_70 : decode cX11_goThrough 70 = .ok (.istore 6, 2) := by decide +kernel
theorem dX11_goThrough_72 : decode cX11_goThrough 72 = .ok (.iload 6, 2) := by decide +kernel
theorem dX11_goThrough_74 : decode cX11_goThrough 74 = .ok (.sipush 255, 3) := by decide +kernel
theorem dX11_goThrough_77 : decode cX11_goThrough 77 = .ok (.iand, 1) := by decide +kernel
theorem dX11_goThrough_78 : decode cX11_goThrough 78 = .ok (.iload_n 1, 1) := by decide +kernel
theorem dX11_goThrough_79 : decode cX11_goThrough 79 = .ok (.iload_n 2, 1) := by decide +kernel
theorem dX11_goThrough_80 : decode cX11_goThrough 80 = .ok (.invokestatic 217, 3) := by decide +kernel
theorem dX11_goThrough_83 : decode cX11_goThrough 83 = .ok (.ifCond .eq 6, 3) := by decide +kernel
theorem dX11_goThrough_86 : decode cX11_goThrough 86 = .ok (.iload 6, 2) := by decide +kernel
theorem dX11_goThrough_88 : decode cX11_goThrough 88 = .ok (.ireturn, 1) := by decide +kernel
theorem dX11_goThrough_89 : decode cX11_goThrough 89 = .ok (.iconst 0, 1) := by decide +kernel
theorem dX11_goThrough_90 : decode cX11_goThrough 90 = .ok (.istore 7, 2) := by decide +kernel
theorem dX11_goThrough_92 : decode cX11_goThrough 92 = .ok (.iload 7, 2) := by decide +kernel
theorem dX11_goThrough_94 : decode cX11_goThrough 94 = .ok (.aload_n 0, 1) := by decide +kernel
theorem dX11_goThrough_95 : decode cX11_goThrough 95 = .ok (.getfield 55, 3) := by decide +kernel
theorem dX11_goThrough_98 : decode cX11_goThrough 98 = .ok (.if_icmp .ge 133, 3) := by decide +kernel
theorem dX11_goThrough_101 : decode cX11_goThrough 101 = .ok (.iconst 1, 1) := by decide +kernel
theorem dX11_goThrough_102 : decode cX11_goThrough 102 = .ok (.istore 8, 2) := by decide +kernel
theorem dX11_goThrough_104 : decode cX11_goThrough 104 = .ok (.iload 8, 2) := by decide +kernel
theorem dX11_goThrough_106 : decode cX11_goThrough 106 = .ok (.iconst 1, 1) := by decide +kernel
theorem dX11_goThrough_107 : decode cX11_goThrough 107 = .ok (.aload_n 0, 1) := by decide +kernel
theorem dX11_goThrough_108 : decode cX11_goThrough 108 = .ok (.getfield 47, 3) := by decide +kernel
theorem dX11_goThrough_111 : decode cX11_goThrough 111 = .ok (.ishl, 1) := by decide +kernel
theorem dX11_goThrough_112 : decode cX11_goThrough 112 = .ok (.if_icmp .ge 113, 3) := by decide +kernel
theorem dX11_goThrough_115 : decode cX11_goThrough 115 = .ok (.iload 6, 2) := by decide +kernel
theorem dX11_goThrough_117 : decode cX11_goThrough 117 = .ok (.iload 8, 2) := by decide +kernel
theorem dX11_goThrough_119 : decode cX11_goThrough 119 = .ok (.ixor, 1) := by decide +kernel
theorem dX11_goThrough_120 : decode cX11_goThrough 120 = .ok (.sipush 256, 3) := by decide +kernel
theorem dX11_goThrough_123 : decode cX11_goThrough 123 = .ok (.iload 7, 2) := by decide +kernel
theorem dX11_goThrough_125 : decode cX11_goThrough 125 = .ok (.ishl, 1) := by decide +kernel
theorem dX11_goThrough_126 : decode cX11_goThrough 126 = .ok (.ixor, 1) := by decide +kernel
theorem dX11_goThrough_127 : decode cX11_goThrough 127 = .ok (.istore 9, 2) := by decide +kernel
theorem dX11_goThrough_129 : decode cX11_goThrough 129 = .ok (.aload_n 0, 1) := by decide +kernel
theorem dX11_goThrough_130 : decode cX11_goThrough 130 = .ok (.getfield 35, 3) := by decide +kernel
theorem dX11_goThrough_133 : decode cX11_goThrough 133 = .ok (.iload 9, 2) := by decide +kernel
theorem dX11_goThrough_135 : decode cX11_goThrough 135 = .ok (.iaload, 1) := by decide +kernel
theorem dX11_goThrough_136 : decode cX11_goThrough 136 = .ok (.iconst (-1), 1) := by decide +kernel
theorem dX11_goThrough_137 : decode cX11_goThrough 137 = .ok (.if_icmp .ne 82, 3) := by decide +kernel
theorem dX11_goThrough_140 : decode cX11_goThrough 140 = .ok (.aload_n 0, 1) := by decide +kernel
theorem dX11_goThrough_141 : decode cX11_goThrough 141 = .ok (.iload 7, 2) := by decide +kernel
theorem dX11_goThrough_143 : decode cX11_goThrough 143 = .ok (.iload 8, 2) := by decide +kernel
theorem dX11_goThrough_145 : decode cX11_goThrough 145 = .ok (.iload 6, 2) := by decide +kernel
theorem dX11_goThrough_147 : decode cX11_goThrough 147 = .ok (.sipush 255, 3) := by decide +kernel
theorem dX11_goThrough_150 : decode cX11_goThrough 150 = .ok (.iand, 1) := by decide +kernel
theorem dX11_goThrough_151 : decode cX11_goThrough 151 = .ok (.iload 6, 2) := by decide +kernel
theorem dX11_goThrough_153 : decode cX11_goThrough 153 = .ok (.bipush 8, 2) := by decide +kernel
theorem dX11_goThrough_155 : decode cX11_goThrough 155 = .ok (.ishr, 1) := by decide +kernel
theorem dX11_goThrough_156 : decode cX11_goThrough 156 = .ok (.aload_n 0, 1) := by decide +kernel
theorem dX11_goThrough_157 : decode cX11_goThrough 157 = .ok (.getfield 161, 3) := by decide +kernel
theorem dX11_goThrough_160 : decode cX11_goThrough 160 = .ok (.invokevirtual 207, 3) := by decide +kernel
theorem dX11_goThrough_163 : decode cX11_goThrough 163 = .ok (.ifCond .eq 56, 3) := by decide +kernel
theorem dX11_goThrough_166 : decode cX11_goThrough 166 = .ok (.aload_n 0, 1) := by decide +kernel
theorem dX11_goThrough_167 : decode cX11_goThrough 167 = .ok (.getfield 35, 3) := by decide +kernel
theorem dX11_goThrough_170 : decode cX11_goThrough 170 = .ok (.iload 9, 2) := by decide +kernel
theorem dX11_goThrough_172 : decode cX11_goThrough 172 = .ok (.aload_n 0, 1) := by decide +kernel
theorem dX11_goThrough_173 : decode cX11_goThrough 173 = .ok (.getfield 35, 3) := by decide +kernel
theorem dX11_goThrough_176 : decode cX11_goThrough 176 = .ok (.iload 6, 2) := by decide +kernel
theorem dX11_goThrough_178 : decode cX11_goThrough 178 = .ok (.iaload, 1) := by decide +kernel
theorem dX11_goThrough_179 : decode cX11_goThrough 179 = .ok (.iconst 1, 1) := by decide +kernel
theorem dX11_goThrough_180 : decode cX11_goThrough 180 = .ok (.iadd, 1) := by decide +kernel
theorem dX11_goThrough_181 : decode cX11_goThrough 181 = .ok (.iastore, 1) := by decide +kernel
theorem dX11_goThrough_182 : decode cX11_goThrough 182 = .ok (.aload_n 0, 1) := by decide +kernel
theorem dX11_goThrough_183 : decode cX11_goThrough 183 = .ok (.getfield 38, 3) := by decide +kernel
theorem dX11_goThrough_186 : decode cX11_goThrough 186 = .ok (.iload 9, 2) := by decide +kernel
theorem dX11_goThrough_188 : decode cX11_goThrough 188 = .ok (.iload 6, 2) := by decide +kernel
theorem dX11_goThrough_190 : decode cX11_goThrough 190 = .ok (.iastore, 1) := by decide +kernel
theorem dX11_goThrough_191 : decode cX11_goThrough 191 = .ok (.aload_n 0, 1) := by decide +kernel
theorem dX11_goThrough_192 : decode cX11_goThrough 192 = .ok (.getfield 41, 3) := by decide +kernel
theorem dX11_goThrough_195 : decode cX11_goThrough 195 = .ok (.iload 9, 2) := by decide +kernel
theorem dX11_goThrough_197 : decode cX11_goThrough 197 = .ok (.sipush 256, 3) := by decide +kernel
theorem dX11_goThrough_200 : decode cX11_goThrough 200 = .ok (.iload 7, 2) := by decide +kernel
theorem dX11_goThrough_202 : decode cX11_goThrough 202 = .ok (.imul, 1) := by decide +kernel
theorem dX11_goThrough_203 : decode cX11_goThrough 203 = .ok (.iload 8, 2) := by decide +kernel
theorem dX11_goThrough_205 : decode cX11_goThrough 205 = .ok (.iadd, 1) := by decide +kernel
theorem dX11_goThrough_206 : decode cX11_goThrough 206 = .ok (.iastore, 1) := by decide +kernel
theorem dX11_goThrough_207 : decode cX11_goThrough 207 = .ok (.aload_n 0, 1) := by decide +kernel
theorem dX11_goThrough_208 : decode cX11_goThrough 208 = .ok (.getfield 44, 3) := by decide +kernel
theorem dX11_goThrough_211 : decode cX11_goThrough 211 = .ok (.iload 4, 2) := by decide +kernel
theorem dX11_goThrough_213 : decode cX11_goThrough 213 = .ok (.iload 9, 2) := by decide +kernel
theorem dX11_goThrough_215 : decode cX11_goThrough 215 = .ok (.iastore, 1) := by decide +kernel
theorem dX11_goThrough_216 : decode cX11_goThrough 216 = .ok (.iinc 4 1, 3) := by decide +kernel
theorem dX11_goThrough_219 : decode cX11_goThrough 219 = .ok (.iinc 8 1, 3) := by decide +kernel
theorem dX11_goThrough_222 : decode cX11_goThrough 222 = .ok (.goto (-118), 3) := by decide +kernel
theorem dX11_goThrough_225 : decode cX11_goThrough 225 = .ok (.iinc 7 1, 3) := by decide +kernel
theorem dX11_goThrough_228 : decode cX11_goThrough 228 = .ok (.goto (-136), 3) := by decide +kernel
theorem dX11_goThrough_231 : decode cX11_goThrough 231 = .ok (.iinc 5 1, 3) := by decide +kernel
theorem dX11_goThrough_234 : decode cX11_goThrough 234 = .ok (.goto (-178), 3) := by decide +kernel
theorem dX11_goThrough_237 : decode cX11_goThrough 237 = .ok (.iconst (-1), 1) := by decide +kernel
theorem dX11_goThrough_238 : decode cX11_goThrough 238 = .ok (.ireturn, 1) := by decide +kernel
theorem dX11_fewest_0 : decode cX11_fewest 0 = .ok (.aload_n 0, 1) := by decide +kernel
theorem dX11_fewest_1 : decode cX11_fewest 1 = .ok (.iload_n 1, 1) := by decide +kernel
theorem dX11_fewest_2 : decode cX11_fewest 2 = .ok (.invokevirtual 204, 3) := by decide +kernel
theorem dX11_fewest_5 : decode cX11_fewest 5 = .ok (.ifCond .eq 10, 3) := by decide +kernel
theorem dX11_fewest_8 : decode cX11_fewest 8 = .ok (.iload_n 2, 1) := by decide +kernel
theorem dX11_fewest_9 : decode cX11_fewest 9 = .ok (.invokestatic 214, 3) := by decide +kernel
theorem dX11_fewest_12 : decode cX11_fewest 12 = .ok (.ifCond .ne 6, 3) := by decide +kernel
