theorem dX10_go_281 : decode cX10_go 281 = .ok (.iconst 4, 1) := by decide +kernel
theorem dX10_go_282 : decode cX10_go 282 = .ok (.if_icmp .ge 20, 3) := by decide +kernel
theorem dX10_go_285 : decode cX10_go 285 = .ok (.aload_n 0, 1) := by decide +kernel
theorem dX10_go_286 : decode cX10_go 286 = .ok (.bipush 10, 2) := by decide +kernel
theorem dX10_go_288 : decode cX10_go 288 = .ok (.aload_n 0, 1) := by decide +kernel
theorem dX10_go_289 : decode cX10_go 289 = .ok (.getfield 107, 3) := by decide +kernel
theorem dX10_go_292 : decode cX10_go 292 = .ok (.imul, 1) := by decide +kernel
theorem dX10_go_293 : decode cX10_go 293 = .ok (.iload 4, 2) := by decide +kernel
theorem dX10_go_295 : decode cX10_go 295 = .ok (.iadd, 1) := by decide +kernel
theorem dX10_go_296 : decode cX10_go 296 = .ok (.bipush 48, 2) := by decide +kernel
theorem dX10_go_298 : decode cX10_go 298 = .ok (.isub, 1) := by decide +kernel
theorem dX10_go_299 : decode cX10_go 299 = .ok (.putfield 107, 3) := by decide +kernel
theorem dX10_go_302 : decode cX10_go 302 = .ok (.aload_n 0, 1) := by decide +kernel
theorem dX10_go_303 : decode cX10_go 303 = .ok (.dup, 1) := by decide +kernel
theorem dX10_go_304 : decode cX10_go 304 = .ok (.getfield 87, 3) := by decide +kernel
theorem dX10_go_307 : decode cX10_go 307 = .ok (.iconst 1, 1) := by decide +kernel
theorem dX10_go_308 : decode cX10_go 308 = .ok (.iadd, 1) := by decide +kernel
theorem dX10_go_309 : decode cX10_go 309 = .ok (.putfield 87, 3) := by decide +kernel
theorem dX10_go_312 : decode cX10_go 312 = .ok (.goto (-138), 3) := by decide +kernel
theorem dX10_go_315 : decode cX10_go 315 = .ok (.aload_n 0, 1) := by decide +kernel
theorem dX10_go_316 : decode cX10_go 316 = .ok (.iload_n 3, 1) := by decide +kernel
theorem dX10_go_317 : decode cX10_go 317 = .ok (.ifCond .eq 20, 3) := by decide +kernel
theorem dX10_go_320 : decode cX10_go 320 = .ok (.iload_n 2, 1) := by decide +kernel
theorem dX10_go_321 : decode cX10_go 321 = .ok (.ifCond .ne 20, 3) := by decide +kernel
theorem dX10_go_324 : decode cX10_go 324 = .ok (.aload_n 0, 1) := by decide +kernel
theorem dX10_go_325 : decode cX10_go 325 = .ok (.getfield 87, 3) := by decide +kernel
theorem dX10_go_328 : decode cX10_go 328 = .ok (.aload_n 0, 1) := by decide +kernel
theorem dX10_go_329 : decode cX10_go 329 = .ok (.getfield 90, 3) := by decide +kernel
theorem dX10_go_332 : decode cX10_go 332 = .ok (.isub, 1) := by decide +kernel
theorem dX10_go_333 : decode cX10_go 333 = .ok (.iconst 4, 1) := by decide +kernel
theorem dX10_go_334 : decode cX10_go 334 = .ok (.if_icmp .le 7, 3) := by decide +kernel
theorem dX10_go_337 : decode cX10_go 337 = .ok (.iconst 1, 1) := by decide +kernel
theorem dX10_go_338 : decode cX10_go 338 = .ok (.goto 12, 3) := by decide +kernel
theorem dX10_go_341 : decode cX10_go 341 = .ok (.iload_n 2, 1) := by decide +kernel
theorem dX10_go_342 : decode cX10_go 342 = .ok (.ifCond .eq 7, 3) := by decide +kernel
theorem dX10_go_345 : decode cX10_go 345 = .ok (.iconst 2, 1) := by decide +kernel
theorem dX10_go_346 : decode cX10_go 346 = .ok (.goto 4, 3) := by decide +kernel
theorem dX10_go_349 : decode cX10_go 349 = .ok (.iconst 3, 1) := by decide +kernel
theorem dX10_go_350 : decode cX10_go 350 = .ok (.putfield 93, 3) := by decide +kernel
theorem dX10_go_353 : decode cX10_go 353 = .ok (.return_, 1) := by decide +kernel
theorem dX10_spelt_0 : decode cX10_spelt 0 = .ok (.ldc2_w 114, 3) := by decide +kernel
theorem dX10_spelt_3 : decode cX10_spelt 3 = .ok (.ldc2_w 114, 3) := by decide +kernel
theorem dX10_spelt_6 : decode cX10_spelt 6 = .ok (.iload_n 0, 1) := by decide +kernel
theorem dX10_spelt_7 : decode cX10_spelt 7 = .ok (.i2l, 1) := by decide +kernel
theorem dX10_spelt_8 : decode cX10_spelt 8 = .ok (.ldc2_w 116, 3) := by decide +kernel
theorem dX10_spelt_11 : decode cX10_spelt 11 = .ok (.lsub, 1) := by decide +kernel
theorem dX10_spelt_12 : decode cX10_spelt 12 = .ok (.lmul, 1) := by decide +kernel
theorem dX10_spelt_13 : decode cX10_spelt 13 = .ok (.iload_n 1, 1) := by decide +kernel
theorem dX10_spelt_14 : decode cX10_spelt 14 = .ok (.i2l, 1) := by decide +kernel
theorem dX10_spelt_15 : decode cX10_spelt 15 = .ok (.ladd, 1) := by decide +kernel
theorem dX10_spelt_16 : decode cX10_spelt 16 = .ok (.ldc2_w 116, 3) := by decide +kernel
theorem dX10_spelt_19 : decode cX10_spelt 19 = .ok (.lsub, 1) := by decide +kernel
theorem dX10_spelt_20 : decode cX10_spelt 20 = .ok (.lmul, 1) := by decide +kernel
theorem dX10_spelt_21 : decode cX10_spelt 21 = .ok (.iload_n 2, 1) := by decide +kernel
theorem dX10_spelt_22 : decode cX10_spelt 22 = .ok (.i2l, 1) := by decide +kernel
theorem dX10_spelt_23 : decode cX10_spelt 23 = .ok (.ladd, 1) := by decide +kernel
theorem dX10_spelt_24 : decode cX10_spelt 24 = .ok (.ldc2_w 116, 3) := by decide +kernel
theorem dX10_spelt_27 : decode cX10_spelt 27 = .ok (.lsub, 1) := by decide +kernel
theorem dX10_spelt_28 : decode cX10_spelt 28 = .ok (.lreturn, 1) := by decide +kernel
theorem dX10_isKey_0 : decode cX10_isKey 0 = .ok (.aload_n 0, 1) := by decide +kernel
theorem dX10_isKey_1 : decode cX10_isKey 1 = .ok (.getfield 93, 3) := by decide +kernel
theorem dX10_isKey_4 : decode cX10_isKey 4 = .ok (.iconst 2, 1) := by decide +kernel
theorem dX10_isKey_5 : decode cX10_isKey 5 = .ok (.if_icmp .ne 16, 3) := by decide +kernel
theorem dX10_isKey_8 : decode cX10_isKey 8 = .ok (.aload_n 0, 1) := by decide +kernel
theorem dX10_isKey_9 : decode cX10_isKey 9 = .ok (.getfield 103, 3) := by decide +kernel
theorem dX10_isKey_12 : decode cX10_isKey 12 = .ok (.lload_n 1, 1) := by decide +kernel
theorem dX10_isKey_13 : decode cX10_isKey 13 = .ok (.lcmp, 1) := by decide +kernel
theorem dX10_isKey_14 : decode cX10_isKey 14 = .ok (.ifCond .ne 7, 3) := by decide +kernel
theorem dX10_isKey_17 : decode cX10_isKey 17 = .ok (.iconst 1, 1) := by decide +kernel
theorem dX10_isKey_18 : decode cX10_isKey 18 = .ok (.goto 4, 3) := by decide +kernel
theorem dX10_isKey_21 : decode cX10_isKey 21 = .ok (.iconst 0, 1) := by decide +kernel
theorem dX10_isKey_22 : decode cX10_isKey 22 = .ok (.ireturn, 1) := by decide +kernel
theorem dX10_ruleAtHand_0 : decode cX10_ruleAtHand 0 = .ok (.aload_n 0, 1) := by decide +kernel
theorem dX10_ruleAtHand_1 : decode cX10_ruleAtHand 1 = .ok (.ldc2_w 114, 3) := by decide +kernel
theorem dX10_ruleAtHand_4 : decode cX10_ruleAtHand 4 = .ok (.ldc2_w 120, 3) := by decide +kernel
theorem dX10_ruleAtHand_7 : decode cX10_ruleAtHand 7 = .ok (.bipush 119, 2) := by decide +kernel
theorem dX10_ruleAtHand_9 : decode cX10_ruleAtHand 9 = .ok (.bipush 111, 2) := by decide +kernel
theorem dX10_ruleAtHand_11 : decode cX10_ruleAtHand 11 = .ok (.bipush 114, 2) := by decide +kernel
theorem dX10_ruleAtHand_13 : decode cX10_ruleAtHand 13 = .ok (.invokestatic 122, 3) := by decide +kernel
theorem dX10_ruleAtHand_16 : decode cX10_ruleAtHand 16 = .ok (.lmul, 1) := by decide +kernel
theorem dX10_ruleAtHand_17 : decode cX10_ruleAtHand 17 = .ok (.bipush 107, 2) := by decide +kernel
theorem dX10_ruleAtHand_19 : decode cX10_ruleAtHand 19 = .ok (.bipush 101, 2) := by decide +kernel
theorem dX10_ruleAtHand_21 : decode cX10_ruleAtHand 21 = .ok (.bipush 114, 2) := by decide +kernel
theorem dX10_ruleAtHand_23 : decode cX10_ruleAtHand 23 = .ok (.invokestatic 122, 3) := by decide +kernel
theorem dX10_ruleAtHand_26 : decode cX10_ruleAtHand 26 = .ok (.ladd, 1) := by decide +kernel
theorem dX10_ruleAtHand_27 : decode cX10_ruleAtHand 27 = .ok (.lmul, 1) := by decide +kernel
theorem dX10_ruleAtHand_28 : decode cX10_ruleAtHand 28 = .ok (.ldc2_w 126, 3) := by decide +kernel
theorem dX10_ruleAtHand_31 : decode cX10_ruleAtHand 31 = .ok (.ladd, 1) := by decide +kernel
theorem dX10_ruleAtHand_32 : decode cX10_ruleAtHand 32 = .ok (.invokevirtual 128, 3) := by decide +kernel
theorem dX10_ruleAtHand_35 : decode cX10_ruleAtHand 35 = .ok (.ifCond .eq 5, 3) := by decide +kernel
theorem dX10_ruleAtHand_38 : decode cX10_ruleAtHand 38 = .ok (.iconst 0, 1) := by decide +kernel
theorem dX10_ruleAtHand_39 : decode cX10_ruleAtHand 39 = .ok (.ireturn, 1) := by decide +kernel
theorem dX10_ruleAtHand_40 : decode cX10_ruleAtHand 40 = .ok (.aload_n 0, 1) := by decide +kernel
theorem dX10_ruleAtHand_41 : decode cX10_ruleAtHand 41 = .ok (.ldc2_w 114, 3) := by decide +kernel
theorem dX10_ruleAtHand_44 : decode cX10_ruleAtHand 44 = .ok (.bipush 104, 2) := by decide +kernel
theorem dX10_ruleAtHand_46 : decode cX10_ruleAtHand 46 = .ok (.bipush 97, 2) := by decide +kernel
theorem dX10_ruleAtHand_48 : decode cX10_ruleAtHand 48 = .ok (.bipush 108, 2) := by decide +kernel
theorem dX10_ruleAtHand_50 : decode cX10_ruleAtHand 50 = .ok (.invokestatic 122, 3) := by decide +kernel
theorem dX10_ruleAtHand_53 : decode cX10_ruleAtHand 53 = .ok (.lmul, 1) := by decide +kernel
theorem dX10_ruleAtHand_54 : decode cX10_ruleAtHand 54 = .ok (.ldc2_w 132, 3) := by decide +kernel
theorem dX10_ruleAtHand_57 : decode cX10_ruleAtHand 57 = .ok (.ladd, 1) := by decide +kernel
theorem dX10_ruleAtHand_58 : decode cX10_ruleAtHand 58 = .ok (.invokevirtual 128, 3) := by decide +kernel
theorem dX10_ruleAtHand_61 : decode cX10_ruleAtHand 61 = .ok (.ifCond .eq 5, 3) := by decide +kernel
theorem dX10_ruleAtHand_64 : decode cX10_ruleAtHand 64 = .ok (.iconst 1, 1) := by decide +kernel
theorem dX10_ruleAtHand_65 : decode cX10_ruleAtHand 65 = .ok (.ireturn, 1) := by decide +kernel
theorem dX10_ruleAtHand_66 : decode cX10_ruleAtHand 66 = .ok (.aload_n 0, 1) := by decide +kernel
theorem dX10_ruleAtHand_67 : decode cX10_ruleAtHand 67 = .ok (.bipush 99, 2) := by decide +kernel
theorem dX10_ruleAtHand_69 : decode cX10_ruleAtHand 69 = .ok (.bipush 117, 2) := by decide +kernel
theorem dX10_ruleAtHand_71 : decode cX10_ruleAtHand 71 = .ok (.bipush 116, 2) := by decide +kernel
theorem dX10_ruleAtHand_73 : decode cX10_ruleAtHand 73 = .ok (.invokestatic 122, 3) := by decide +kernel
theorem dX10_ruleAtHand_76 : decode cX10_ruleAtHand 76 = .ok (.invokevirtual 128, 3) := by decide +kernel
theorem dX10_ruleAtHand_79 : decode cX10_ruleAtHand 79 = .ok (.ifCond .eq 5, 3) := by decide +kernel
theorem dX10_ruleAtHand_82 : decode cX10_ruleAtHand 82 = .ok (.iconst 2, 1) := by decide +kernel
theorem dX10_ruleAtHand_83 : decode cX10_ruleAtHand 83 = .ok (.ireturn, 1) := by decide +kernel
theorem dX10_ruleAtHand_84 : decode cX10_ruleAtHand 84 = .ok (.aload_n 0, 1) := by decide +kernel
theorem dX10_ruleAtHand_85 : decode cX10_ruleAtHand 85 = .ok (.ldc2_w 114, 3) := by decide +kernel
theorem dX10_ruleAtHand_88 : decode cX10_ruleAtHand 88 = .ok (.bipush 114, 2) := by decide +kernel
theorem dX10_ruleAtHand_90 : decode cX10_ruleAtHand 90 = .ok (.bipush 105, 2) := by decide +kernel
theorem dX10_ruleAtHand_92 : decode cX10_ruleAtHand 92 = .ok (.bipush 115, 2) := by decide +kernel
theorem dX10_ruleAtHand_94 : decode cX10_ruleAtHand 94 = .ok (.invokestatic 122, 3) := by decide +kernel
theorem dX10_ruleAtHand_97 : decode cX10_ruleAtHand 97 = .ok (.lmul, 1) := by decide +kernel
theorem dX10_ruleAtHand_98 : decode cX10_ruleAtHand 98 = .ok (.ldc2_w 134, 3) := by decide +kernel
theorem dX10_ruleAtHand_101 : decode cX10_ruleAtHand 101 = .ok (.ladd, 1) := by decide +kernel
theorem dX10_ruleAtHand_102 : decode cX10_ruleAtHand 102 = .ok (.invokevirtual 128, 3) := by decide +kernel
theorem dX10_ruleAtHand_105 : decode cX10_ruleAtHand 105 = .ok (.ifCond .eq 5, 3) := by decide +kernel
theorem dX10_ruleAtHand_108 : decode cX10_ruleAtHand 108 = .ok (.iconst 3, 1) := by decide +kernel
theorem dX10_ruleAtHand_109 : decode cX10_ruleAtHand 109 = .ok (.ireturn, 1) := by decide +kernel
theorem dX10_ruleAtHand_110 : decode cX10_ruleAtHand 110 = .ok (.aload_n 0, 1) := by decide +kernel
theorem dX10_ruleAtHand_111 : decode cX10_ruleAtHand 111 = .ok (.ldc2_w 114, 3) := by decide +kernel
theorem dX10_ruleAtHand_114 : decode cX10_ruleAtHand 114 = .ok (.bipush 102, 2) := by decide +kernel
theorem dX10_ruleAtHand_116 : decode cX10_ruleAtHand 116 = .ok (.bipush 97, 2) := by decide +kernel
theorem dX10_ruleAtHand_118 : decode cX10_ruleAtHand 118 = .ok (.bipush 108, 2) := by decide +kernel
theorem dX10_ruleAtHand_120 : decode cX10_ruleAtHand 120 = .ok (.invokestatic 122, 3) := by decide +kernel
theorem dX10_ruleAtHand_123 : decode cX10_ruleAtHand 123 = .ok (.lmul, 1) := by decide +kernel
theorem dX10_ruleAtHand_124 : decode cX10_ruleAtHand 124 = .ok (.ldc2_w 136, 3) := by decide +kernel
theorem dX10_ruleAtHand_127 : decode cX10_ruleAtHand 127 = .ok (.ladd, 1) := by decide +kernel
theorem dX10_ruleAtHand_128 : decode cX10_ruleAtHand 128 = .ok (.invokevirtual 128, 3) := by decide +kernel
theorem dX10_ruleAtHand_131 : decode cX10_ruleAtHand 131 = .ok (.ifCond .eq 5, 3) := by decide +kernel
theorem dX10_ruleAtHand_134 : decode cX10_ruleAtHand 134 = .ok (.iconst 4, 1) := by decide +kernel
theorem dX10_ruleAtHand_135 : decode cX10_ruleAtHand 135 = .ok (.ireturn, 1) := by decide +kernel
theorem dX10_ruleAtHand_136 : decode cX10_ruleAtHand 136 = .ok (.aload_n 0, 1) := by decide +kernel
theorem dX10_ruleAtHand_137 : decode cX10_ruleAtHand 137 = .ok (.ldc2_w 114, 3) := by decide +kernel
theorem dX10_ruleAtHand_140 : decode cX10_ruleAtHand 140 = .ok (.ldc2_w 114, 3) := by decide +kernel
theorem dX10_ruleAtHand_143 : decode cX10_ruleAtHand 143 = .ok (.bipush 108, 2) := by decide +kernel
theorem dX10_ruleAtHand_145 : decode cX10_ruleAtHand 145 = .ok (.bipush 101, 2) := by decide +kernel
theorem dX10_ruleAtHand_147 : decode cX10_ruleAtHand 147 = .ok (.bipush 97, 2) := by decide +kernel
theorem dX10_ruleAtHand_149 : decode cX10_ruleAtHand 149 = .ok (.invokestatic 122, 3) := by decide +kernel
theorem dX10_ruleAtHand_152 : decode cX10_ruleAtHand 152 = .ok (.lmul, 1) := by decide +kernel
theorem dX10_ruleAtHand_153 : decode cX10_ruleAtHand 153 = .ok (.ldc2_w 126, 3) := by decide +kernel
theorem dX10_ruleAtHand_156 : decode cX10_ruleAtHand 156 = .ok (.ladd, 1) := by decide +kernel
theorem dX10_ruleAtHand_157 : decode cX10_ruleAtHand 157 = .ok (.lmul, 1) := by decide +kernel
theorem dX10_ruleAtHand_158 : decode cX10_ruleAtHand 158 = .ok (.ldc2_w 138, 3) := by decide +kernel
theorem dX10_ruleAtHand_161 : decode cX10_ruleAtHand 161 = .ok (.ladd, 1) := by decide +kernel
theorem dX10_ruleAtHand_162 : decode cX10_ruleAtHand 162 = .ok (.invokevirtual 128, 3) := by decide +kernel
theorem dX10_ruleAtHand_165 : decode cX10_ruleAtHand 165 = .ok (.ifCond .eq 7, 3) := by decide +kernel
theorem dX10_ruleAtHand_168 : decode cX10_ruleAtHand 168 = .ok (.iconst 5, 1) := by decide +kernel
theorem dX10_ruleAtHand_169 : decode cX10_ruleAtHand 169 = .ok (.goto 4, 3) := by decide +kernel
theorem dX10_ruleAtHand_172 : decode cX10_ruleAtHand 172 = .ok (.iconst (-1), 1) := by decide +kernel
theorem dX10_ruleAtHand_173 : decode cX10_ruleAtHand 173 = .ok (.ireturn, 1) := by decide +kernel
theorem dX10_bad_0 : decode cX10_bad 0 = .ok (.aload_n 0, 1) := by decide +kernel
theorem dX10_bad_1 : decode cX10_bad 1 = .ok (.aload_n 0, 1) := by decide +kernel
theorem dX10_bad_2 : decode cX10_bad 2 = .ok (.getfield 93, 3) := by decide +kernel
theorem dX10_bad_5 : decode cX10_bad 5 = .ok (.iconst 1, 1) := by decide +kernel
theorem dX10_bad_6 : decode cX10_bad 6 = .ok (.if_icmp .ne 7, 3) := by decide +kernel
theorem dX10_bad_9 : decode cX10_bad 9 = .ok (.iconst 1, 1) := by decide +kernel
theorem dX10_bad_10 : decode cX10_bad 10 = .ok (.goto 4, 3) := by decide +kernel
theorem dX10_bad_13 : decode cX10_bad 13 = .ok (.iload_n 1, 1) := by decide +kernel
theorem dX10_bad_14 : decode cX10_bad 14 = .ok (.putfield 140, 3) := by decide +kernel
theorem dX10_bad_17 : decode cX10_bad 17 = .ok (.aload_n 0, 1) := by decide +kernel
theorem dX10_bad_18 : decode cX10_bad 18 = .ok (.aload_n 0, 1) := by decide +kernel
theorem dX10_bad_19 : decode cX10_bad 19 = .ok (.getfield 90, 3) := by decide +kernel
theorem dX10_bad_22 : decode cX10_bad 22 = .ok (.putfield 143, 3) := by decide +kernel
theorem dX10_bad_25 : decode cX10_bad 25 = .ok (.iconst 0, 1) := by decide +kernel
theorem dX10_bad_26 : decode cX10_bad 26 = .ok (.ireturn, 1) := by decide +kernel
theorem dX10_readRule_0 : decode cX10_readRule 0 = .ok (.aload_n 0, 1) := by decide +kernel
theorem dX10_readRule_1 : decode cX10_readRule 1 = .ok (.invokevirtual 146, 3) := by decide +kernel
theorem dX10_readRule_4 : decode cX10_readRule 4 = .ok (.istore_n 1, 1) := by decide +kernel
theorem dX10_readRule_5 : decode cX10_readRule 5 = .ok (.iload_n 1, 1) := by decide +kernel
theorem dX10_readRule_6 : decode cX10_readRule 6 = .ok (.iconst (-1), 1) := by decide +kernel
theorem dX10_readRule_7 : decode cX10_readRule 7 = .ok (.if_icmp .ne 9, 3) := by decide +kernel
theorem dX10_readRule_10 : decode cX10_readRule 10 = .ok (.aload_n 0, 1) := by decide +kernel
theorem dX10_readRule_11 : decode cX10_readRule 11 = .ok (.iconst 1, 1) := by decide +kernel
theorem dX10_readRule_12 : decode cX10_readRule 12 = .ok (.invokevirtual 150, 3) := by decide +kernel
theorem dX10_readRule_15 : decode cX10_readRule 15 = .ok (.ireturn, 1) := by decide +kernel
theorem dX10_readRule_16 : decode cX10_readRule 16 = .ok (.aload_n 0, 1) := by decide +kernel
theorem dX10_readRule_17 : decode cX10_readRule 17 = .ok (.getfield 153, 3) := by decide +kernel
theorem dX10_readRule_20 : decode cX10_readRule 20 = .ok (.iload_n 1, 1) := by decide +kernel
theorem dX10_readRule_21 : decode cX10_readRule 21 = .ok (.ishr, 1) := by decide +kernel
theorem dX10_readRule_22 : decode cX10_readRule 22 = .ok (.iconst 1, 1) := by decide +kernel
theorem dX10_readRule_23 : decode cX10_readRule 23 = .ok (.iand, 1) := by decide +kernel
theorem dX10_readRule_24 : decode cX10_readRule 24 = .ok (.iconst 1, 1) := by decide +kernel
theorem dX10_readRule_25 : decode cX10_readRule 25 = .ok (.if_icmp .ne 9, 3) := by decide +kernel
theorem dX10_readRule_28 : decode cX10_readRule 28 = .ok (.aload_n 0, 1) := by decide +kernel
theorem dX10_readRule_29 : decode cX10_readRule 29 = .ok (.iconst 3, 1) := by decide +kernel
theorem dX10_readRule_30 : decode cX10_readRule 30 = .ok (.invokevirtual 150, 3) := by decide +kernel
theorem dX10_readRule_33 : decode cX10_readRule 33 = .ok (.ireturn, 1) := by decide +kernel
theorem dX10_readRule_34 : decode cX10_readRule 34 = .ok (.aload_n 0, 1) := by decide +kernel
theorem dX10_readRule_35 : decode cX10_readRule 35 = .ok (.invokevirtual 156, 3) := by decide +kernel
theorem dX10_readRule_38 : decode cX10_readRule 38 = .ok (.aload_n 0, 1) := by decide +kernel
theorem dX10_readRule_39 : decode cX10_readRule 39 = .ok (.getfield 93, 3) := by decide +kernel
theorem dX10_readRule_42 : decode cX10_readRule 42 = .ok (.iconst 3, 1) := by decide +kernel
theorem dX10_readRule_43 : decode cX10_readRule 43 = .ok (.if_icmp .eq 9, 3) := by decide +kernel
theorem dX10_readRule_46 : decode cX10_readRule 46 = .ok (.aload_n 0, 1) := by decide +kernel
theorem dX10_readRule_47 : decode cX10_readRule 47 = .ok (.iconst 1, 1) := by decide +kernel
theorem dX10_readRule_48 : decode cX10_readRule 48 = .ok (.invokevirtual 150, 3) := by decide +kernel
theorem dX10_readRule_51 : decode cX10_readRule 51 = .ok (.ireturn, 1) := by decide +kernel
theorem dX10_readRule_52 : decode cX10_readRule 52 = .ok (.aload_n 0, 1) := by decide +kernel
theorem dX10_readRule_53 : decode cX10_readRule 53 = .ok (.getfield 107, 3) := by decide +kernel
theorem dX10_readRule_56 : decode cX10_readRule 56 = .ok (.aload_n 0, 1) := by decide +kernel
theorem dX10_readRule_57 : decode cX10_readRule 57 = .ok (.getfield 19, 3) := by decide +kernel
theorem dX10_readRule_60 : decode cX10_readRule 60 = .ok (.iload_n 1, 1) := by decide +kernel
theorem dX10_readRule_61 : decode cX10_readRule 61 = .ok (.iaload, 1) := by decide +kernel
theorem dX10_readRule_62 : decode cX10_readRule 62 = .ok (.if_icmp .lt 16, 3) := by decide +kernel
theorem dX10_readRule_65 : decode cX10_readRule 65 = .ok (.aload_n 0, 1) := by decide +kernel
theorem dX10_readRule_66 : decode cX10_readRule 66 = .ok (.getfield 107, 3) := by decide +kernel
theorem dX10_readRule_69 : decode cX10_readRule 69 = .ok (.aload_n 0, 1) := by decide +kernel
theorem dX10_readRule_70 : decode cX10_readRule 70 = .ok (.getfield 22, 3) := by decide +kernel
theorem dX10_readRule_73 : decode cX10_readRule 73 = .ok (.iload_n 1, 1) := by decide +kernel
theorem dX10_readRule_74 : decode cX10_readRule 74 = .ok (.iaload, 1) := by decide +kernel
theorem dX10_readRule_75 : decode cX10_readRule 75 = .ok (.if_icmp .le 9, 3) := by decide +kernel
theorem dX10_readRule_78 : decode cX10_readRule 78 = .ok (.aload_n 0, 1) := by decide +kernel
theorem dX10_readRule_79 : decode cX10_readRule 79 = .ok (.iconst 2, 1) := by decide +kernel
theorem dX10_readRule_80 : decode cX10_readRule 80 = .ok (.invokevirtual 150, 3) := by decide +kernel
theorem dX10_readRule_83 : decode cX10_readRule 83 = .ok (.ireturn, 1) := by decide +kernel
theorem dX10_readRule_84 : decode cX10_readRule 84 = .ok (.aload_n 0, 1) := by decide +kernel
theorem dX10_readRule_85 : decode cX10_readRule 85 = .ok (.getfield 25, 3) := by decide +kernel
theorem dX10_readRule_88 : decode cX10_readRule 88 = .ok (.iload_n 1, 1) := by decide +kernel
theorem dX10_readRule_89 : decode cX10_readRule 89 = .ok (.aload_n 0, 1) := by decide +kernel
theorem dX10_readRule_90 : decode cX10_readRule 90 = .ok (.getfield 107, 3) := by decide +kernel
theorem dX10_readRule_93 : decode cX10_readRule 93 = .ok (.iastore, 1) := by decide +kernel
theorem dX10_readRule_94 : decode cX10_readRule 94 = .ok (.aload_n 0, 1) := by decide +kernel
theorem dX10_readRule_95 : decode cX10_readRule 95 = .ok (.dup, 1) := by decide +kernel
theorem dX10_readRule_96 : decode cX10_readRule 96 = .ok (.getfield 153, 3) := by decide +kernel
theorem dX10_readRule_99 : decode cX10_readRule 99 = .ok (.iconst 1, 1) := by decide +kernel
theorem dX10_readRule_100 : decode cX10_readRule 100 = .ok (.iload_n 1, 1) := by decide +kernel
theorem dX10_readRule_101 : decode cX10_readRule 101 = .ok (.ishl, 1) := by decide +kernel
theorem dX10_readRule_102 : decode cX10_readRule 102 = .ok (.ior, 1) := by decide +kernel
theorem dX10_readRule_103 : decode cX10_readRule 103 = .ok (.putfield 153, 3) := by decide +kernel
theorem dX10_readRule_106 : decode cX10_readRule 106 = .ok (.aload_n 0, 1) := by decide +kernel
theorem dX10_readRule_107 : decode cX10_readRule 107 = .ok (.invokevirtual 156, 3) := by decide +kernel
theorem dX10_readRule_110 : decode cX10_readRule 110 = .ok (.aload_n 0, 1) := by decide +kernel
theorem dX10_readRule_111 : decode cX10_readRule 111 = .ok (.getfield 93, 3) := by decide +kernel
theorem dX10_readRule_114 : decode cX10_readRule 114 = .ok (.iconst 4, 1) := by decide +kernel
theorem dX10_readRule_115 : decode cX10_readRule 115 = .ok (.if_icmp .eq 11, 3) := by decide +kernel
theorem dX10_readRule_118 : decode cX10_readRule 118 = .ok (.aload_n 0, 1) := by decide +kernel
theorem dX10_readRule_119 : decode cX10_readRule 119 = .ok (.iconst 1, 1) := by decide +kernel
theorem dX10_readRule_120 : decode cX10_readRule 120 = .ok (.invokevirtual 150, 3) := by decide +kernel
theorem dX10_readRule_123 : decode cX10_readRule 123 = .ok (.ifCond .eq 7, 3) := by decide +kernel
theorem dX10_readRule_126 : decode cX10_readRule 126 = .ok (.iconst 1, 1) := by decide +kernel
theorem dX10_readRule_127 : decode cX10_readRule 127 = .ok (.goto 4, 3) := by decide +kernel
theorem dX10_readRule_130 : decode cX10_readRule 130 = .ok (.iconst 0, 1) := by decide +kernel
theorem dX10_readRule_131 : decode cX10_readRule 131 = .ok (.ireturn, 1) := by decide +kernel
theorem dX10_rules_0 : decode cX10_rules 0 = .ok (.aload_n 0, 1) := by decide +kernel
theorem dX10_rules_1 : decode cX10_rules 1 = .ok (.iconst 0, 1) := by decide +kernel
theorem dX10_rules_2 : decode cX10_rules 2 = .ok (.putfield 73, 3) := by decide +kernel
theorem dX10_rules_5 : decode cX10_rules 5 = .ok (.aload_n 0, 1) := by decide +kernel
theorem dX10_rules_6 : decode cX10_rules 6 = .ok (.aload_n 0, 1) := by decide +kernel
theorem dX10_rules_7 : decode cX10_rules 7 = .ok (.getfield 77, 3) := by decide +kernel
theorem dX10_rules_10 : decode cX10_rules 10 = .ok (.putfield 84, 3) := by decide +kernel
theorem dX10_rules_13 : decode cX10_rules 13 = .ok (.aload_n 0, 1) := by decide +kernel
theorem dX10_rules_14 : decode cX10_rules 14 = .ok (.iconst 0, 1) := by decide +kernel
theorem dX10_rules_15 : decode cX10_rules 15 = .ok (.putfield 77, 3) := by decide +kernel
theorem dX10_rules_18 : decode cX10_rules 18 = .ok (.aload_n 0, 1) := by decide +kernel
theorem dX10_rules_19 : decode cX10_rules 19 = .ok (.iconst 0, 1) := by decide +kernel
theorem dX10_rules_20 : decode cX10_rules 20 = .ok (.putfield 140, 3) := by decide +kernel
theorem dX10_rules_23 : decode cX10_rules 23 = .ok (.aload_n 0, 1) := by decide +kernel
theorem dX10_rules_24 : decode cX10_rules 24 = .ok (.iconst 0, 1) := by decide +kernel
theorem dX10_rules_25 : decode cX10_rules 25 = .ok (.putfield 153, 3) := by decide +kernel
theorem dX10_rules_28 : decode cX10_rules 28 = .ok (.iconst 0, 1) := by decide +kernel
theorem dX10_rules_29 : decode cX10_rules 29 = .ok (.istore_n 1, 1) := by decide +kernel
theorem dX10_rules_30 : decode cX10_rules 30 = .ok (.iload_n 1, 1) := by decide +kernel
theorem dX10_rules_31 : decode cX10_rules 31 = .ok (.bipush 6, 2) := by decide +kernel
theorem dX10_rules_33 : decode cX10_rules 33 = .ok (.if_icmp .ge 21, 3) := by decide +kernel
theorem dX10_rules_36 : decode cX10_rules 36 = .ok (.aload_n 0, 1) := by decide +kernel
theorem dX10_rules_37 : decode cX10_rules 37 = .ok (.getfield 25, 3) := by decide +kernel
theorem dX10_rules_40 : decode cX10_rules 40 = .ok (.iload_n 1, 1) := by decide +kernel
theorem dX10_rules_41 : decode cX10_rules 41 = .ok (.aload_n 0, 1) := by decide +kernel
theorem dX10_rules_42 : decode cX10_rules 42 = .ok (.getfield 16, 3) := by decide +kernel
theorem dX10_rules_45 : decode cX10_rules 45 = .ok (.iload_n 1, 1) := by decide +kernel
theorem dX10_rules_46 : decode cX10_rules 46 = .ok (.iaload, 1) := by decide +kernel
theorem dX10_rules_47 : decode cX10_rules 47 = .ok (.iastore, 1) := by decide +kernel
theorem dX10_rules_48 : decode cX10_rules 48 = .ok (.iinc 1 1, 3) := by decide +kernel
theorem dX10_rules_51 : decode cX10_rules 51 = .ok (.goto (-21), 3) := by decide +kernel
theorem dX10_rules_54 : decode cX10_rules 54 = .ok (.iconst 0, 1) := by decide +kernel
theorem dX10_rules_55 : decode cX10_rules 55 = .ok (.istore_n 1, 1) := by decide +kernel
theorem dX10_rules_56 : decode cX10_rules 56 = .ok (.aload_n 0, 1) := by decide +kernel
theorem dX10_rules_57 : decode cX10_rules 57 = .ok (.iconst 0, 1) := by decide +kernel
theorem dX10_rules_58 : decode cX10_rules 58 = .ok (.putfield 87, 3) := by decide +kernel
theorem dX10_rules_61 : decode cX10_rules 61 = .ok (.aload_n 0, 1) := by decide +kernel
theorem dX10_rules_62 : decode cX10_rules 62 = .ok (.invokevirtual 156, 3) := by decide +kernel
theorem dX10_rules_65 : decode cX10_rules 65 = .ok (.aload_n 0, 1) := by decide +kernel
theorem dX10_rules_66 : decode cX10_rules 66 = .ok (.getfield 93, 3) := by decide +kernel
theorem dX10_rules_69 : decode cX10_rules 69 = .ok (.ifCond .eq 27, 3) := by decide +kernel
theorem dX10_rules_72 : decode cX10_rules 72 = .ok (.aload_n 0, 1) := by decide +kernel
theorem dX10_rules_73 : decode cX10_rules 73 = .ok (.invokevirtual 159, 3) := by decide +kernel
theorem dX10_rules_76 : decode cX10_rules 76 = .ok (.ifCond .ne 10, 3) := by decide +kernel
theorem dX10_rules_79 : decode cX10_rules 79 = .ok (.iconst (-1), 1) := by decide +kernel
theorem dX10_rules_80 : decode cX10_rules 80 = .ok (.aload_n 0, 1) := by decide +kernel
theorem dX10_rules_81 : decode cX10_rules 81 = .ok (.getfield 143, 3) := by decide +kernel
theorem dX10_rules_84 : decode cX10_rules 84 = .ok (.isub, 1) := by decide +kernel
theorem dX10_rules_85 : decode cX10_rules 85 = .ok (.ireturn, 1) := by decide +kernel
theorem dX10_rules_86 : decode cX10_rules 86 = .ok (.iinc 1 1, 3) := by decide +kernel
theorem dX10_rules_89 : decode cX10_rules 89 = .ok (.aload_n 0, 1) := by decide +kernel
theorem dX10_rules_90 : decode cX10_rules 90 = .ok (.invokevirtual 156, 3) := by decide +kernel
theorem dX10_rules_93 : decode cX10_rules 93 = .ok (.goto (-28), 3) := by decide +kernel
theorem dX10_rules_96 : decode cX10_rules 96 = .ok (.iconst 0, 1) := by decide +kernel
theorem dX10_rules_97 : decode cX10_rules 97 = .ok (.istore_n 2, 1) := by decide +kernel
theorem dX10_rules_98 : decode cX10_rules 98 = .ok (.iload_n 2, 1) := by decide +kernel
theorem dX10_rules_99 : decode cX10_rules 99 = .ok (.bipush 6, 2) := by decide +kernel
theorem dX10_rules_101 : decode cX10_rules 101 = .ok (.if_icmp .ge 21, 3) := by decide +kernel
theorem dX10_rules_104 : decode cX10_rules 104 = .ok (.aload_n 0, 1) := by decide +kernel
theorem dX10_rules_105 : decode cX10_rules 105 = .ok (.getfield 13, 3) := by decide +kernel
theorem dX10_rules_108 : decode cX10_rules 108 = .ok (.iload_n 2, 1) := by decide +kernel
theorem dX10_rules_109 : decode cX10_rules 109 = .ok (.aload_n 0, 1) := by decide +kernel
theorem dX10_rules_110 : decode cX10_rules 110 = .ok (.getfield 25, 3) := by decide +kernel
theorem dX10_rules_113 : decode cX10_rules 113 = .ok (.iload_n 2, 1) := by decide +kernel
theorem dX10_rules_114 : decode cX10_rules 114 = .ok (.iaload, 1) := by decide +kernel
theorem dX10_rules_115 : decode cX10_rules 115 = .ok (.iastore, 1) := by decide +kernel
theorem dX10_rules_116 : decode cX10_rules 116 = .ok (.iinc 2 1, 3) := by decide +kernel
theorem dX10_rules_119 : decode cX10_rules 119 = .ok (.goto (-21), 3) := by decide +kernel
theorem dX10_rules_122 : decode cX10_rules 122 = .ok (.iload_n 1, 1) := by decide +kernel
theorem dX10_rules_123 : decode cX10_rules 123 = .ok (.ireturn, 1) := by decide +kernel
theorem dX10_fault_0 : decode cX10_fault 0 = .ok (.aload_n 0, 1) := by decide +kernel
theorem dX10_fault_1 : decode cX10_fault 1 = .ok (.iconst 0, 1) := by decide +kernel
theorem dX10_fault_2 : decode cX10_fault 2 = .ok (.putfield 73, 3) := by decide +kernel
theorem dX10_fault_5 : decode cX10_fault 5 = .ok (.aload_n 0, 1) := by decide +kernel
theorem dX10_fault_6 : decode cX10_fault 6 = .ok (.getfield 140, 3) := by decide +kernel
theorem dX10_fault_9 : decode cX10_fault 9 = .ok (.ireturn, 1) := by decide +kernel
theorem dX10_rule_0 : decode cX10_rule 0 = .ok (.aload_n 0, 1) := by decide +kernel
theorem dX10_rule_1 : decode cX10_rule 1 = .ok (.iconst 0, 1) := by decide +kernel
theorem dX10_rule_2 : decode cX10_rule 2 = .ok (.putfield 73, 3) := by decide +kernel
theorem dX10_rule_5 : decode cX10_rule 5 = .ok (.iload_n 1, 1) := by decide +kernel
theorem dX10_rule_6 : decode cX10_rule 6 = .ok (.ifCond .lt 9, 3) := by decide +kernel
theorem dX10_rule_9 : decode cX10_rule 9 = .ok (.iload_n 1, 1) := by decide +kernel
theorem dX10_rule_10 : decode cX10_rule 10 = .ok (.bipush 6, 2) := by decide +kernel
theorem dX10_rule_12 : decode cX10_rule 12 = .ok (.if_icmp .lt 7, 3) := by decide +kernel
theorem dX10_rule_15 : decode cX10_rule 15 = .ok (.iconst (-1), 1) := by decide +kernel
theorem dX10_rule_16 : decode cX10_rule 16 = .ok (.goto 9, 3) := by decide +kernel
theorem dX10_rule_19 : decode cX10_rule 19 = .ok (.aload_n 0, 1) := by decide +kernel
theorem dX10_rule_20 : decode cX10_rule 20 = .ok (.getfield 13, 3) := by decide +kernel
theorem dX10_rule_23 : decode cX10_rule 23 = .ok (.iload_n 1, 1) := by decide +kernel
theorem dX10_rule_24 : decode cX10_rule 24 = .ok (.iaload, 1) := by decide +kernel
theorem dX10_rule_25 : decode cX10_rule 25 = .ok (.ireturn, 1) := by decide +kernel
theorem dX10_isIn_0 : decode cX10_isIn 0 = .ok (.iload_n 0, 1) := by decide +kernel
theorem dX10_isIn_1 : decode cX10_isIn 1 = .ok (.iload_n 1, 1) := by decide +kernel
theorem dX10_isIn_2 : decode cX10_isIn 2 = .ok (.if_icmp .lt 12, 3) := by decide +kernel
theorem dX10_isIn_5 : decode cX10_isIn 5 = .ok (.iload_n 0, 1) := by decide +kernel
theorem dX10_isIn_6 : decode cX10_isIn 6 = .ok (.iload_n 2, 1) := by decide +kernel
theorem dX10_isIn_7 : decode cX10_isIn 7 = .ok (.if_icmp .gt 7, 3) := by decide +kernel
theorem dX10_isIn_10 : decode cX10_isIn 10 = .ok (.iconst 1, 1) := by decide +kernel
theorem dX10_isIn_11 : decode cX10_isIn 11 = .ok (.goto 4, 3) := by decide +kernel
theorem dX10_isIn_14 : decode cX10_isIn 14 = .ok (.iconst 0, 1) := by decide +kernel
theorem dX10_isIn_15 : decode cX10_isIn 15 = .ok (.ireturn, 1) := by decide +kernel
theorem dX10_isWork_0 : decode cX10_isWork 0 = .ok (.iload_n 1, 1) := by decide +kernel
theorem dX10_isWork_1 : decode cX10_isWork 1 = .ok (.ifCond .lt 15, 3) := by decide +kernel
theorem dX10_isWork_4 : decode cX10_isWork 4 = .ok (.iload_n 1, 1) := by decide +kernel
theorem dX10_isWork_5 : decode cX10_isWork 5 = .ok (.aload_n 0, 1) := by decide +kernel
theorem dX10_isWork_6 : decode cX10_isWork 6 = .ok (.getfield 163, 3) := by decide +kernel
theorem dX10_isWork_9 : decode cX10_isWork 9 = .ok (.if_icmp .ge 7, 3) := by decide +kernel
theorem dX10_isWork_12 : decode cX10_isWork 12 = .ok (.iconst 1, 1) := by decide +kernel
theorem dX10_isWork_13 : decode cX10_isWork 13 = .ok (.goto 4, 3) := by decide +kernel
theorem dX10_isWork_16 : decode cX10_isWork 16 = .ok (.iconst 0, 1) := by decide +kernel
theorem dX10_isWork_17 : decode cX10_isWork 17 = .ok (.ireturn, 1) := by decide +kernel
theorem dX10_isPerson_0 : decode cX10_isPerson 0 = .ok (.iload_n 1, 1) := by decide +kernel
theorem dX10_isPerson_1 : decode cX10_isPerson 1 = .ok (.ifCond .lt 15, 3) := by decide +kernel
theorem dX10_isPerson_4 : decode cX10_isPerson 4 = .ok (.iload_n 1, 1) := by decide +kernel
theorem dX10_isPerson_5 : decode cX10_isPerson 5 = .ok (.aload_n 0, 1) := by decide +kernel
theorem dX10_isPerson_6 : decode cX10_isPerson 6 = .ok (.getfield 166, 3) := by decide +kernel
theorem dX10_isPerson_9 : decode cX10_isPerson 9 = .ok (.if_icmp .ge 7, 3) := by decide +kernel
theorem dX10_isPerson_12 : decode cX10_isPerson 12 = .ok (.iconst 1, 1) := by decide +kernel
theorem dX10_isPerson_13 : decode cX10_isPerson 13 = .ok (.goto 4, 3) := by decide +kernel
theorem dX10_isPerson_16 : decode cX10_isPerson 16 = .ok (.iconst 0, 1) := by decide +kernel
theorem dX10_isPerson_17 : decode cX10_isPerson 17 = .ok (.ireturn, 1) := by decide +kernel
theorem dX10_isFund_0 : decode cX10_isFund 0 = .ok (.iload_n 1, 1) := by decide +kernel
theorem dX10_isFund_1 : decode cX10_isFund 1 = .ok (.bipush 24, 2) := by decide +kernel
theorem dX10_isFund_3 : decode cX10_isFund 3 = .ok (.if_icmp .lt 18, 3) := by decide +kernel
theorem dX10_isFund_6 : decode cX10_isFund 6 = .ok (.iload_n 1, 1) := by decide +kernel
theorem dX10_isFund_7 : decode cX10_isFund 7 = .ok (.bipush 24, 2) := by decide +kernel
theorem dX10_isFund_9 : decode cX10_isFund 9 = .ok (.aload_n 0, 1) := by decide +kernel
theorem dX10_isFund_10 : decode cX10_isFund 10 = .ok (.getfield 169, 3) := by decide +kernel
theorem dX10_isFund_13 : decode cX10_isFund 13 = .ok (.iadd, 1) := by decide +kernel
theorem dX10_isFund_14 : decode cX10_isFund 14 = .ok (.if_icmp .ge 7, 3) := by decide +kernel
theorem dX10_isFund_17 : decode cX10_isFund 17 = .ok (.iconst 1, 1) := by decide +kernel
theorem dX10_isFund_18 : decode cX10_isFund 18 = .ok (.goto 4, 3) := by decide +kernel
theorem dX10_isFund_21 : decode cX10_isFund 21 = .ok (.iconst 0, 1) := by decide +kernel
theorem dX10_isFund_22 : decode cX10_isFund 22 = .ok (.ireturn, 1) := by decide +kernel
theorem dX10_isBidder_0 : decode cX10_isBidder 0 = .ok (.aload_n 0, 1) := by decide +kernel
theorem dX10_isBidder_1 : decode cX10_isBidder 1 = .ok (.iload_n 1, 1) := by decide +kernel
theorem dX10_isBidder_2 : decode cX10_isBidder 2 = .ok (.invokevirtual 172, 3) := by decide +kernel
theorem dX10_isBidder_5 : decode cX10_isBidder 5 = .ok (.ifCond .ne 11, 3) := by decide +kernel
theorem dX10_isBidder_8 : decode cX10_isBidder 8 = .ok (.aload_n 0, 1) := by decide +kernel
theorem dX10_isBidder_9 : decode cX10_isBidder 9 = .ok (.iload_n 1, 1) := by decide +kernel
theorem dX10_isBidder_10 : decode cX10_isBidder 10 = .ok (.invokevirtual 175, 3) := by decide +kernel
theorem dX10_isBidder_13 : decode cX10_isBidder 13 = .ok (.ifCond .eq 7, 3) := by decide +kernel
theorem dX10_isBidder_16 : decode cX10_isBidder 16 = .ok (.iconst 1, 1) := by decide +kernel
theorem dX10_isBidder_17 : decode cX10_isBidder 17 = .ok (.goto 4, 3) := by decide +kernel
theorem dX10_isBidder_20 : decode cX10_isBidder 20 = .ok (.iconst 0, 1) := by decide +kernel
theorem dX10_isBidder_21 : decode cX10_isBidder 21 = .ok (.ireturn, 1) := by decide +kernel
theorem dX10_work_0 : decode cX10_work 0 = .ok (.aload_n 0, 1) := by decide +kernel
theorem dX10_work_1 : decode cX10_work 1 = .ok (.iconst 0, 1) := by decide +kernel
theorem dX10_work_2 : decode cX10_work 2 = .ok (.putfield 73, 3) := by decide +kernel
theorem dX10_work_5 : decode cX10_work 5 = .ok (.aload_n 0, 1) := by decide +kernel
theorem dX10_work_6 : decode cX10_work 6 = .ok (.getfield 163, 3) := by decide +kernel
theorem dX10_work_9 : decode cX10_work 9 = .ok (.bipush 10, 2) := by decide +kernel
theorem dX10_work_11 : decode cX10_work 11 = .ok (.if_icmp .eq 25, 3) := by decide +kernel
theorem dX10_work_14 : decode cX10_work 14 = .ok (.iload_n 1, 1) := by decide +kernel
theorem dX10_work_15 : decode cX10_work 15 = .ok (.iconst 1, 1) := by decide +kernel
theorem dX10_work_16 : decode cX10_work 16 = .ok (.sipush 1000, 3) := by decide +kernel
theorem dX10_work_19 : decode cX10_work 19 = .ok (.invokestatic 178, 3) := by decide +kernel
theorem dX10_work_22 : decode cX10_work 22 = .ok (.ifCond .eq 14, 3) := by decide +kernel
theorem dX10_work_25 : decode cX10_work 25 = .ok (.iload_n 2, 1) := by decide +kernel
theorem dX10_work_26 : decode cX10_work 26 = .ok (.iconst 1, 1) := by decide +kernel
theorem dX10_work_27 : decode cX10_work 27 = .ok (.sipush 9999, 3) := by decide +kernel
theorem dX10_work_30 : decode cX10_work 30 = .ok (.invokestatic 178, 3) := by decide +kernel
theorem dX10_work_33 : decode cX10_work 33 = .ok (.ifCond .ne 5, 3) := by decide +kernel
theorem dX10_work_36 : decode cX10_work 36 = .ok (.iconst (-1), 1) := by decide +kernel
theorem dX10_work_37 : decode cX10_work 37 = .ok (.ireturn, 1) := by decide +kernel
theorem dX10_work_38 : decode cX10_work 38 = .ok (.aload_n 0, 1) := by decide +kernel
theorem dX10_work_39 : decode cX10_work 39 = .ok (.getfield 28, 3) := by decide +kernel
theorem dX10_work_42 : decode cX10_work 42 = .ok (.aload_n 0, 1) := by decide +kernel
theorem dX10_work_43 : decode cX10_work 43 = .ok (.getfield 163, 3) := by decide +kernel
theorem dX10_work_46 : decode cX10_work 46 = .ok (.iload_n 1, 1) := by decide +kernel
theorem dX10_work_47 : decode cX10_work 47 = .ok (.iastore, 1) := by decide +kernel
theorem dX10_work_48 : decode cX10_work 48 = .ok (.aload_n 0, 1) := by decide +kernel
theorem dX10_work_49 : decode cX10_work 49 = .ok (.getfield 31, 3) := by decide +kernel
theorem dX10_work_52 : decode cX10_work 52 = .ok (.aload_n 0, 1) := by decide +kernel
theorem dX10_work_53 : decode cX10_work 53 = .ok (.getfield 163, 3) := by decide +kernel
theorem dX10_work_56 : decode cX10_work 56 = .ok (.iload_n 1, 1) := by decide +kernel
theorem dX10_work_57 : decode cX10_work 57 = .ok (.iastore, 1) := by decide +kernel
theorem dX10_work_58 : decode cX10_work 58 = .ok (.aload_n 0, 1) := by decide +kernel
theorem dX10_work_59 : decode cX10_work 59 = .ok (.getfield 34, 3) := by decide +kernel
theorem dX10_work_62 : decode cX10_work 62 = .ok (.aload_n 0, 1) := by decide +kernel
theorem dX10_work_63 : decode cX10_work 63 = .ok (.getfield 163, 3) := by decide +kernel
theorem dX10_work_66 : decode cX10_work 66 = .ok (.iload_n 2, 1) := by decide +kernel
theorem dX10_work_67 : decode cX10_work 67 = .ok (.iastore, 1) := by decide +kernel
theorem dX10_work_68 : decode cX10_work 68 = .ok (.aload_n 0, 1) := by decide +kernel
theorem dX10_work_69 : decode cX10_work 69 = .ok (.getfield 40, 3) := by decide +kernel
theorem dX10_work_72 : decode cX10_work 72 = .ok (.aload_n 0, 1) := by decide +kernel
theorem dX10_work_73 : decode cX10_work 73 = .ok (.getfield 163, 3) := by decide +kernel
theorem dX10_work_76 : decode cX10_work 76 = .ok (.aload_n 0, 1) := by decide +kernel
theorem dX10_work_77 : decode cX10_work 77 = .ok (.getfield 182, 3) := by decide +kernel
theorem dX10_work_80 : decode cX10_work 80 = .ok (.iastore, 1) := by decide +kernel
theorem dX10_work_81 : decode cX10_work 81 = .ok (.aload_n 0, 1) := by decide +kernel
theorem dX10_work_82 : decode cX10_work 82 = .ok (.getfield 37, 3) := by decide +kernel
theorem dX10_work_85 : decode cX10_work 85 = .ok (.bipush 50, 2) := by decide +kernel
theorem dX10_work_87 : decode cX10_work 87 = .ok (.aload_n 0, 1) := by decide +kernel
theorem dX10_work_88 : decode cX10_work 88 = .ok (.getfield 163, 3) := by decide +kernel
theorem dX10_work_91 : decode cX10_work 91 = .ok (.imul, 1) := by decide +kernel
theorem dX10_work_92 : decode cX10_work 92 = .ok (.aload_n 0, 1) := by decide +kernel
theorem dX10_work_93 : decode cX10_work 93 = .ok (.getfield 182, 3) := by decide +kernel
theorem dX10_work_96 : decode cX10_work 96 = .ok (.iadd, 1) := by decide +kernel
theorem dX10_work_97 : decode cX10_work 97 = .ok (.iload_n 2, 1) := by decide +kernel
theorem dX10_work_98 : decode cX10_work 98 = .ok (.iastore, 1) := by decide +kernel
theorem dX10_work_99 : decode cX10_work 99 = .ok (.aload_n 0, 1) := by decide +kernel
theorem dX10_work_100 : decode cX10_work 100 = .ok (.dup, 1) := by decide +kernel
theorem dX10_work_101 : decode cX10_work 101 = .ok (.getfield 163, 3) := by decide +kernel
theorem dX10_work_104 : decode cX10_work 104 = .ok (.iconst 1, 1) := by decide +kernel
theorem dX10_work_105 : decode cX10_work 105 = .ok (.iadd, 1) := by decide +kernel
theorem dX10_work_106 : decode cX10_work 106 = .ok (.putfield 163, 3) := by decide +kernel
theorem dX10_work_109 : decode cX10_work 109 = .ok (.aload_n 0, 1) := by decide +kernel
theorem dX10_work_110 : decode cX10_work 110 = .ok (.getfield 163, 3) := by decide +kernel
theorem dX10_work_113 : decode cX10_work 113 = .ok (.iconst 1, 1) := by decide +kernel
theorem dX10_work_114 : decode cX10_work 114 = .ok (.isub, 1) := by decide +kernel
theorem dX10_work_115 : decode cX10_work 115 = .ok (.ireturn, 1) := by decide +kernel
theorem dX10_person_0 : decode cX10_person 0 = .ok (.aload_n 0, 1) := by decide +kernel
theorem dX10_person_1 : decode cX10_person 1 = .ok (.iconst 0, 1) := by decide +kernel
theorem dX10_person_2 : decode cX10_person 2 = .ok (.putfield 73, 3) := by decide +kernel
theorem dX10_person_5 : decode cX10_person 5 = .ok (.aload_n 0, 1) := by decide +kernel
theorem dX10_person_6 : decode cX10_person 6 = .ok (.getfield 166, 3) := by decide +kernel
theorem dX10_person_9 : decode cX10_person 9 = .ok (.bipush 24, 2) := by decide +kernel
theorem dX10_person_11 : decode cX10_person 11 = .ok (.if_icmp .eq 16, 3) := by decide +kernel
theorem dX10_person_14 : decode cX10_person 14 = .ok (.iload_n 1, 1) := by decide +kernel
theorem dX10_person_15 : decode cX10_person 15 = .ok (.iconst (-1), 1) := by decide +kernel
theorem dX10_person_16 : decode cX10_person 16 = .ok (.if_icmp .eq 13, 3) := by decide +kernel
theorem dX10_person_19 : decode cX10_person 19 = .ok (.aload_n 0, 1) := by decide +kernel
theorem dX10_person_20 : decode cX10_person 20 = .ok (.iload_n 1, 1) := by decide +kernel
theorem dX10_person_21 : decode cX10_person 21 = .ok (.invokevirtual 185, 3) := by decide +kernel
theorem dX10_person_24 : decode cX10_person 24 = .ok (.ifCond .ne 5, 3) := by decide +kernel
theorem dX10_person_27 : decode cX10_person 27 = .ok (.iconst (-1), 1) := by decide +kernel
theorem dX10_person_28 : decode cX10_person 28 = .ok (.ireturn, 1) := by decide +kernel
theorem dX10_person_29 : decode cX10_person 29 = .ok (.aload_n 0, 1) := by decide +kernel
theorem dX10_person_30 : decode cX10_person 30 = .ok (.getfield 43, 3) := by decide +kernel
theorem dX10_person_33 : decode cX10_person 33 = .ok (.aload_n 0, 1) := by decide +kernel
theorem dX10_person_34 : decode cX10_person 34 = .ok (.getfield 166, 3) := by decide +kernel
theorem dX10_person_37 : decode cX10_person 37 = .ok (.sipush 1000, 3) := by decide +kernel
theorem dX10_person_40 : decode cX10_person 40 = .ok (.iastore, 1) := by decide +kernel
theorem dX10_person_41 : decode cX10_person 41 = .ok (.aload_n 0, 1) := by decide +kernel
theorem dX10_person_42 : decode cX10_person 42 = .ok (.getfield 46, 3) := by decide +kernel
theorem dX10_person_45 : decode cX10_person 45 = .ok (.aload_n 0, 1) := by decide +kernel
theorem dX10_person_46 : decode cX10_person 46 = .ok (.getfield 166, 3) := by decide +kernel
theorem dX10_person_49 : decode cX10_person 49 = .ok (.iload_n 1, 1) := by decide +kernel
theorem dX10_person_50 : decode cX10_person 50 = .ok (.iastore, 1) := by decide +kernel
theorem dX10_person_51 : decode cX10_person 51 = .ok (.aload_n 0, 1) := by decide +kernel
theorem dX10_person_52 : decode cX10_person 52 = .ok (.dup, 1) := by decide +kernel
theorem dX10_person_53 : decode cX10_person 53 = .ok (.getfield 166, 3) := by decide +kernel
theorem dX10_person_56 : decode cX10_person 56 = .ok (.iconst 1, 1) := by decide +kernel
theorem dX10_person_57 : decode cX10_person 57 = .ok (.iadd, 1) := by decide +kernel
theorem dX10_person_58 : decode cX10_person 58 = .ok (.putfield 166, 3) := by decide +kernel
theorem dX10_person_61 : decode cX10_person 61 = .ok (.aload_n 0, 1) := by decide +kernel
theorem dX10_person_62 : decode cX10_person 62 = .ok (.getfield 166, 3) := by decide +kernel
theorem dX10_person_65 : decode cX10_person 65 = .ok (.iconst 1, 1) := by decide +kernel
theorem dX10_person_66 : decode cX10_person 66 = .ok (.isub, 1) := by decide +kernel
theorem dX10_person_67 : decode cX10_person 67 = .ok (.ireturn, 1) := by decide +kernel
theorem dX10_fund_0 : decode cX10_fund 0 = .ok (.aload_n 0, 1) := by decide +kernel
theorem dX10_fund_1 : decode cX10_fund 1 = .ok (.iconst 0, 1) := by decide +kernel
theorem dX10_fund_2 : decode cX10_fund 2 = .ok (.putfield 73, 3) := by decide +kernel
theorem dX10_fund_5 : decode cX10_fund 5 = .ok (.aload_n 0, 1) := by decide +kernel
theorem dX10_fund_6 : decode cX10_fund 6 = .ok (.getfield 169, 3) := by decide +kernel
theorem dX10_fund_9 : decode cX10_fund 9 = .ok (.iconst 4, 1) := by decide +kernel
theorem dX10_fund_10 : decode cX10_fund 10 = .ok (.if_icmp .eq 14, 3) := by decide +kernel
theorem dX10_fund_13 : decode cX10_fund 13 = .ok (.iload_n 1, 1) := by decide +kernel
theorem dX10_fund_14 : decode cX10_fund 14 = .ok (.iconst 0, 1) := by decide +kernel
theorem dX10_fund_15 : decode cX10_fund 15 = .ok (.sipush 500, 3) := by decide +kernel
theorem dX10_fund_18 : decode cX10_fund 18 = .ok (.invokestatic 178, 3) := by decide +kernel
theorem dX10_fund_21 : decode cX10_fund 21 = .ok (.ifCond .ne 5, 3) := by decide +kernel
theorem dX10_fund_24 : decode cX10_fund 24 = .ok (.iconst (-1), 1) := by decide +kernel
theorem dX10_fund_25 : decode cX10_fund 25 = .ok (.ireturn, 1) := by decide +kernel
theorem dX10_fund_26 : decode cX10_fund 26 = .ok (.aload_n 0, 1) := by decide +kernel
theorem dX10_fund_27 : decode cX10_fund 27 = .ok (.getfield 49, 3) := by decide +kernel
theorem dX10_fund_30 : decode cX10_fund 30 = .ok (.aload_n 0, 1) := by decide +kernel
theorem dX10_fund_31 : decode cX10_fund 31 = .ok (.getfield 169, 3) := by decide +kernel
theorem dX10_fund_34 : decode cX10_fund 34 = .ok (.iload_n 1, 1) := by decide +kernel
theorem dX10_fund_35 : decode cX10_fund 35 = .ok (.iastore, 1) := by decide +kernel
theorem dX10_fund_36 : decode cX10_fund 36 = .ok (.aload_n 0, 1) := by decide +kernel
theorem dX10_fund_37 : decode cX10_fund 37 = .ok (.dup, 1) := by decide +kernel
theorem dX10_fund_38 : decode cX10_fund 38 = .ok (.getfield 169, 3) := by decide +kernel
theorem dX10_fund_41 : decode cX10_fund 41 = .ok (.iconst 1, 1) := by decide +kernel
theorem dX10_fund_42 : decode cX10_fund 42 = .ok (.iadd, 1) := by decide +kernel
theorem dX10_fund_43 : decode cX10_fund 43 = .ok (.putfield 169, 3) := by decide +kernel
theorem dX10_fund_46 : decode cX10_fund 46 = .ok (.bipush 24, 2) := by decide +kernel
theorem dX10_fund_48 : decode cX10_fund 48 = .ok (.aload_n 0, 1) := by decide +kernel
theorem dX10_fund_49 : decode cX10_fund 49 = .ok (.getfield 169, 3) := by decide +kernel
theorem dX10_fund_52 : decode cX10_fund 52 = .ok (.iadd, 1) := by decide +kernel
theorem dX10_fund_53 : decode cX10_fund 53 = .ok (.iconst 1, 1) := by decide +kernel
theorem dX10_fund_54 : decode cX10_fund 54 = .ok (.isub, 1) := by decide +kernel
theorem dX10_fund_55 : decode cX10_fund 55 = .ok (.ireturn, 1) := by decide +kernel
theorem dX10_costs_0 : decode cX10_costs 0 = .ok (.iconst 0, 1) := by decide +kernel
theorem dX10_costs_1 : decode cX10_costs 1 = .ok (.istore_n 2, 1) := by decide +kernel
theorem dX10_costs_2 : decode cX10_costs 2 = .ok (.iconst 0, 1) := by decide +kernel
theorem dX10_costs_3 : decode cX10_costs 3 = .ok (.istore_n 3, 1) := by decide +kernel
theorem dX10_costs_4 : decode cX10_costs 4 = .ok (.iload_n 3, 1) := by decide +kernel
theorem dX10_costs_5 : decode cX10_costs 5 = .ok (.aload_n 0, 1) := by decide +kernel
theorem dX10_costs_6 : decode cX10_costs 6 = .ok (.getfield 163, 3) := by decide +kernel
theorem dX10_costs_9 : decode cX10_costs 9 = .ok (.if_icmp .ge 30, 3) := by decide +kernel
theorem dX10_costs_12 : decode cX10_costs 12 = .ok (.iload_n 2, 1) := by decide +kernel
theorem dX10_costs_13 : decode cX10_costs 13 = .ok (.aload_n 0, 1) := by decide +kernel
theorem dX10_costs_14 : decode cX10_costs 14 = .ok (.getfield 58, 3) := by decide +kernel
theorem dX10_costs_17 : decode cX10_costs 17 = .ok (.bipush 10, 2) := by decide +kernel
theorem dX10_costs_19 : decode cX10_costs 19 = .ok (.iload_n 1, 1) := by decide +kernel
theorem dX10_costs_20 : decode cX10_costs 20 = .ok (.imul, 1) := by decide +kernel
theorem dX10_costs_21 : decode cX10_costs 21 = .ok (.iload_n 3, 1) := by decide +kernel
theorem dX10_costs_22 : decode cX10_costs 22 = .ok (.iadd, 1) := by decide +kernel
theorem dX10_costs_23 : decode cX10_costs 23 = .ok (.iaload, 1) := by decide +kernel
theorem dX10_costs_24 : decode cX10_costs 24 = .ok (.aload_n 0, 1) := by decide +kernel
theorem dX10_costs_25 : decode cX10_costs 25 = .ok (.getfield 34, 3) := by decide +kernel
theorem dX10_costs_28 : decode cX10_costs 28 = .ok (.iload_n 3, 1) := by decide +kernel
theorem dX10_costs_29 : decode cX10_costs 29 = .ok (.iaload, 1) := by decide +kernel
theorem dX10_costs_30 : decode cX10_costs 30 = .ok (.imul, 1) := by decide +kernel
theorem dX10_costs_31 : decode cX10_costs 31 = .ok (.iadd, 1) := by decide +kernel
theorem dX10_costs_32 : decode cX10_costs 32 = .ok (.istore_n 2, 1) := by decide +kernel
theorem dX10_costs_33 : decode cX10_costs 33 = .ok (.iinc 3 1, 3) := by decide +kernel
theorem dX10_costs_36 : decode cX10_costs 36 = .ok (.goto (-32), 3) := by decide +kernel
theorem dX10_costs_39 : decode cX10_costs 39 = .ok (.iload_n 2, 1) := by decide +kernel
theorem dX10_costs_40 : decode cX10_costs 40 = .ok (.ireturn, 1) := by decide +kernel
theorem dX10_give_0 : decode cX10_give 0 = .ok (.aload_n 0, 1) := by decide +kernel
theorem dX10_give_1 : decode cX10_give 1 = .ok (.iconst 0, 1) := by decide +kernel
theorem dX10_give_2 : decode cX10_give 2 = .ok (.putfield 73, 3) := by decide +kernel
theorem dX10_give_5 : decode cX10_give 5 = .ok (.aload_n 0, 1) := by decide +kernel
theorem dX10_give_6 : decode cX10_give 6 = .ok (.iload_n 1, 1) := by decide +kernel
theorem dX10_give_7 : decode cX10_give 7 = .ok (.invokevirtual 172, 3) := by decide +kernel
theorem dX10_give_10 : decode cX10_give 10 = .ok (.ifCond .eq 39, 3) := by decide +kernel
theorem dX10_give_13 : decode cX10_give 13 = .ok (.aload_n 0, 1) := by decide +kernel
theorem dX10_give_14 : decode cX10_give 14 = .ok (.iload_n 2, 1) := by decide +kernel
theorem dX10_give_15 : decode cX10_give 15 = .ok (.invokevirtual 175, 3) := by decide +kernel
theorem dX10_give_18 : decode cX10_give 18 = .ok (.ifCond .eq 31, 3) := by decide +kernel
theorem dX10_give_21 : decode cX10_give 21 = .ok (.aload_n 0, 1) := by decide +kernel
theorem dX10_give_22 : decode cX10_give 22 = .ok (.getfield 182, 3) := by decide +kernel
theorem dX10_give_25 : decode cX10_give 25 = .ok (.ifCond .gt 24, 3) := by decide +kernel
theorem dX10_give_28 : decode cX10_give 28 = .ok (.iload_n 3, 1) := by decide +kernel
theorem dX10_give_29 : decode cX10_give 29 = .ok (.iconst 1, 1) := by decide +kernel
theorem dX10_give_30 : decode cX10_give 30 = .ok (.if_icmp .lt 19, 3) := by decide +kernel
theorem dX10_give_33 : decode cX10_give 33 = .ok (.iload_n 3, 1) := by decide +kernel
theorem dX10_give_34 : decode cX10_give 34 = .ok (.aload_n 0, 1) := by decide +kernel
theorem dX10_give_35 : decode cX10_give 35 = .ok (.getfield 43, 3) := by decide +kernel
theorem dX10_give_38 : decode cX10_give 38 = .ok (.iload_n 1, 1) := by decide +kernel
theorem dX10_give_39 : decode cX10_give 39 = .ok (.iaload, 1) := by decide +kernel
theorem dX10_give_40 : decode cX10_give 40 = .ok (.aload_n 0, 1) := by decide +kernel
theorem dX10_give_41 : decode cX10_give 41 = .ok (.iload_n 1, 1) := by decide +kernel
theorem dX10_give_42 : decode cX10_give 42 = .ok (.invokevirtual 188, 3) := by decide +kernel
theorem dX10_give_45 : decode cX10_give 45 = .ok (.isub, 1) := by decide +kernel
theorem dX10_give_46 : decode cX10_give 46 = .ok (.if_icmp .le 5, 3) := by decide +kernel
theorem dX10_give_49 : decode cX10_give 49 = .ok (.iconst (-1), 1) := by decide +kernel
theorem dX10_give_50 : decode cX10_give 50 = .ok (.ireturn, 1) := by decide +kernel
theorem dX10_give_51 : decode cX10_give 51 = .ok (.iload_n 2, 1) := by decide +kernel
theorem dX10_give_52 : decode cX10_give 52 = .ok (.bipush 24, 2) := by decide +kernel
theorem dX10_give_54 : decode cX10_give 54 = .ok (.isub, 1) := by decide +kernel
theorem dX10_give_55 : decode cX10_give 55 = .ok (.istore 4, 2) := by decide +kernel
theorem dX10_give_57 : decode cX10_give 57 = .ok (.aload_n 0, 1) := by decide +kernel
theorem dX10_give_58 : decode cX10_give 58 = .ok (.getfield 43, 3) := by decide +kernel
theorem dX10_give_61 : decode cX10_give 61 = .ok (.iload_n 1, 1) := by decide +kernel
theorem dX10_give_62 : decode cX10_give 62 = .ok (.dup2, 1) := by decide +kernel
theorem dX10_give_63 : decode cX10_give 63 = .ok (.iaload, 1) := by decide +kernel
theorem dX10_give_64 : decode cX10_give 64 = .ok (.iload_n 3, 1) := by decide +kernel
theorem dX10_give_65 : decode cX10_give 65 = .ok (.isub, 1) := by decide +kernel
theorem dX10_give_66 : decode cX10_give 66 = .ok (.iastore, 1) := by decide +kernel
theorem dX10_give_67 : decode cX10_give 67 = .ok (.aload_n 0, 1) := by decide +kernel
theorem dX10_give_68 : decode cX10_give 68 = .ok (.getfield 43, 3) := by decide +kernel
theorem dX10_give_71 : decode cX10_give 71 = .ok (.iload_n 2, 1) := by decide +kernel
theorem dX10_give_72 : decode cX10_give 72 = .ok (.dup2, 1) := by decide +kernel
theorem dX10_give_73 : decode cX10_give 73 = .ok (.iaload, 1) := by decide +kernel
theorem dX10_give_74 : decode cX10_give 74 = .ok (.iload_n 3, 1) := by decide +kernel
theorem dX10_give_75 : decode cX10_give 75 = .ok (.iadd, 1) := by decide +kernel
theorem dX10_give_76 : decode cX10_give 76 = .ok (.iastore, 1) := by decide +kernel
theorem dX10_give_77 : decode cX10_give 77 = .ok (.aload_n 0, 1) := by decide +kernel
theorem dX10_give_78 : decode cX10_give 78 = .ok (.getfield 52, 3) := by decide +kernel
theorem dX10_give_81 : decode cX10_give 81 = .ok (.iload 4, 2) := by decide +kernel
theorem dX10_give_83 : decode cX10_give 83 = .ok (.dup2, 1) := by decide +kernel
theorem dX10_give_84 : decode cX10_give 84 = .ok (.iaload, 1) := by decide +kernel
theorem dX10_give_85 : decode cX10_give 85 = .ok (.iload_n 3, 1) := by decide +kernel
theorem dX10_give_86 : decode cX10_give 86 = .ok (.iadd, 1) := by decide +kernel
theorem dX10_give_87 : decode cX10_give 87 = .ok (.iastore, 1) := by decide +kernel
theorem dX10_give_88 : decode cX10_give 88 = .ok (.aload_n 0, 1) := by decide +kernel
theorem dX10_give_89 : decode cX10_give 89 = .ok (.getfield 55, 3) := by decide +kernel
theorem dX10_give_92 : decode cX10_give 92 = .ok (.iconst 4, 1) := by decide +kernel
theorem dX10_give_93 : decode cX10_give 93 = .ok (.iload_n 1, 1) := by decide +kernel
theorem dX10_give_94 : decode cX10_give 94 = .ok (.imul, 1) := by decide +kernel
theorem dX10_give_95 : decode cX10_give 95 = .ok (.iload 4, 2) := by decide +kernel
theorem dX10_give_97 : decode cX10_give 97 = .ok (.iadd, 1) := by decide +kernel
theorem dX10_give_98 : decode cX10_give 98 = .ok (.dup2, 1) := by decide +kernel
theorem dX10_give_99 : decode cX10_give 99 = .ok (.iaload, 1) := by decide +kernel
theorem dX10_give_100 : decode cX10_give 100 = .ok (.iload_n 3, 1) := by decide +kernel
theorem dX10_give_101 : decode cX10_give 101 = .ok (.iadd, 1) := by decide +kernel
theorem dX10_give_102 : decode cX10_give 102 = .ok (.iastore, 1) := by decide +kernel
theorem dX10_give_103 : decode cX10_give 103 = .ok (.aload_n 0, 1) := by decide +kernel
theorem dX10_give_104 : decode cX10_give 104 = .ok (.getfield 55, 3) := by decide +kernel
theorem dX10_give_107 : decode cX10_give 107 = .ok (.iconst 4, 1) := by decide +kernel
theorem dX10_give_108 : decode cX10_give 108 = .ok (.iload_n 1, 1) := by decide +kernel
theorem dX10_give_109 : decode cX10_give 109 = .ok (.imul, 1) := by decide +kernel
theorem dX10_give_110 : decode cX10_give 110 = .ok (.iload 4, 2) := by decide +kernel
theorem dX10_give_112 : decode cX10_give 112 = .ok (.iadd, 1) := by decide +kernel
theorem dX10_give_113 : decode cX10_give 113 = .ok (.iaload, 1) := by decide +kernel
theorem dX10_give_114 : decode cX10_give 114 = .ok (.ireturn, 1) := by decide +kernel
theorem dX10_bid_0 : decode cX10_bid 0 = .ok (.aload_n 0, 1) := by decide +kernel
theorem dX10_bid_1 : decode cX10_bid 1 = .ok (.iconst 0, 1) := by decide +kernel
theorem dX10_bid_2 : decode cX10_bid 2 = .ok (.putfield 73, 3) := by decide +kernel
theorem dX10_bid_5 : decode cX10_bid 5 = .ok (.aload_n 0, 1) := by decide +kernel
theorem dX10_bid_6 : decode cX10_bid 6 = .ok (.iload_n 1, 1) := by decide +kernel
theorem dX10_bid_7 : decode cX10_bid 7 = .ok (.invokevirtual 191, 3) := by decide +kernel
theorem dX10_bid_10 : decode cX10_bid 10 = .ok (.ifCond .eq 22, 3) := by decide +kernel
theorem dX10_bid_13 : decode cX10_bid 13 = .ok (.aload_n 0, 1) := by decide +kernel
theorem dX10_bid_14 : decode cX10_bid 14 = .ok (.iload_n 2, 1) := by decide +kernel
theorem dX10_bid_15 : decode cX10_bid 15 = .ok (.invokevirtual 185, 3) := by decide +kernel
theorem dX10_bid_18 : decode cX10_bid 18 = .ok (.ifCond .eq 14, 3) := by decide +kernel
theorem dX10_bid_21 : decode cX10_bid 21 = .ok (.iload_n 3, 1) := by decide +kernel
theorem dX10_bid_22 : decode cX10_bid 22 = .ok (.iconst 0, 1) := by decide +kernel
theorem dX10_bid_23 : decode cX10_bid 23 = .ok (.sipush 1000, 3) := by decide +kernel
theorem dX10_bid_26 : decode cX10_bid 26 = .ok (.invokestatic 178, 3) := by decide +kernel
theorem dX10_bid_29 : decode cX10_bid 29 = .ok (.ifCond .ne 5, 3) := by decide +kernel
theorem dX10_bid_32 : decode cX10_bid 32 = .ok (.iconst (-1), 1) := by decide +kernel
theorem dX10_bid_33 : decode cX10_bid 33 = .ok (.ireturn, 1) := by decide +kernel
theorem dX10_bid_34 : decode cX10_bid 34 = .ok (.aload_n 0, 1) := by decide +kernel
theorem dX10_bid_35 : decode cX10_bid 35 = .ok (.iload_n 1, 1) := by decide +kernel
theorem dX10_bid_36 : decode cX10_bid 36 = .ok (.invokevirtual 188, 3) := by decide +kernel
theorem dX10_bid_39 : decode cX10_bid 39 = .ok (.iload_n 3, 1) := by decide +kernel
theorem dX10_bid_40 : decode cX10_bid 40 = .ok (.aload_n 0, 1) := by decide +kernel
theorem dX10_bid_41 : decode cX10_bid 41 = .ok (.getfield 58, 3) := by decide +kernel
theorem dX10_bid_44 : decode cX10_bid 44 = .ok (.bipush 10, 2) := by decide +kernel
theorem dX10_bid_46 : decode cX10_bid 46 = .ok (.iload_n 1, 1) := by decide +kernel
theorem dX10_bid_47 : decode cX10_bid 47 = .ok (.imul, 1) := by decide +kernel
theorem dX10_bid_48 : decode cX10_bid 48 = .ok (.iload_n 2, 1) := by decide +kernel
theorem dX10_bid_49 : decode cX10_bid 49 = .ok (.iadd, 1) := by decide +kernel
theorem dX10_bid_50 : decode cX10_bid 50 = .ok (.iaload, 1) := by decide +kernel
theorem dX10_bid_51 : decode cX10_bid 51 = .ok (.isub, 1) := by decide +kernel
theorem dX10_bid_52 : decode cX10_bid 52 = .ok (.aload_n 0, 1) := by decide +kernel
theorem dX10_bid_53 : decode cX10_bid 53 = .ok (.getfield 34, 3) := by decide +kernel
theorem dX10_bid_56 : decode cX10_bid 56 = .ok (.iload_n 2, 1) := by decide +kernel
theorem dX10_bid_57 : decode cX10_bid 57 = .ok (.iaload, 1) := by decide +kernel
theorem dX10_bid_58 : decode cX10_bid 58 = .ok (.imul, 1) := by decide +kernel
theorem dX10_bid_59 : decode cX10_bid 59 = .ok (.iadd, 1) := by decide +kernel
theorem dX10_bid_60 : decode cX10_bid 60 = .ok (.istore 4, 2) := by decide +kernel
theorem dX10_bid_62 : decode cX10_bid 62 = .ok (.iload 4, 2) := by decide +kernel
theorem dX10_bid_64 : decode cX10_bid 64 = .ok (.aload_n 0, 1) := by decide +kernel
theorem dX10_bid_65 : decode cX10_bid 65 = .ok (.getfield 43, 3) := by decide +kernel
theorem dX10_bid_68 : decode cX10_bid 68 = .ok (.iload_n 1, 1) := by decide +kernel
theorem dX10_bid_69 : decode cX10_bid 69 = .ok (.iaload, 1) := by decide +kernel
theorem dX10_bid_70 : decode cX10_bid 70 = .ok (.if_icmp .le 5, 3) := by decide +kernel
theorem dX10_bid_73 : decode cX10_bid 73 = .ok (.iconst (-1), 1) := by decide +kernel
theorem dX10_bid_74 : decode cX10_bid 74 = .ok (.ireturn, 1) := by decide +kernel
theorem dX10_bid_75 : decode cX10_bid 75 = .ok (.aload_n 0, 1) := by decide +kernel
theorem dX10_bid_76 : decode cX10_bid 76 = .ok (.getfield 58, 3) := by decide +kernel
theorem dX10_bid_79 : decode cX10_bid 79 = .ok (.bipush 10, 2) := by decide +kernel
theorem dX10_bid_81 : decode cX10_bid 81 = .ok (.iload_n 1, 1) := by decide +kernel
theorem dX10_bid_82 : decode cX10_bid 82 = .ok (.imul, 1) := by decide +kernel
theorem dX10_bid_83 : decode cX10_bid 83 = .ok (.iload_n 2, 1) := by decide +kernel
theorem dX10_bid_84 : decode cX10_bid 84 = .ok (.iadd, 1) := by decide +kernel
theorem dX10_bid_85 : decode cX10_bid 85 = .ok (.iload_n 3, 1) := by decide +kernel
theorem dX10_bid_86 : decode cX10_bid 86 = .ok (.iastore, 1) := by decide +kernel
theorem dX10_bid_87 : decode cX10_bid 87 = .ok (.iload 4, 2) := by decide +kernel
theorem dX10_bid_89 : decode cX10_bid 89 = .ok (.ireturn, 1) := by decide +kernel
theorem dX10_part_0 : decode cX10_part 0 = .ok (.iconst 0, 1) := by decide +kernel
theorem dX10_part_1 : decode cX10_part 1 = .ok (.istore_n 2, 1) := by decide +kernel
theorem dX10_part_2 : decode cX10_part 2 = .ok (.iconst 0, 1) := by decide +kernel
theorem dX10_part_3 : decode cX10_part 3 = .ok (.istore_n 3, 1) := by decide +kernel
theorem dX10_part_4 : decode cX10_part 4 = .ok (.iload_n 3, 1) := by decide +kernel
theorem dX10_part_5 : decode cX10_part 5 = .ok (.bipush 28, 2) := by decide +kernel
theorem dX10_part_7 : decode cX10_part 7 = .ok (.if_icmp .ge 30, 3) := by decide +kernel
theorem dX10_part_10 : decode cX10_part 10 = .ok (.iload_n 2, 1) := by decide +kernel
theorem dX10_part_11 : decode cX10_part 11 = .ok (.aload_n 0, 1) := by decide +kernel
theorem dX10_part_12 : decode cX10_part 12 = .ok (.getfield 67, 3) := by decide +kernel
theorem dX10_part_15 : decode cX10_part 15 = .ok (.iload_n 3, 1) := by decide +kernel
theorem dX10_part_16 : decode cX10_part 16 = .ok (.iaload, 1) := by decide +kernel
theorem dX10_part_17 : decode cX10_part 17 = .ok (.iadd, 1) := by decide +kernel
theorem dX10_part_18 : decode cX10_part 18 = .ok (.istore_n 2, 1) := by decide +kernel
theorem dX10_part_19 : decode cX10_part 19 = .ok (.aload_n 0, 1) := by decide +kernel
theorem dX10_part_20 : decode cX10_part 20 = .ok (.getfield 70, 3) := by decide +kernel
theorem dX10_part_23 : decode cX10_part 23 = .ok (.iload_n 3, 1) := by decide +kernel
theorem dX10_part_24 : decode cX10_part 24 = .ok (.aload_n 0, 1) := by decide +kernel
theorem dX10_part_25 : decode cX10_part 25 = .ok (.getfield 67, 3) := by decide +kernel
theorem dX10_part_28 : decode cX10_part 28 = .ok (.iload_n 3, 1) := by decide +kernel
theorem dX10_part_29 : decode cX10_part 29 = .ok (.iaload, 1) := by decide +kernel
theorem dX10_part_30 : decode cX10_part 30 = .ok (.iastore, 1) := by decide +kernel
theorem dX10_part_31 : decode cX10_part 31 = .ok (.iinc 3 1, 3) := by decide +kernel
theorem dX10_part_34 : decode cX10_part 34 = .ok (.goto (-30), 3) := by decide +kernel
theorem dX10_part_37 : decode cX10_part 37 = .ok (.iload_n 2, 1) := by decide +kernel
theorem dX10_part_38 : decode cX10_part 38 = .ok (.iload_n 1, 1) := by decide +kernel
theorem dX10_part_39 : decode cX10_part 39 = .ok (.if_icmp .gt 5, 3) := by decide +kernel
theorem dX10_part_42 : decode cX10_part 42 = .ok (.iload_n 2, 1) := by decide +kernel
theorem dX10_part_43 : decode cX10_part 43 = .ok (.ireturn, 1) := by decide +kernel
theorem dX10_part_44 : decode cX10_part 44 = .ok (.iload_n 1, 1) := by decide +kernel
theorem dX10_part_45 : decode cX10_part 45 = .ok (.istore_n 3, 1) := by decide +kernel
theorem dX10_part_46 : decode cX10_part 46 = .ok (.iconst 0, 1) := by decide +kernel
theorem dX10_part_47 : decode cX10_part 47 = .ok (.istore 4, 2) := by decide +kernel
theorem dX10_part_49 : decode cX10_part 49 = .ok (.iload 4, 2) := by decide +kernel
theorem dX10_part_51 : decode cX10_part 51 = .ok (.bipush 28, 2) := by decide +kernel
theorem dX10_part_53 : decode cX10_part 53 = .ok (.if_icmp .ge 37, 3) := by decide +kernel
theorem dX10_part_56 : decode cX10_part 56 = .ok (.aload_n 0, 1) := by decide +kernel
theorem dX10_part_57 : decode cX10_part 57 = .ok (.getfield 70, 3) := by decide +kernel
theorem dX10_part_60 : decode cX10_part 60 = .ok (.iload 4, 2) := by decide +kernel
theorem dX10_part_62 : decode cX10_part 62 = .ok (.aload_n 0, 1) := by decide +kernel
theorem dX10_part_63 : decode cX10_part 63 = .ok (.getfield 67, 3) := by decide +kernel
theorem dX10_part_66 : decode cX10_part 66 = .ok (.iload 4, 2) := by decide +kernel
theorem dX10_part_68 : decode cX10_part 68 = .ok (.iaload, 1) := by decide +kernel
theorem dX10_part_69 : decode cX10_part 69 = .ok (.iload_n 1, 1) := by decide +kernel
theorem dX10_part_70 : decode cX10_part 70 = .ok (.imul, 1) := by decide +kernel
theorem dX10_part_71 : decode cX10_part 71 = .ok (.iload_n 2, 1) := by decide +kernel
theorem dX10_part_72 : decode cX10_part 72 = .ok (.idiv, 1) := by decide +kernel
theorem dX10_part_73 : decode cX10_part 73 = .ok (.iastore, 1) := by decide +kernel
theorem dX10_part_74 : decode cX10_part 74 = .ok (.iload_n 3, 1) := by decide +kernel
theorem dX10_part_75 : decode cX10_part 75 = .ok (.aload_n 0, 1) := by decide +kernel
theorem dX10_part_76 : decode cX10_part 76 = .ok (.getfield 70, 3) := by decide +kernel
theorem dX10_part_79 : decode cX10_part 79 = .ok (.iload 4, 2) := by decide +kernel
theorem dX10_part_81 : decode cX10_part 81 = .ok (.iaload, 1) := by decide +kernel
theorem dX10_part_82 : decode cX10_part 82 = .ok (.isub, 1) := by decide +kernel
theorem dX10_part_83 : decode cX10_part 83 = .ok (.istore_n 3, 1) := by decide +kernel
theorem dX10_part_84 : decode cX10_part 84 = .ok (.iinc 4 1, 3) := by decide +kernel
theorem dX10_part_87 : decode cX10_part 87 = .ok (.goto (-38), 3) := by decide +kernel
theorem dX10_part_90 : decode cX10_part 90 = .ok (.iload_n 3, 1) := by decide +kernel
theorem dX10_part_91 : decode cX10_part 91 = .ok (.ifCond .le 95, 3) := by decide +kernel
theorem dX10_part_94 : decode cX10_part 94 = .ok (.iconst (-1), 1) := by decide +kernel
theorem dX10_part_95 : decode cX10_part 95 = .ok (.istore 4, 2) := by decide +kernel
theorem dX10_part_97 : decode cX10_part 97 = .ok (.iconst 0, 1) := by decide +kernel
theorem dX10_part_98 : decode cX10_part 98 = .ok (.istore 5, 2) := by decide +kernel
theorem dX10_part_100 : decode cX10_part 100 = .ok (.iload 5, 2) := by decide +kernel
theorem dX10_part_102 : decode cX10_part 102 = .ok (.bipush 28, 2) := by decide +kernel
theorem dX10_part_104 : decode cX10_part 104 = .ok (.if_icmp .ge 65, 3) := by decide +kernel
theorem dX10_part_107 : decode cX10_part 107 = .ok (.aload_n 0, 1) := by decide +kernel
theorem dX10_part_108 : decode cX10_part 108 = .ok (.getfield 70, 3) := by decide +kernel
theorem dX10_part_111 : decode cX10_part 111 = .ok (.iload 5, 2) := by decide +kernel
theorem dX10_part_113 : decode cX10_part 113 = .ok (.iaload, 1) := by decide +kernel
theorem dX10_part_114 : decode cX10_part 114 = .ok (.aload_n 0, 1) := by decide +kernel
theorem dX10_part_115 : decode cX10_part 115 = .ok (.getfield 67, 3) := by decide +kernel
theorem dX10_part_118 : decode cX10_part 118 = .ok (.iload 5, 2) := by decide +kernel
theorem dX10_part_120 : decode cX10_part 120 = .ok (.iaload, 1) := by decide +kernel
theorem dX10_part_121 : decode cX10_part 121 = .ok (.iload_n 1, 1) := by decide +kernel
theorem dX10_part_122 : decode cX10_part 122 = .ok (.imul, 1) := by decide +kernel
theorem dX10_part_123 : decode cX10_part 123 = .ok (.iload_n 2, 1) := by decide +kernel
theorem dX10_part_124 : decode cX10_part 124 = .ok (.idiv, 1) := by decide +kernel
theorem dX10_part_125 : decode cX10_part 125 = .ok (.if_icmp .ne 38, 3) := by decide +kernel
theorem dX10_part_128 : decode cX10_part 128 = .ok (.iload 4, 2) := by decide +kernel
theorem dX10_part_130 : decode cX10_part 130 = .ok (.iconst (-1), 1) := by decide +kernel
theorem dX10_part_131 : decode cX10_part 131 = .ok (.if_icmp .eq 28, 3) := by decide +kernel
theorem dX10_part_134 : decode cX10_part 134 = .ok (.aload_n 0, 1) := by decide +kernel
theorem dX10_part_135 : decode cX10_part 135 = .ok (.getfield 67, 3) := by decide +kernel
theorem dX10_part_138 : decode cX10_part 138 = .ok (.iload 5, 2) := by decide +kernel
theorem dX10_part_140 : decode cX10_part 140 = .ok (.iaload, 1) := by decide +kernel
theorem dX10_part_141 : decode cX10_part 141 = .ok (.iload_n 1, 1) := by decide +kernel
theorem dX10_part_142 : decode cX10_part 142 = .ok (.imul, 1) := by decide +kernel
theorem dX10_part_143 : decode cX10_part 143 = .ok (.iload_n 2, 1) := by decide +kernel
theorem dX10_part_144 : decode cX10_part 144 = .ok (.irem, 1) := by decide +kernel
theorem dX10_part_145 : decode cX10_part 145 = .ok (.aload_n 0, 1) := by decide +kernel
theorem dX10_part_146 : decode cX10_part 146 = .ok (.getfield 67, 3) := by decide +kernel
theorem dX10_part_149 : decode cX10_part 149 = .ok (.iload 4, 2) := by decide +kernel
theorem dX10_part_151 : decode cX10_part 151 = .ok (.iaload, 1) := by decide +kernel
theorem dX10_part_152 : decode cX10_part 152 = .ok (.iload_n 1, 1) := by decide +kernel
theorem dX10_part_153 : decode cX10_part 153 = .ok (.imul, 1) := by decide +kernel
theorem dX10_part_154 : decode cX10_part 154 = .ok (.iload_n 2, 1) := by decide +kernel
theorem dX10_part_155 : decode cX10_part 155 = .ok (.irem, 1) := by decide +kernel
theorem dX10_part_156 : decode cX10_part 156 = .ok (.if_icmp .le 7, 3) := by decide +kernel
theorem dX10_part_159 : decode cX10_part 159 = .ok (.iload 5, 2) := by decide +kernel
theorem dX10_part_161 : decode cX10_part 161 = .ok (.istore 4, 2) := by decide +kernel
theorem dX10_part_163 : decode cX10_part 163 = .ok (.iinc 5 1, 3) := by decide +kernel
theorem dX10_part_166 : decode cX10_part 166 = .ok (.goto (-66), 3) := by decide +kernel
theorem dX10_part_169 : decode cX10_part 169 = .ok (.aload_n 0, 1) := by decide +kernel
theorem dX10_part_170 : decode cX10_part 170 = .ok (.getfield 70, 3) := by decide +kernel
theorem dX10_part_173 : decode cX10_part 173 = .ok (.iload 4, 2) := by decide +kernel
theorem dX10_part_175 : decode cX10_part 175 = .ok (.dup2, 1) := by decide +kernel
theorem dX10_part_176 : decode cX10_part 176 = .ok (.iaload, 1) := by decide +kernel
theorem dX10_part_177 : decode cX10_part 177 = .ok (.iconst 1, 1) := by decide +kernel
theorem dX10_part_178 : decode cX10_part 178 = .ok (.iadd, 1) := by decide +kernel
theorem dX10_part_179 : decode cX10_part 179 = .ok (.iastore, 1) := by decide +kernel
theorem dX10_part_180 : decode cX10_part 180 = .ok (.iinc 3 (-1), 3) := by decide +kernel
theorem dX10_part_183 : decode cX10_part 183 = .ok (.goto (-93), 3) := by decide +kernel
theorem dX10_part_186 : decode cX10_part 186 = .ok (.iload_n 2, 1) := by decide +kernel
theorem dX10_part_187 : decode cX10_part 187 = .ok (.ireturn, 1) := by decide +kernel
theorem dX10_sells_0 : decode cX10_sells 0 = .ok (.iconst 0, 1) := by decide +kernel
theorem dX10_sells_1 : decode cX10_sells 1 = .ok (.istore_n 3, 1) := by decide +kernel
theorem dX10_sells_2 : decode cX10_sells 2 = .ok (.iconst 0, 1) := by decide +kernel
theorem dX10_sells_3 : decode cX10_sells 3 = .ok (.istore 4, 2) := by decide +kernel
theorem dX10_sells_5 : decode cX10_sells 5 = .ok (.iload 4, 2) := by decide +kernel
theorem dX10_sells_7 : decode cX10_sells 7 = .ok (.bipush 28, 2) := by decide +kernel
theorem dX10_sells_9 : decode cX10_sells 9 = .ok (.if_icmp .ge 82, 3) := by decide +kernel
theorem dX10_sells_12 : decode cX10_sells 12 = .ok (.aload_n 0, 1) := by decide +kernel
theorem dX10_sells_13 : decode cX10_sells 13 = .ok (.getfield 61, 3) := by decide +kernel
theorem dX10_sells_16 : decode cX10_sells 16 = .ok (.bipush 10, 2) := by decide +kernel
theorem dX10_sells_18 : decode cX10_sells 18 = .ok (.iload 4, 2) := by decide +kernel
theorem dX10_sells_20 : decode cX10_sells 20 = .ok (.imul, 1) := by decide +kernel
theorem dX10_sells_21 : decode cX10_sells 21 = .ok (.iload_n 1, 1) := by decide +kernel
theorem dX10_sells_22 : decode cX10_sells 22 = .ok (.iadd, 1) := by decide +kernel
theorem dX10_sells_23 : decode cX10_sells 23 = .ok (.dup2, 1) := by decide +kernel
theorem dX10_sells_24 : decode cX10_sells 24 = .ok (.iaload, 1) := by decide +kernel
theorem dX10_sells_25 : decode cX10_sells 25 = .ok (.aload_n 0, 1) := by decide +kernel
theorem dX10_sells_26 : decode cX10_sells 26 = .ok (.getfield 70, 3) := by decide +kernel
theorem dX10_sells_29 : decode cX10_sells 29 = .ok (.iload 4, 2) := by decide +kernel
theorem dX10_sells_31 : decode cX10_sells 31 = .ok (.iaload, 1) := by decide +kernel
theorem dX10_sells_32 : decode cX10_sells 32 = .ok (.iadd, 1) := by decide +kernel
theorem dX10_sells_33 : decode cX10_sells 33 = .ok (.iastore, 1) := by decide +kernel
theorem dX10_sells_34 : decode cX10_sells 34 = .ok (.aload_n 0, 1) := by decide +kernel
theorem dX10_sells_35 : decode cX10_sells 35 = .ok (.getfield 58, 3) := by decide +kernel
theorem dX10_sells_38 : decode cX10_sells 38 = .ok (.bipush 10, 2) := by decide +kernel
theorem dX10_sells_40 : decode cX10_sells 40 = .ok (.iload 4, 2) := by decide +kernel
theorem dX10_sells_42 : decode cX10_sells 42 = .ok (.imul, 1) := by decide +kernel
theorem dX10_sells_43 : decode cX10_sells 43 = .ok (.iload_n 1, 1) := by decide +kernel
theorem dX10_sells_44 : decode cX10_sells 44 = .ok (.iadd, 1) := by decide +kernel
theorem dX10_sells_45 : decode cX10_sells 45 = .ok (.dup2, 1) := by decide +kernel
theorem dX10_sells_46 : decode cX10_sells 46 = .ok (.iaload, 1) := by decide +kernel
theorem dX10_sells_47 : decode cX10_sells 47 = .ok (.aload_n 0, 1) := by decide +kernel
theorem dX10_sells_48 : decode cX10_sells 48 = .ok (.getfield 70, 3) := by decide +kernel
theorem dX10_sells_51 : decode cX10_sells 51 = .ok (.iload 4, 2) := by decide +kernel
theorem dX10_sells_53 : decode cX10_sells 53 = .ok (.iaload, 1) := by decide +kernel
theorem dX10_sells_54 : decode cX10_sells 54 = .ok (.isub, 1) := by decide +kernel
theorem dX10_sells_55 : decode cX10_sells 55 = .ok (.iastore, 1) := by decide +kernel
theorem dX10_sells_56 : decode cX10_sells 56 = .ok (.aload_n 0, 1) := by decide +kernel
theorem dX10_sells_57 : decode cX10_sells 57 = .ok (.getfield 43, 3) := by decide +kernel
theorem dX10_sells_60 : decode cX10_sells 60 = .ok (.iload 4, 2) := by decide +kernel
theorem dX10_sells_62 : decode cX10_sells 62 = .ok (.dup2, 1) := by decide +kernel
theorem dX10_sells_63 : decode cX10_sells 63 = .ok (.iaload, 1) := by decide +kernel
theorem dX10_sells_64 : decode cX10_sells 64 = .ok (.aload_n 0, 1) := by decide +kernel
theorem dX10_sells_65 : decode cX10_sells 65 = .ok (.getfield 70, 3) := by decide +kernel
theorem dX10_sells_68 : decode cX10_sells 68 = .ok (.iload 4, 2) := by decide +kernel
theorem dX10_sells_70 : decode cX10_sells 70 = .ok (.iaload, 1) := by decide +kernel
theorem dX10_sells_71 : decode cX10_sells 71 = .ok (.iload_n 2, 1) := by decide +kernel
theorem dX10_sells_72 : decode cX10_sells 72 = .ok (.imul, 1) := by decide +kernel
theorem dX10_sells_73 : decode cX10_sells 73 = .ok (.isub, 1) := by decide +kernel
theorem dX10_sells_74 : decode cX10_sells 74 = .ok (.iastore, 1) := by decide +kernel
theorem dX10_sells_75 : decode cX10_sells 75 = .ok (.iload_n 3, 1) := by decide +kernel
theorem dX10_sells_76 : decode cX10_sells 76 = .ok (.aload_n 0, 1) := by decide +kernel
theorem dX10_sells_77 : decode cX10_sells 77 = .ok (.getfield 70, 3) := by decide +kernel
theorem dX10_sells_80 : decode cX10_sells 80 = .ok (.iload 4, 2) := by decide +kernel
theorem dX10_sells_82 : decode cX10_sells 82 = .ok (.iaload, 1) := by decide +kernel
theorem dX10_sells_83 : decode cX10_sells 83 = .ok (.iadd, 1) := by decide +kernel
theorem dX10_sells_84 : decode cX10_sells 84 = .ok (.istore_n 3, 1) := by decide +kernel
theorem dX10_sells_85 : decode cX10_sells 85 = .ok (.iinc 4 1, 3) := by decide +kernel
theorem dX10_sells_88 : decode cX10_sells 88 = .ok (.goto (-83), 3) := by decide +kernel
theorem dX10_sells_91 : decode cX10_sells 91 = .ok (.aload_n 0, 1) := by decide +kernel
theorem dX10_sells_92 : decode cX10_sells 92 = .ok (.getfield 31, 3) := by decide +kernel
theorem dX10_sells_95 : decode cX10_sells 95 = .ok (.iload_n 1, 1) := by decide +kernel
theorem dX10_sells_96 : decode cX10_sells 96 = .ok (.dup2, 1) := by decide +kernel
theorem dX10_sells_97 : decode cX10_sells 97 = .ok (.iaload, 1) := by decide +kernel
theorem dX10_sells_98 : decode cX10_sells 98 = .ok (.iload_n 3, 1) := by decide +kernel
theorem dX10_sells_99 : decode cX10_sells 99 = .ok (.isub, 1) := by decide +kernel
theorem dX10_sells_100 : decode cX10_sells 100 = .ok (.iastore, 1) := by decide +kernel
theorem dX10_sells_101 : decode cX10_sells 101 = .ok (.iload_n 3, 1) := by decide +kernel
theorem dX10_sells_102 : decode cX10_sells 102 = .ok (.ireturn, 1) := by decide +kernel
theorem dX10_sellsWork_0 : decode cX10_sellsWork 0 = .ok (.iconst 0, 1) := by decide +kernel
theorem dX10_sellsWork_1 : decode cX10_sellsWork 1 = .ok (.istore_n 2, 1) := by decide +kernel
theorem dX10_sellsWork_2 : decode cX10_sellsWork 2 = .ok (.aload_n 0, 1) := by decide +kernel
theorem dX10_sellsWork_3 : decode cX10_sellsWork 3 = .ok (.getfield 182, 3) := by decide +kernel
theorem dX10_sellsWork_6 : decode cX10_sellsWork 6 = .ok (.ifCond .ne 102, 3) := by decide +kernel
theorem dX10_sellsWork_9 : decode cX10_sellsWork 9 = .ok (.iconst 0, 1) := by decide +kernel
theorem dX10_sellsWork_10 : decode cX10_sellsWork 10 = .ok (.istore_n 3, 1) := by decide +kernel
theorem dX10_sellsWork_11 : decode cX10_sellsWork 11 = .ok (.iload_n 3, 1) := by decide +kernel
theorem dX10_sellsWork_12 : decode cX10_sellsWork 12 = .ok (.bipush 28, 2) := by decide +kernel
theorem dX10_sellsWork_14 : decode cX10_sellsWork 14 = .ok (.if_icmp .ge 48, 3) := by decide +kernel
theorem dX10_sellsWork_17 : decode cX10_sellsWork 17 = .ok (.aload_n 0, 1) := by decide +kernel
theorem dX10_sellsWork_18 : decode cX10_sellsWork 18 = .ok (.getfield 67, 3) := by decide +kernel
theorem dX10_sellsWork_21 : decode cX10_sellsWork 21 = .ok (.iload_n 3, 1) := by decide +kernel
theorem dX10_sellsWork_22 : decode cX10_sellsWork 22 = .ok (.iload_n 3, 1) := by decide +kernel
theorem dX10_sellsWork_23 : decode cX10_sellsWork 23 = .ok (.aload_n 0, 1) := by decide +kernel
theorem dX10_sellsWork_24 : decode cX10_sellsWork 24 = .ok (.getfield 166, 3) := by decide +kernel
theorem dX10_sellsWork_27 : decode cX10_sellsWork 27 = .ok (.if_icmp .ge 27, 3) := by decide +kernel
theorem dX10_sellsWork_30 : decode cX10_sellsWork 30 = .ok (.aload_n 0, 1) := by decide +kernel
theorem dX10_sellsWork_31 : decode cX10_sellsWork 31 = .ok (.getfield 46, 3) := by decide +kernel
theorem dX10_sellsWork_34 : decode cX10_sellsWork 34 = .ok (.iload_n 3, 1) := by decide +kernel
theorem dX10_sellsWork_35 : decode cX10_sellsWork 35 = .ok (.iaload, 1) := by decide +kernel
theorem dX10_sellsWork_36 : decode cX10_sellsWork 36 = .ok (.iload_n 1, 1) := by decide +kernel
theorem dX10_sellsWork_37 : decode cX10_sellsWork 37 = .ok (.if_icmp .ne 17, 3) := by decide +kernel
theorem dX10_sellsWork_40 : decode cX10_sellsWork 40 = .ok (.aload_n 0, 1) := by decide +kernel
theorem dX10_sellsWork_41 : decode cX10_sellsWork 41 = .ok (.getfield 58, 3) := by decide +kernel
theorem dX10_sellsWork_44 : decode cX10_sellsWork 44 = .ok (.bipush 10, 2) := by decide +kernel
theorem dX10_sellsWork_46 : decode cX10_sellsWork 46 = .ok (.iload_n 3, 1) := by decide +kernel
theorem dX10_sellsWork_47 : decode cX10_sellsWork 47 = .ok (.imul, 1) := by decide +kernel
theorem dX10_sellsWork_48 : decode cX10_sellsWork 48 = .ok (.iload_n 1, 1) := by decide +kernel
theorem dX10_sellsWork_49 : decode cX10_sellsWork 49 = .ok (.iadd, 1) := by decide +kernel
theorem dX10_sellsWork_50 : decode cX10_sellsWork 50 = .ok (.iaload, 1) := by decide +kernel
theorem dX10_sellsWork_51 : decode cX10_sellsWork 51 = .ok (.goto 4, 3) := by decide +kernel
theorem dX10_sellsWork_54 : decode cX10_sellsWork 54 = .ok (.iconst 0, 1) := by decide +kernel
theorem dX10_sellsWork_55 : decode cX10_sellsWork 55 = .ok (.iastore, 1) := by decide +kernel
theorem dX10_sellsWork_56 : decode cX10_sellsWork 56 = .ok (.iinc 3 1, 3) := by decide +kernel
theorem dX10_sellsWork_59 : decode cX10_sellsWork 59 = .ok (.goto (-48), 3) := by decide +kernel
theorem dX10_sellsWork_62 : decode cX10_sellsWork 62 = .ok (.aload_n 0, 1) := by decide +kernel
theorem dX10_sellsWork_63 : decode cX10_sellsWork 63 = .ok (.aload_n 0, 1) := by decide +kernel
theorem dX10_sellsWork_64 : decode cX10_sellsWork 64 = .ok (.getfield 28, 3) := by decide +kernel
theorem dX10_sellsWork_67 : decode cX10_sellsWork 67 = .ok (.iload_n 1, 1) := by decide +kernel
theorem dX10_sellsWork_68 : decode cX10_sellsWork 68 = .ok (.iaload, 1) := by decide +kernel
theorem dX10_sellsWork_69 : decode cX10_sellsWork 69 = .ok (.aload_n 0, 1) := by decide +kernel
theorem dX10_sellsWork_70 : decode cX10_sellsWork 70 = .ok (.getfield 13, 3) := by decide +kernel
theorem dX10_sellsWork_73 : decode cX10_sellsWork 73 = .ok (.iconst 0, 1) := by decide +kernel
theorem dX10_sellsWork_74 : decode cX10_sellsWork 74 = .ok (.iaload, 1) := by decide +kernel
theorem dX10_sellsWork_75 : decode cX10_sellsWork 75 = .ok (.imul, 1) := by decide +kernel
theorem dX10_sellsWork_76 : decode cX10_sellsWork 76 = .ok (.bipush 100, 2) := by decide +kernel
theorem dX10_sellsWork_78 : decode cX10_sellsWork 78 = .ok (.idiv, 1) := by decide +kernel
theorem dX10_sellsWork_79 : decode cX10_sellsWork 79 = .ok (.invokevirtual 194, 3) := by decide +kernel
theorem dX10_sellsWork_82 : decode cX10_sellsWork 82 = .ok (.pop, 1) := by decide +kernel
theorem dX10_sellsWork_83 : decode cX10_sellsWork 83 = .ok (.aload_n 0, 1) := by decide +kernel
theorem dX10_sellsWork_84 : decode cX10_sellsWork 84 = .ok (.iload_n 1, 1) := by decide +kernel
theorem dX10_sellsWork_85 : decode cX10_sellsWork 85 = .ok (.aload_n 0, 1) := by decide +kernel
theorem dX10_sellsWork_86 : decode cX10_sellsWork 86 = .ok (.getfield 34, 3) := by decide +kernel
theorem dX10_sellsWork_89 : decode cX10_sellsWork 89 = .ok (.iload_n 1, 1) := by decide +kernel
theorem dX10_sellsWork_90 : decode cX10_sellsWork 90 = .ok (.iaload, 1) := by decide +kernel
theorem dX10_sellsWork_91 : decode cX10_sellsWork 91 = .ok (.aload_n 0, 1) := by decide +kernel
theorem dX10_sellsWork_92 : decode cX10_sellsWork 92 = .ok (.getfield 13, 3) := by decide +kernel
theorem dX10_sellsWork_95 : decode cX10_sellsWork 95 = .ok (.iconst 1, 1) := by decide +kernel
theorem dX10_sellsWork_96 : decode cX10_sellsWork 96 = .ok (.iaload, 1) := by decide +kernel
theorem dX10_sellsWork_97 : decode cX10_sellsWork 97 = .ok (.imul, 1) := by decide +kernel
theorem dX10_sellsWork_98 : decode cX10_sellsWork 98 = .ok (.bipush 99, 2) := by decide +kernel
theorem dX10_sellsWork_100 : decode cX10_sellsWork 100 = .ok (.iadd, 1) := by decide +kernel
theorem dX10_sellsWork_101 : decode cX10_sellsWork 101 = .ok (.bipush 100, 2) := by decide +kernel
theorem dX10_sellsWork_103 : decode cX10_sellsWork 103 = .ok (.idiv, 1) := by decide +kernel
theorem dX10_sellsWork_104 : decode cX10_sellsWork 104 = .ok (.invokevirtual 197, 3) := by decide +kernel
theorem dX10_sellsWork_107 : decode cX10_sellsWork 107 = .ok (.istore_n 2, 1) := by decide +kernel
theorem dX10_sellsWork_108 : decode cX10_sellsWork 108 = .ok (.aload_n 0, 1) := by decide +kernel
theorem dX10_sellsWork_109 : decode cX10_sellsWork 109 = .ok (.getfield 31, 3) := by decide +kernel
theorem dX10_sellsWork_112 : decode cX10_sellsWork 112 = .ok (.iload_n 1, 1) := by decide +kernel
theorem dX10_sellsWork_113 : decode cX10_sellsWork 113 = .ok (.iaload, 1) := by decide +kernel
theorem dX10_sellsWork_114 : decode cX10_sellsWork 114 = .ok (.istore_n 3, 1) := by decide +kernel
theorem dX10_sellsWork_115 : decode cX10_sellsWork 115 = .ok (.iload_n 3, 1) := by decide +kernel
theorem dX10_sellsWork_116 : decode cX10_sellsWork 116 = .ok (.ifCond .ne 5, 3) := by decide +kernel
theorem dX10_sellsWork_119 : decode cX10_sellsWork 119 = .ok (.iload_n 2, 1) := by decide +kernel
theorem dX10_sellsWork_120 : decode cX10_sellsWork 120 = .ok (.ireturn, 1) := by decide +kernel
theorem dX10_sellsWork_121 : decode cX10_sellsWork 121 = .ok (.iconst 0, 1) := by decide +kernel
theorem dX10_sellsWork_122 : decode cX10_sellsWork 122 = .ok (.istore 4, 2) := by decide +kernel
theorem dX10_sellsWork_124 : decode cX10_sellsWork 124 = .ok (.iload 4, 2) := by decide +kernel
theorem dX10_sellsWork_126 : decode cX10_sellsWork 126 = .ok (.bipush 28, 2) := by decide +kernel
theorem dX10_sellsWork_128 : decode cX10_sellsWork 128 = .ok (.if_icmp .ge 28, 3) := by decide +kernel
theorem dX10_sellsWork_131 : decode cX10_sellsWork 131 = .ok (.aload_n 0, 1) := by decide +kernel
theorem dX10_sellsWork_132 : decode cX10_sellsWork 132 = .ok (.getfield 67, 3) := by decide +kernel
theorem dX10_sellsWork_135 : decode cX10_sellsWork 135 = .ok (.iload 4, 2) := by decide +kernel
theorem dX10_sellsWork_137 : decode cX10_sellsWork 137 = .ok (.aload_n 0, 1) := by decide +kernel
theorem dX10_sellsWork_138 : decode cX10_sellsWork 138 = .ok (.getfield 58, 3) := by decide +kernel
theorem dX10_sellsWork_141 : decode cX10_sellsWork 141 = .ok (.bipush 10, 2) := by decide +kernel
theorem dX10_sellsWork_143 : decode cX10_sellsWork 143 = .ok (.iload 4, 2) := by decide +kernel
theorem dX10_sellsWork_145 : decode cX10_sellsWork 145 = .ok (.imul, 1) := by decide +kernel
theorem dX10_sellsWork_146 : decode cX10_sellsWork 146 = .ok (.iload_n 1, 1) := by decide +kernel
theorem dX10_sellsWork_147 : decode cX10_sellsWork 147 = .ok (.iadd, 1) := by decide +kernel
theorem dX10_sellsWork_148 : decode cX10_sellsWork 148 = .ok (.iaload, 1) := by decide +kernel
theorem dX10_sellsWork_149 : decode cX10_sellsWork 149 = .ok (.iastore, 1) := by decide +kernel
theorem dX10_sellsWork_150 : decode cX10_sellsWork 150 = .ok (.iinc 4 1, 3) := by decide +kernel
theorem dX10_sellsWork_153 : decode cX10_sellsWork 153 = .ok (.goto (-29), 3) := by decide +kernel
theorem dX10_sellsWork_156 : decode cX10_sellsWork 156 = .ok (.aload_n 0, 1) := by decide +kernel
theorem dX10_sellsWork_157 : decode cX10_sellsWork 157 = .ok (.iload_n 3, 1) := by decide +kernel
theorem dX10_sellsWork_158 : decode cX10_sellsWork 158 = .ok (.invokevirtual 194, 3) := by decide +kernel
theorem dX10_sellsWork_161 : decode cX10_sellsWork 161 = .ok (.istore 4, 2) := by decide +kernel
theorem dX10_sellsWork_163 : decode cX10_sellsWork 163 = .ok (.iload 4, 2) := by decide +kernel
theorem dX10_sellsWork_165 : decode cX10_sellsWork 165 = .ok (.iload_n 3, 1) := by decide +kernel
theorem dX10_sellsWork_166 : decode cX10_sellsWork 166 = .ok (.if_icmp .le 21, 3) := by decide +kernel
theorem dX10_sellsWork_169 : decode cX10_sellsWork 169 = .ok (.iload 4, 2) := by decide +kernel
theorem dX10_sellsWork_171 : decode cX10_sellsWork 171 = .ok (.iload_n 3, 1) := by decide +kernel
theorem dX10_sellsWork_172 : decode cX10_sellsWork 172 = .ok (.isub, 1) := by decide +kernel
theorem dX10_sellsWork_173 : decode cX10_sellsWork 173 = .ok (.iload_n 3, 1) := by decide +kernel
theorem dX10_sellsWork_174 : decode cX10_sellsWork 174 = .ok (.aload_n 0, 1) := by decide +kernel
theorem dX10_sellsWork_175 : decode cX10_sellsWork 175 = .ok (.getfield 13, 3) := by decide +kernel
theorem dX10_sellsWork_178 : decode cX10_sellsWork 178 = .ok (.iconst 2, 1) := by decide +kernel
theorem dX10_sellsWork_179 : decode cX10_sellsWork 179 = .ok (.iaload, 1) := by decide +kernel
theorem dX10_sellsWork_180 : decode cX10_sellsWork 180 = .ok (.imul, 1) := by decide +kernel
theorem dX10_sellsWork_181 : decode cX10_sellsWork 181 = .ok (.bipush 100, 2) := by decide +kernel
theorem dX10_sellsWork_183 : decode cX10_sellsWork 183 = .ok (.idiv, 1) := by decide +kernel
theorem dX10_sellsWork_184 : decode cX10_sellsWork 184 = .ok (.if_icmp .gt 17, 3) := by decide +kernel
theorem dX10_sellsWork_187 : decode cX10_sellsWork 187 = .ok (.iload_n 2, 1) := by decide +kernel
theorem dX10_sellsWork_188 : decode cX10_sellsWork 188 = .ok (.aload_n 0, 1) := by decide +kernel
theorem dX10_sellsWork_189 : decode cX10_sellsWork 189 = .ok (.iload_n 1, 1) := by decide +kernel
theorem dX10_sellsWork_190 : decode cX10_sellsWork 190 = .ok (.aload_n 0, 1) := by decide +kernel
theorem dX10_sellsWork_191 : decode cX10_sellsWork 191 = .ok (.getfield 34, 3) := by decide +kernel
theorem dX10_sellsWork_194 : decode cX10_sellsWork 194 = .ok (.iload_n 1, 1) := by decide +kernel
theorem dX10_sellsWork_195 : decode cX10_sellsWork 195 = .ok (.iaload, 1) := by decide +kernel
theorem dX10_sellsWork_196 : decode cX10_sellsWork 196 = .ok (.invokevirtual 197, 3) := by decide +kernel
theorem dX10_sellsWork_199 : decode cX10_sellsWork 199 = .ok (.iadd, 1) := by decide +kernel
theorem dX10_sellsWork_200 : decode cX10_sellsWork 200 = .ok (.istore_n 2, 1) := by decide +kernel
theorem dX10_sellsWork_201 : decode cX10_sellsWork 201 = .ok (.aload_n 0, 1) := by decide +kernel
theorem dX10_sellsWork_202 : decode cX10_sellsWork 202 = .ok (.getfield 34, 3) := by decide +kernel
theorem dX10_sellsWork_205 : decode cX10_sellsWork 205 = .ok (.iload_n 1, 1) := by decide +kernel
theorem dX10_sellsWork_206 : decode cX10_sellsWork 206 = .ok (.iaload, 1) := by decide +kernel
theorem dX10_sellsWork_207 : decode cX10_sellsWork 207 = .ok (.istore 5, 2) := by decide +kernel
theorem dX10_sellsWork_209 : decode cX10_sellsWork 209 = .ok (.iload 5, 2) := by decide +kernel
theorem dX10_sellsWork_211 : decode cX10_sellsWork 211 = .ok (.iload 4, 2) := by decide +kernel
theorem dX10_sellsWork_213 : decode cX10_sellsWork 213 = .ok (.imul, 1) := by decide +kernel
theorem dX10_sellsWork_214 : decode cX10_sellsWork 214 = .ok (.iload_n 3, 1) := by decide +kernel
theorem dX10_sellsWork_215 : decode cX10_sellsWork 215 = .ok (.iadd, 1) := by decide +kernel
theorem dX10_sellsWork_216 : decode cX10_sellsWork 216 = .ok (.iconst 1, 1) := by decide +kernel
theorem dX10_sellsWork_217 : decode cX10_sellsWork 217 = .ok (.isub, 1) := by decide +kernel
theorem dX10_sellsWork_218 : decode cX10_sellsWork 218 = .ok (.iload_n 3, 1) := by decide +kernel
theorem dX10_sellsWork_219 : decode cX10_sellsWork 219 = .ok (.idiv, 1) := by decide +kernel
theorem dX10_sellsWork_220 : decode cX10_sellsWork 220 = .ok (.istore 6, 2) := by decide +kernel
theorem dX10_sellsWork_222 : decode cX10_sellsWork 222 = .ok (.iload 5, 2) := by decide +kernel
theorem dX10_sellsWork_224 : decode cX10_sellsWork 224 = .ok (.aload_n 0, 1) := by decide +kernel
theorem dX10_sellsWork_225 : decode cX10_sellsWork 225 = .ok (.getfield 13, 3) := by decide +kernel
theorem dX10_sellsWork_228 : decode cX10_sellsWork 228 = .ok (.iconst 3, 1) := by decide +kernel
theorem dX10_sellsWork_229 : decode cX10_sellsWork 229 = .ok (.iaload, 1) := by decide +kernel
theorem dX10_sellsWork_230 : decode cX10_sellsWork 230 = .ok (.imul, 1) := by decide +kernel
theorem dX10_sellsWork_231 : decode cX10_sellsWork 231 = .ok (.bipush 100, 2) := by decide +kernel
theorem dX10_sellsWork_233 : decode cX10_sellsWork 233 = .ok (.idiv, 1) := by decide +kernel
theorem dX10_sellsWork_234 : decode cX10_sellsWork 234 = .ok (.istore 7, 2) := by decide +kernel
theorem dX10_sellsWork_236 : decode cX10_sellsWork 236 = .ok (.iload 5, 2) := by decide +kernel
theorem dX10_sellsWork_238 : decode cX10_sellsWork 238 = .ok (.aload_n 0, 1) := by decide +kernel
theorem dX10_sellsWork_239 : decode cX10_sellsWork 239 = .ok (.getfield 13, 3) := by decide +kernel
theorem dX10_sellsWork_242 : decode cX10_sellsWork 242 = .ok (.iconst 4, 1) := by decide +kernel
theorem dX10_sellsWork_243 : decode cX10_sellsWork 243 = .ok (.iaload, 1) := by decide +kernel
theorem dX10_sellsWork_244 : decode cX10_sellsWork 244 = .ok (.imul, 1) := by decide +kernel
theorem dX10_sellsWork_245 : decode cX10_sellsWork 245 = .ok (.bipush 99, 2) := by decide +kernel
theorem dX10_sellsWork_247 : decode cX10_sellsWork 247 = .ok (.iadd, 1) := by decide +kernel
theorem dX10_sellsWork_248 : decode cX10_sellsWork 248 = .ok (.bipush 100, 2) := by decide +kernel
theorem dX10_sellsWork_250 : decode cX10_sellsWork 250 = .ok (.idiv, 1) := by decide +kernel
theorem dX10_sellsWork_251 : decode cX10_sellsWork 251 = .ok (.istore 8, 2) := by decide +kernel
theorem dX10_sellsWork_253 : decode cX10_sellsWork 253 = .ok (.iload 6, 2) := by decide +kernel
theorem dX10_sellsWork_255 : decode cX10_sellsWork 255 = .ok (.iload 7, 2) := by decide +kernel
theorem dX10_sellsWork_257 : decode cX10_sellsWork 257 = .ok (.if_icmp .le 7, 3) := by decide +kernel
theorem dX10_sellsWork_260 : decode cX10_sellsWork 260 = .ok (.iload 7, 2) := by decide +kernel
theorem dX10_sellsWork_262 : decode cX10_sellsWork 262 = .ok (.istore 6, 2) := by decide +kernel
theorem dX10_sellsWork_264 : decode cX10_sellsWork 264 = .ok (.iload 6, 2) := by decide +kernel
theorem dX10_sellsWork_266 : decode cX10_sellsWork 266 = .ok (.iload 8, 2) := by decide +kernel
theorem dX10_sellsWork_268 : decode cX10_sellsWork 268 = .ok (.if_icmp .ge 7, 3) := by decide +kernel
theorem dX10_sellsWork_271 : decode cX10_sellsWork 271 = .ok (.iload 8, 2) := by decide +kernel
theorem dX10_sellsWork_273 : decode cX10_sellsWork 273 = .ok (.istore 6, 2) := by decide +kernel
theorem dX10_sellsWork_275 : decode cX10_sellsWork 275 = .ok (.iload 6, 2) := by decide +kernel
theorem dX10_sellsWork_277 : decode cX10_sellsWork 277 = .ok (.aload_n 0, 1) := by decide +kernel
theorem dX10_sellsWork_278 : decode cX10_sellsWork 278 = .ok (.getfield 13, 3) := by decide +kernel
theorem dX10_sellsWork_281 : decode cX10_sellsWork 281 = .ok (.iconst 5, 1) := by decide +kernel
theorem dX10_sellsWork_282 : decode cX10_sellsWork 282 = .ok (.iaload, 1) := by decide +kernel
theorem dX10_sellsWork_283 : decode cX10_sellsWork 283 = .ok (.if_icmp .ge 11, 3) := by decide +kernel
theorem dX10_sellsWork_286 : decode cX10_sellsWork 286 = .ok (.aload_n 0, 1) := by decide +kernel
theorem dX10_sellsWork_287 : decode cX10_sellsWork 287 = .ok (.getfield 13, 3) := by decide +kernel
theorem dX10_sellsWork_290 : decode cX10_sellsWork 290 = .ok (.iconst 5, 1) := by decide +kernel
theorem dX10_sellsWork_291 : decode cX10_sellsWork 291 = .ok (.iaload, 1) := by decide +kernel
theorem dX10_sellsWork_292 : decode cX10_sellsWork 292 = .ok (.istore 6, 2) := by decide +kernel
theorem dX10_sellsWork_294 : decode cX10_sellsWork 294 = .ok (.aload_n 0, 1) := by decide +kernel
theorem dX10_sellsWork_295 : decode cX10_sellsWork 295 = .ok (.getfield 34, 3) := by decide +kernel
theorem dX10_sellsWork_298 : decode cX10_sellsWork 298 = .ok (.iload_n 1, 1) := by decide +kernel
theorem dX10_sellsWork_299 : decode cX10_sellsWork 299 = .ok (.iload 6, 2) := by decide +kernel
theorem dX10_sellsWork_301 : decode cX10_sellsWork 301 = .ok (.sipush 9999, 3) := by decide +kernel
theorem dX10_sellsWork_304 : decode cX10_sellsWork 304 = .ok (.if_icmp .le 9, 3) := by decide +kernel
theorem dX10_sellsWork_307 : decode cX10_sellsWork 307 = .ok (.sipush 9999, 3) := by decide +kernel
theorem dX10_sellsWork_310 : decode cX10_sellsWork 310 = .ok (.goto 5, 3) := by decide +kernel
theorem dX10_sellsWork_313 : decode cX10_sellsWork 313 = .ok (.iload 6, 2) := by decide +kernel
theorem dX10_sellsWork_315 : decode cX10_sellsWork 315 = .ok (.iastore, 1) := by decide +kernel
theorem dX10_sellsWork_316 : decode cX10_sellsWork 316 = .ok (.iload_n 2, 1) := by decide +kernel
theorem dX10_sellsWork_317 : decode cX10_sellsWork 317 = .ok (.ireturn, 1) := by decide +kernel
theorem dX10_close_0 : decode cX10_close 0 = .ok (.aload_n 0, 1) := by decide +kernel
theorem dX10_close_1 : decode cX10_close 1 = .ok (.iconst 0, 1) := by decide +kernel
theorem dX10_close_2 : decode cX10_close 2 = .ok (.putfield 73, 3) := by decide +kernel
theorem dX10_close_5 : decode cX10_close 5 = .ok (.aload_n 0, 1) := by decide +kernel
theorem dX10_close_6 : decode cX10_close 6 = .ok (.getfield 182, 3) := by decide +kernel
theorem dX10_close_9 : decode cX10_close 9 = .ok (.bipush 49, 2) := by decide +kernel
theorem dX10_close_11 : decode cX10_close 11 = .ok (.if_icmp .ne 5, 3) := by decide +kernel
theorem dX10_close_14 : decode cX10_close 14 = .ok (.iconst (-1), 1) := by decide +kernel
theorem dX10_close_15 : decode cX10_close 15 = .ok (.ireturn, 1) := by decide +kernel
theorem dX10_close_16 : decode cX10_close 16 = .ok (.iconst 0, 1) := by decide +kernel
theorem dX10_close_17 : decode cX10_close 17 = .ok (.istore_n 1, 1) := by decide +kernel
theorem dX10_close_18 : decode cX10_close 18 = .ok (.iload_n 1, 1) := by decide +kernel
theorem dX10_close_19 : decode cX10_close 19 = .ok (.sipush 280, 3) := by decide +kernel
theorem dX10_close_22 : decode cX10_close 22 = .ok (.if_icmp .ge 30, 3) := by decide +kernel
theorem dX10_close_25 : decode cX10_close 25 = .ok (.aload_n 0, 1) := by decide +kernel
theorem dX10_close_26 : decode cX10_close 26 = .ok (.getfield 64, 3) := by decide +kernel
theorem dX10_close_29 : decode cX10_close 29 = .ok (.sipush 280, 3) := by decide +kernel
theorem dX10_close_32 : decode cX10_close 32 = .ok (.aload_n 0, 1) := by decide +kernel
theorem dX10_close_33 : decode cX10_close 33 = .ok (.getfield 182, 3) := by decide +kernel
theorem dX10_close_36 : decode cX10_close 36 = .ok (.imul, 1) := by decide +kernel
theorem dX10_close_37 : decode cX10_close 37 = .ok (.iload_n 1, 1) := by decide +kernel
theorem dX10_close_38 : decode cX10_close 38 = .ok (.iadd, 1) := by decide +kernel
theorem dX10_close_39 : decode cX10_close 39 = .ok (.aload_n 0, 1) := by decide +kernel
theorem dX10_close_40 : decode cX10_close 40 = .ok (.getfield 61, 3) := by decide +kernel
theorem dX10_close_43 : decode cX10_close 43 = .ok (.iload_n 1, 1) := by decide +kernel
theorem dX10_close_44 : decode cX10_close 44 = .ok (.iaload, 1) := by decide +kernel
theorem dX10_close_45 : decode cX10_close 45 = .ok (.iastore, 1) := by decide +kernel
theorem dX10_close_46 : decode cX10_close 46 = .ok (.iinc 1 1, 3) := by decide +kernel
theorem dX10_close_49 : decode cX10_close 49 = .ok (.goto (-31), 3) := by decide +kernel
theorem dX10_close_52 : decode cX10_close 52 = .ok (.iconst 0, 1) := by decide +kernel
theorem dX10_close_53 : decode cX10_close 53 = .ok (.istore_n 1, 1) := by decide +kernel
theorem dX10_close_54 : decode cX10_close 54 = .ok (.iconst 0, 1) := by decide +kernel
theorem dX10_close_55 : decode cX10_close 55 = .ok (.istore_n 2, 1) := by decide +kernel
theorem dX10_close_56 : decode cX10_close 56 = .ok (.iload_n 2, 1) := by decide +kernel
theorem dX10_close_57 : decode cX10_close 57 = .ok (.aload_n 0, 1) := by decide +kernel
theorem dX10_close_58 : decode cX10_close 58 = .ok (.getfield 163, 3) := by decide +kernel
theorem dX10_close_61 : decode cX10_close 61 = .ok (.if_icmp .ge 26, 3) := by decide +kernel
theorem dX10_close_64 : decode cX10_close 64 = .ok (.aload_n 0, 1) := by decide +kernel
theorem dX10_close_65 : decode cX10_close 65 = .ok (.getfield 31, 3) := by decide +kernel
theorem dX10_close_68 : decode cX10_close 68 = .ok (.iload_n 2, 1) := by decide +kernel
theorem dX10_close_69 : decode cX10_close 69 = .ok (.iaload, 1) := by decide +kernel
theorem dX10_close_70 : decode cX10_close 70 = .ok (.ifCond .le 11, 3) := by decide +kernel
theorem dX10_close_73 : decode cX10_close 73 = .ok (.iload_n 1, 1) := by decide +kernel
theorem dX10_close_74 : decode cX10_close 74 = .ok (.aload_n 0, 1) := by decide +kernel
theorem dX10_close_75 : decode cX10_close 75 = .ok (.iload_n 2, 1) := by decide +kernel
theorem dX10_close_76 : decode cX10_close 76 = .ok (.invokevirtual 201, 3) := by decide +kernel
theorem dX10_close_79 : decode cX10_close 79 = .ok (.iadd, 1) := by decide +kernel
theorem dX10_close_80 : decode cX10_close 80 = .ok (.istore_n 1, 1) := by decide +kernel
theorem dX10_close_81 : decode cX10_close 81 = .ok (.iinc 2 1, 3) := by decide +kernel
theorem dX10_close_84 : decode cX10_close 84 = .ok (.goto (-28), 3) := by decide +kernel
theorem dX10_close_87 : decode cX10_close 87 = .ok (.iconst 0, 1) := by decide +kernel
theorem dX10_close_88 : decode cX10_close 88 = .ok (.istore_n 2, 1) := by decide +kernel
theorem dX10_close_89 : decode cX10_close 89 = .ok (.iload_n 2, 1) := by decide +kernel
theorem dX10_close_90 : decode cX10_close 90 = .ok (.sipush 280, 3) := by decide +kernel
theorem dX10_close_93 : decode cX10_close 93 = .ok (.if_icmp .ge 16, 3) := by decide +kernel
theorem dX10_close_96 : decode cX10_close 96 = .ok (.aload_n 0, 1) := by decide +kernel
theorem dX10_close_97 : decode cX10_close 97 = .ok (.getfield 58, 3) := by decide +kernel
theorem dX10_close_100 : decode cX10_close 100 = .ok (.iload_n 2, 1) := by decide +kernel
theorem dX10_close_101 : decode cX10_close 101 = .ok (.iconst 0, 1) := by decide +kernel
theorem dX10_close_102 : decode cX10_close 102 = .ok (.iastore, 1) := by decide +kernel
theorem dX10_close_103 : decode cX10_close 103 = .ok (.iinc 2 1, 3) := by decide +kernel
theorem dX10_close_106 : decode cX10_close 106 = .ok (.goto (-17), 3) := by decide +kernel
theorem dX10_close_109 : decode cX10_close 109 = .ok (.aload_n 0, 1) := by decide +kernel
theorem dX10_close_110 : decode cX10_close 110 = .ok (.dup, 1) := by decide +kernel
theorem dX10_close_111 : decode cX10_close 111 = .ok (.getfield 182, 3) := by decide +kernel
theorem dX10_close_114 : decode cX10_close 114 = .ok (.iconst 1, 1) := by decide +kernel
theorem dX10_close_115 : decode cX10_close 115 = .ok (.iadd, 1) := by decide +kernel
theorem dX10_close_116 : decode cX10_close 116 = .ok (.putfield 182, 3) := by decide +kernel
theorem dX10_close_119 : decode cX10_close 119 = .ok (.iconst 0, 1) := by decide +kernel
theorem dX10_close_120 : decode cX10_close 120 = .ok (.istore_n 2, 1) := by decide +kernel
theorem dX10_close_121 : decode cX10_close 121 = .ok (.iload_n 2, 1) := by decide +kernel
theorem dX10_close_122 : decode cX10_close 122 = .ok (.aload_n 0, 1) := by decide +kernel
theorem dX10_close_123 : decode cX10_close 123 = .ok (.getfield 163, 3) := by decide +kernel
theorem dX10_close_126 : decode cX10_close 126 = .ok (.if_icmp .ge 29, 3) := by decide +kernel
theorem dX10_close_129 : decode cX10_close 129 = .ok (.aload_n 0, 1) := by decide +kernel
theorem dX10_close_130 : decode cX10_close 130 = .ok (.getfield 37, 3) := by decide +kernel
theorem dX10_close_133 : decode cX10_close 133 = .ok (.bipush 50, 2) := by decide +kernel
theorem dX10_close_135 : decode cX10_close 135 = .ok (.iload_n 2, 1) := by decide +kernel
theorem dX10_close_136 : decode cX10_close 136 = .ok (.imul, 1) := by decide +kernel
theorem dX10_close_137 : decode cX10_close 137 = .ok (.aload_n 0, 1) := by decide +kernel
theorem dX10_close_138 : decode cX10_close 138 = .ok (.getfield 182, 3) := by decide +kernel
theorem dX10_close_141 : decode cX10_close 141 = .ok (.iadd, 1) := by decide +kernel
theorem dX10_close_142 : decode cX10_close 142 = .ok (.aload_n 0, 1) := by decide +kernel
theorem dX10_close_143 : decode cX10_close 143 = .ok (.getfield 34, 3) := by decide +kernel
theorem dX10_close_146 : decode cX10_close 146 = .ok (.iload_n 2, 1) := by decide +kernel
theorem dX10_close_147 : decode cX10_close 147 = .ok (.iaload, 1) := by decide +kernel
theorem dX10_close_148 : decode cX10_close 148 = .ok (.iastore, 1) := by decide +kernel
theorem dX10_close_149 : decode cX10_close 149 = .ok (.iinc 2 1, 3) := by decide +kernel
theorem dX10_close_152 : decode cX10_close 152 = .ok (.goto (-31), 3) := by decide +kernel
theorem dX10_close_155 : decode cX10_close 155 = .ok (.aload_n 0, 1) := by decide +kernel
theorem dX10_close_156 : decode cX10_close 156 = .ok (.dup, 1) := by decide +kernel
theorem dX10_close_157 : decode cX10_close 157 = .ok (.getfield 204, 3) := by decide +kernel
theorem dX10_close_160 : decode cX10_close 160 = .ok (.iload_n 1, 1) := by decide +kernel
theorem dX10_close_161 : decode cX10_close 161 = .ok (.iadd, 1) := by decide +kernel
theorem dX10_close_162 : decode cX10_close 162 = .ok (.putfield 204, 3) := by decide +kernel
theorem dX10_close_165 : decode cX10_close 165 = .ok (.iload_n 1, 1) := by decide +kernel
theorem dX10_close_166 : decode cX10_close 166 = .ok (.ireturn, 1) := by decide +kernel
theorem dX10_about_0 : decode cX10_about 0 = .ok (.aload_n 0, 1) := by decide +kernel
theorem dX10_about_1 : decode cX10_about 1 = .ok (.iconst 0, 1) := by decide +kernel
theorem dX10_about_2 : decode cX10_about 2 = .ok (.putfield 73, 3) := by decide +kernel
theorem dX10_about_5 : decode cX10_about 5 = .ok (.aload_n 0, 1) := by decide +kernel
theorem dX10_about_6 : decode cX10_about 6 = .ok (.iload_n 1, 1) := by decide +kernel
theorem dX10_about_7 : decode cX10_about 7 = .ok (.invokevirtual 185, 3) := by decide +kernel
theorem dX10_about_10 : decode cX10_about 10 = .ok (.ifCond .ne 5, 3) := by decide +kernel
theorem dX10_about_13 : decode cX10_about 13 = .ok (.iconst (-1), 1) := by decide +kernel
theorem dX10_about_14 : decode cX10_about 14 = .ok (.ireturn, 1) := by decide +kernel
theorem dX10_about_15 : decode cX10_about 15 = .ok (.iconst 0, 1) := by decide +kernel
theorem dX10_about_16 : decode cX10_about 16 = .ok (.istore_n 3, 1) := by decide +kernel
theorem dX10_about_17 : decode cX10_about 17 = .ok (.iconst 0, 1) := by decide +kernel
theorem dX10_about_18 : decode cX10_about 18 = .ok (.istore 4, 2) := by decide +kernel
theorem dX10_about_20 : decode cX10_about 20 = .ok (.iload 4, 2) := by decide +kernel
theorem dX10_about_22 : decode cX10_about 22 = .ok (.bipush 28, 2) := by decide +kernel
theorem dX10_about_24 : decode cX10_about 24 = .ok (.if_icmp .ge 24, 3) := by decide +kernel
theorem dX10_about_27 : decode cX10_about 27 = .ok (.iload_n 3, 1) := by decide +kernel
theorem dX10_about_28 : decode cX10_about 28 = .ok (.aload_n 0, 1) := by decide +kernel
theorem dX10_about_29 : decode cX10_about 29 = .ok (.getfield 58, 3) := by decide +kernel
theorem dX10_about_32 : decode cX10_about 32 = .ok (.bipush 10, 2) := by decide +kernel
theorem dX10_about_34 : decode cX10_about 34 = .ok (.iload 4, 2) := by decide +kernel
theorem dX10_about_36 : decode cX10_about 36 = .ok (.imul, 1) := by decide +kernel
theorem dX10_about_37 : decode cX10_about 37 = .ok (.iload_n 1, 1) := by decide +kernel
theorem dX10_about_38 : decode cX10_about 38 = .ok (.iadd, 1) := by decide +kernel
theorem dX10_about_39 : decode cX10_about 39 = .ok (.iaload, 1) := by decide +kernel
theorem dX10_about_40 : decode cX10_about 40 = .ok (.iadd, 1) := by decide +kernel
theorem dX10_about_41 : decode cX10_about 41 = .ok (.istore_n 3, 1) := by decide +kernel
theorem dX10_about_42 : decode cX10_about 42 = .ok (.iinc 4 1, 3) := by decide +kernel
