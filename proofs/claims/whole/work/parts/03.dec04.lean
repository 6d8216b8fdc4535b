theorem dX4_resistance_222 : decode cX4_resistance 222 = .ok (.aload_n 0, 1) := by decide +kernel
theorem dX4_resistance_223 : decode cX4_resistance 223 = .ok (.getfield 20, 3) := by decide +kernel
theorem dX4_resistance_226 : decode cX4_resistance 226 = .ok (.iload 6, 2) := by decide +kernel
theorem dX4_resistance_228 : decode cX4_resistance 228 = .ok (.iaload, 1) := by decide +kernel
theorem dX4_resistance_229 : decode cX4_resistance 229 = .ok (.aload_n 0, 1) := by decide +kernel
theorem dX4_resistance_230 : decode cX4_resistance 230 = .ok (.getfield 26, 3) := by decide +kernel
theorem dX4_resistance_233 : decode cX4_resistance 233 = .ok (.iload 6, 2) := by decide +kernel
theorem dX4_resistance_235 : decode cX4_resistance 235 = .ok (.iaload, 1) := by decide +kernel
theorem dX4_resistance_236 : decode cX4_resistance 236 = .ok (.invokevirtual 126, 3) := by decide +kernel
theorem dX4_resistance_239 : decode cX4_resistance 239 = .ok (.iinc 6 1, 3) := by decide +kernel
theorem dX4_resistance_242 : decode cX4_resistance 242 = .ok (.goto (-90), 3) := by decide +kernel
theorem dX4_resistance_245 : decode cX4_resistance 245 = .ok (.iconst 0, 1) := by decide +kernel
theorem dX4_resistance_246 : decode cX4_resistance 246 = .ok (.istore 6, 2) := by decide +kernel
theorem dX4_resistance_248 : decode cX4_resistance 248 = .ok (.iload 6, 2) := by decide +kernel
theorem dX4_resistance_250 : decode cX4_resistance 250 = .ok (.aload_n 0, 1) := by decide +kernel
theorem dX4_resistance_251 : decode cX4_resistance 251 = .ok (.getfield 115, 3) := by decide +kernel
theorem dX4_resistance_254 : decode cX4_resistance 254 = .ok (.if_icmp .ge 32, 3) := by decide +kernel
theorem dX4_resistance_257 : decode cX4_resistance 257 = .ok (.aload_n 0, 1) := by decide +kernel
theorem dX4_resistance_258 : decode cX4_resistance 258 = .ok (.getfield 45, 3) := by decide +kernel
theorem dX4_resistance_261 : decode cX4_resistance 261 = .ok (.iload 6, 2) := by decide +kernel
theorem dX4_resistance_263 : decode cX4_resistance 263 = .ok (.iload 6, 2) := by decide +kernel
theorem dX4_resistance_265 : decode cX4_resistance 265 = .ok (.aload_n 0, 1) := by decide +kernel
theorem dX4_resistance_266 : decode cX4_resistance 266 = .ok (.getfield 38, 3) := by decide +kernel
theorem dX4_resistance_269 : decode cX4_resistance 269 = .ok (.iload_n 1, 1) := by decide +kernel
theorem dX4_resistance_270 : decode cX4_resistance 270 = .ok (.iaload, 1) := by decide +kernel
theorem dX4_resistance_271 : decode cX4_resistance 271 = .ok (.if_icmp .ne 7, 3) := by decide +kernel
theorem dX4_resistance_274 : decode cX4_resistance 274 = .ok (.lconst 1, 1) := by decide +kernel
theorem dX4_resistance_275 : decode cX4_resistance 275 = .ok (.goto 4, 3) := by decide +kernel
theorem dX4_resistance_278 : decode cX4_resistance 278 = .ok (.lconst 0, 1) := by decide +kernel
theorem dX4_resistance_279 : decode cX4_resistance 279 = .ok (.lastore, 1) := by decide +kernel
theorem dX4_resistance_280 : decode cX4_resistance 280 = .ok (.iinc 6 1, 3) := by decide +kernel
theorem dX4_resistance_283 : decode cX4_resistance 283 = .ok (.goto (-35), 3) := by decide +kernel
theorem dX4_resistance_286 : decode cX4_resistance 286 = .ok (.aload_n 0, 1) := by decide +kernel
theorem dX4_resistance_287 : decode cX4_resistance 287 = .ok (.iconst (-1), 1) := by decide +kernel
theorem dX4_resistance_288 : decode cX4_resistance 288 = .ok (.invokevirtual 130, 3) := by decide +kernel
theorem dX4_resistance_291 : decode cX4_resistance 291 = .ok (.lstore 6, 2) := by decide +kernel
theorem dX4_resistance_293 : decode cX4_resistance 293 = .ok (.aload_n 0, 1) := by decide +kernel
theorem dX4_resistance_294 : decode cX4_resistance 294 = .ok (.aload_n 0, 1) := by decide +kernel
theorem dX4_resistance_295 : decode cX4_resistance 295 = .ok (.getfield 38, 3) := by decide +kernel
theorem dX4_resistance_298 : decode cX4_resistance 298 = .ok (.iload_n 1, 1) := by decide +kernel
theorem dX4_resistance_299 : decode cX4_resistance 299 = .ok (.iaload, 1) := by decide +kernel
theorem dX4_resistance_300 : decode cX4_resistance 300 = .ok (.invokevirtual 130, 3) := by decide +kernel
theorem dX4_resistance_303 : decode cX4_resistance 303 = .ok (.lload 6, 2) := by decide +kernel
theorem dX4_resistance_305 : decode cX4_resistance 305 = .ok (.iload 4, 2) := by decide +kernel
theorem dX4_resistance_307 : decode cX4_resistance 307 = .ok (.invokestatic 152, 3) := by decide +kernel
theorem dX4_resistance_310 : decode cX4_resistance 310 = .ok (.lreturn, 1) := by decide +kernel
theorem dX4_potentialOf_0 : decode cX4_potentialOf 0 = .ok (.aload_n 0, 1) := by decide +kernel
theorem dX4_potentialOf_1 : decode cX4_potentialOf 1 = .ok (.getfield 51, 3) := by decide +kernel
theorem dX4_potentialOf_4 : decode cX4_potentialOf 4 = .ok (.iload_n 1, 1) := by decide +kernel
theorem dX4_potentialOf_5 : decode cX4_potentialOf 5 = .ok (.laload, 1) := by decide +kernel
theorem dX4_potentialOf_6 : decode cX4_potentialOf 6 = .ok (.aload_n 0, 1) := by decide +kernel
theorem dX4_potentialOf_7 : decode cX4_potentialOf 7 = .ok (.getfield 134, 3) := by decide +kernel
theorem dX4_potentialOf_10 : decode cX4_potentialOf 10 = .ok (.iconst 1, 1) := by decide +kernel
theorem dX4_potentialOf_11 : decode cX4_potentialOf 11 = .ok (.invokestatic 152, 3) := by decide +kernel
theorem dX4_potentialOf_14 : decode cX4_potentialOf 14 = .ok (.l2d, 1) := by decide +kernel
theorem dX4_potentialOf_15 : decode cX4_potentialOf 15 = .ok (.aload_n 0, 1) := by decide +kernel
theorem dX4_potentialOf_16 : decode cX4_potentialOf 16 = .ok (.getfield 51, 3) := by decide +kernel
theorem dX4_potentialOf_19 : decode cX4_potentialOf 19 = .ok (.iload_n 1, 1) := by decide +kernel
theorem dX4_potentialOf_20 : decode cX4_potentialOf 20 = .ok (.laload, 1) := by decide +kernel
theorem dX4_potentialOf_21 : decode cX4_potentialOf 21 = .ok (.aload_n 0, 1) := by decide +kernel
theorem dX4_potentialOf_22 : decode cX4_potentialOf 22 = .ok (.getfield 134, 3) := by decide +kernel
theorem dX4_potentialOf_25 : decode cX4_potentialOf 25 = .ok (.iconst 0, 1) := by decide +kernel
theorem dX4_potentialOf_26 : decode cX4_potentialOf 26 = .ok (.invokestatic 152, 3) := by decide +kernel
theorem dX4_potentialOf_29 : decode cX4_potentialOf 29 = .ok (.l2d, 1) := by decide +kernel
theorem dX4_potentialOf_30 : decode cX4_potentialOf 30 = .ok (.ddiv, 1) := by decide +kernel
theorem dX4_potentialOf_31 : decode cX4_potentialOf 31 = .ok (.dreturn, 1) := by decide +kernel
theorem dX4_power_0 : decode cX4_power 0 = .ok (.aload_n 0, 1) := by decide +kernel
theorem dX4_power_1 : decode cX4_power 1 = .ok (.iload_n 1, 1) := by decide +kernel
theorem dX4_power_2 : decode cX4_power 2 = .ok (.invokestatic 103, 3) := by decide +kernel
theorem dX4_power_5 : decode cX4_power 5 = .ok (.ifCond .eq 7, 3) := by decide +kernel
theorem dX4_power_8 : decode cX4_power 8 = .ok (.iconst 0, 1) := by decide +kernel
theorem dX4_power_9 : decode cX4_power 9 = .ok (.goto 4, 3) := by decide +kernel
theorem dX4_power_12 : decode cX4_power 12 = .ok (.iconst 1, 1) := by decide +kernel
theorem dX4_power_13 : decode cX4_power 13 = .ok (.putfield 57, 3) := by decide +kernel
theorem dX4_power_16 : decode cX4_power 16 = .ok (.aload_n 0, 1) := by decide +kernel
theorem dX4_power_17 : decode cX4_power 17 = .ok (.getfield 57, 3) := by decide +kernel
theorem dX4_power_20 : decode cX4_power 20 = .ok (.ifCond .eq 5, 3) := by decide +kernel
theorem dX4_power_23 : decode cX4_power 23 = .ok (.dconst 0, 1) := by decide +kernel
theorem dX4_power_24 : decode cX4_power 24 = .ok (.dreturn, 1) := by decide +kernel
theorem dX4_power_25 : decode cX4_power 25 = .ok (.aload_n 0, 1) := by decide +kernel
theorem dX4_power_26 : decode cX4_power 26 = .ok (.iload_n 1, 1) := by decide +kernel
theorem dX4_power_27 : decode cX4_power 27 = .ok (.invokevirtual 148, 3) := by decide +kernel
theorem dX4_power_30 : decode cX4_power 30 = .ok (.dconst 0, 1) := by decide +kernel
theorem dX4_power_31 : decode cX4_power 31 = .ok (.dstore_n 2, 1) := by decide +kernel
theorem dX4_power_32 : decode cX4_power 32 = .ok (.iconst 0, 1) := by decide +kernel
theorem dX4_power_33 : decode cX4_power 33 = .ok (.istore 4, 2) := by decide +kernel
theorem dX4_power_35 : decode cX4_power 35 = .ok (.iload 4, 2) := by decide +kernel
theorem dX4_power_37 : decode cX4_power 37 = .ok (.aload_n 0, 1) := by decide +kernel
theorem dX4_power_38 : decode cX4_power 38 = .ok (.getfield 68, 3) := by decide +kernel
theorem dX4_power_41 : decode cX4_power 41 = .ok (.if_icmp .ge 79, 3) := by decide +kernel
theorem dX4_power_44 : decode cX4_power 44 = .ok (.aload_n 0, 1) := by decide +kernel
theorem dX4_power_45 : decode cX4_power 45 = .ok (.iload 4, 2) := by decide +kernel
theorem dX4_power_47 : decode cX4_power 47 = .ok (.iload_n 1, 1) := by decide +kernel
theorem dX4_power_48 : decode cX4_power 48 = .ok (.invokevirtual 106, 3) := by decide +kernel
theorem dX4_power_51 : decode cX4_power 51 = .ok (.ifCond .eq 63, 3) := by decide +kernel
theorem dX4_power_54 : decode cX4_power 54 = .ok (.aload_n 0, 1) := by decide +kernel
theorem dX4_power_55 : decode cX4_power 55 = .ok (.getfield 54, 3) := by decide +kernel
theorem dX4_power_58 : decode cX4_power 58 = .ok (.aload_n 0, 1) := by decide +kernel
theorem dX4_power_59 : decode cX4_power 59 = .ok (.getfield 20, 3) := by decide +kernel
theorem dX4_power_62 : decode cX4_power 62 = .ok (.iload 4, 2) := by decide +kernel
theorem dX4_power_64 : decode cX4_power 64 = .ok (.iaload, 1) := by decide +kernel
theorem dX4_power_65 : decode cX4_power 65 = .ok (.baload, 1) := by decide +kernel
theorem dX4_power_66 : decode cX4_power 66 = .ok (.ifCond .eq 6, 3) := by decide +kernel
theorem dX4_power_69 : decode cX4_power 69 = .ok (.goto 45, 3) := by decide +kernel
theorem dX4_power_72 : decode cX4_power 72 = .ok (.aload_n 0, 1) := by decide +kernel
theorem dX4_power_73 : decode cX4_power 73 = .ok (.aload_n 0, 1) := by decide +kernel
theorem dX4_power_74 : decode cX4_power 74 = .ok (.getfield 20, 3) := by decide +kernel
theorem dX4_power_77 : decode cX4_power 77 = .ok (.iload 4, 2) := by decide +kernel
theorem dX4_power_79 : decode cX4_power 79 = .ok (.iaload, 1) := by decide +kernel
theorem dX4_power_80 : decode cX4_power 80 = .ok (.invokevirtual 156, 3) := by decide +kernel
theorem dX4_power_83 : decode cX4_power 83 = .ok (.aload_n 0, 1) := by decide +kernel
theorem dX4_power_84 : decode cX4_power 84 = .ok (.aload_n 0, 1) := by decide +kernel
theorem dX4_power_85 : decode cX4_power 85 = .ok (.getfield 23, 3) := by decide +kernel
theorem dX4_power_88 : decode cX4_power 88 = .ok (.iload 4, 2) := by decide +kernel
theorem dX4_power_90 : decode cX4_power 90 = .ok (.iaload, 1) := by decide +kernel
theorem dX4_power_91 : decode cX4_power 91 = .ok (.invokevirtual 156, 3) := by decide +kernel
theorem dX4_power_94 : decode cX4_power 94 = .ok (.dsub, 1) := by decide +kernel
theorem dX4_power_95 : decode cX4_power 95 = .ok (.dstore 5, 2) := by decide +kernel
theorem dX4_power_97 : decode cX4_power 97 = .ok (.dload_n 2, 1) := by decide +kernel
theorem dX4_power_98 : decode cX4_power 98 = .ok (.aload_n 0, 1) := by decide +kernel
theorem dX4_power_99 : decode cX4_power 99 = .ok (.getfield 26, 3) := by decide +kernel
theorem dX4_power_102 : decode cX4_power 102 = .ok (.iload 4, 2) := by decide +kernel
theorem dX4_power_104 : decode cX4_power 104 = .ok (.iaload, 1) := by decide +kernel
theorem dX4_power_105 : decode cX4_power 105 = .ok (.i2d, 1) := by decide +kernel
theorem dX4_power_106 : decode cX4_power 106 = .ok (.dload 5, 2) := by decide +kernel
theorem dX4_power_108 : decode cX4_power 108 = .ok (.dmul, 1) := by decide +kernel
theorem dX4_power_109 : decode cX4_power 109 = .ok (.dload 5, 2) := by decide +kernel
theorem dX4_power_111 : decode cX4_power 111 = .ok (.dmul, 1) := by decide +kernel
theorem dX4_power_112 : decode cX4_power 112 = .ok (.dadd, 1) := by decide +kernel
theorem dX4_power_113 : decode cX4_power 113 = .ok (.dstore_n 2, 1) := by decide +kernel
theorem dX4_power_114 : decode cX4_power 114 = .ok (.iinc 4 1, 3) := by decide +kernel
theorem dX4_power_117 : decode cX4_power 117 = .ok (.goto (-82), 3) := by decide +kernel
theorem dX4_power_120 : decode cX4_power 120 = .ok (.dload_n 2, 1) := by decide +kernel
theorem dX4_power_121 : decode cX4_power 121 = .ok (.dreturn, 1) := by decide +kernel
theorem dX4_toggleBehind_0 : decode cX4_toggleBehind 0 = .ok (.iconst (-1), 1) := by decide +kernel
theorem dX4_toggleBehind_1 : decode cX4_toggleBehind 1 = .ok (.istore_n 2, 1) := by decide +kernel
theorem dX4_toggleBehind_2 : decode cX4_toggleBehind 2 = .ok (.iconst 0, 1) := by decide +kernel
theorem dX4_toggleBehind_3 : decode cX4_toggleBehind 3 = .ok (.istore_n 3, 1) := by decide +kernel
theorem dX4_toggleBehind_4 : decode cX4_toggleBehind 4 = .ok (.iload_n 3, 1) := by decide +kernel
theorem dX4_toggleBehind_5 : decode cX4_toggleBehind 5 = .ok (.aload_n 0, 1) := by decide +kernel
theorem dX4_toggleBehind_6 : decode cX4_toggleBehind 6 = .ok (.getfield 68, 3) := by decide +kernel
theorem dX4_toggleBehind_9 : decode cX4_toggleBehind 9 = .ok (.if_icmp .ge 63, 3) := by decide +kernel
theorem dX4_toggleBehind_12 : decode cX4_toggleBehind 12 = .ok (.iconst 0, 1) := by decide +kernel
theorem dX4_toggleBehind_13 : decode cX4_toggleBehind 13 = .ok (.istore 4, 2) := by decide +kernel
theorem dX4_toggleBehind_15 : decode cX4_toggleBehind 15 = .ok (.iload 4, 2) := by decide +kernel
theorem dX4_toggleBehind_17 : decode cX4_toggleBehind 17 = .ok (.aload_n 0, 1) := by decide +kernel
theorem dX4_toggleBehind_18 : decode cX4_toggleBehind 18 = .ok (.getfield 32, 3) := by decide +kernel
theorem dX4_toggleBehind_21 : decode cX4_toggleBehind 21 = .ok (.iload_n 3, 1) := by decide +kernel
theorem dX4_toggleBehind_22 : decode cX4_toggleBehind 22 = .ok (.iaload, 1) := by decide +kernel
theorem dX4_toggleBehind_23 : decode cX4_toggleBehind 23 = .ok (.if_icmp .ge 43, 3) := by decide +kernel
theorem dX4_toggleBehind_26 : decode cX4_toggleBehind 26 = .ok (.aload_n 0, 1) := by decide +kernel
theorem dX4_toggleBehind_27 : decode cX4_toggleBehind 27 = .ok (.getfield 35, 3) := by decide +kernel
theorem dX4_toggleBehind_30 : decode cX4_toggleBehind 30 = .ok (.bipush 6, 2) := by decide +kernel
theorem dX4_toggleBehind_32 : decode cX4_toggleBehind 32 = .ok (.iload_n 3, 1) := by decide +kernel
theorem dX4_toggleBehind_33 : decode cX4_toggleBehind 33 = .ok (.imul, 1) := by decide +kernel
theorem dX4_toggleBehind_34 : decode cX4_toggleBehind 34 = .ok (.iload 4, 2) := by decide +kernel
theorem dX4_toggleBehind_36 : decode cX4_toggleBehind 36 = .ok (.iadd, 1) := by decide +kernel
theorem dX4_toggleBehind_37 : decode cX4_toggleBehind 37 = .ok (.iaload, 1) := by decide +kernel
theorem dX4_toggleBehind_38 : decode cX4_toggleBehind 38 = .ok (.istore 5, 2) := by decide +kernel
theorem dX4_toggleBehind_40 : decode cX4_toggleBehind 40 = .ok (.iload 5, 2) := by decide +kernel
theorem dX4_toggleBehind_42 : decode cX4_toggleBehind 42 = .ok (.iload_n 1, 1) := by decide +kernel
theorem dX4_toggleBehind_43 : decode cX4_toggleBehind 43 = .ok (.if_icmp .le 17, 3) := by decide +kernel
theorem dX4_toggleBehind_46 : decode cX4_toggleBehind 46 = .ok (.iload_n 2, 1) := by decide +kernel
theorem dX4_toggleBehind_47 : decode cX4_toggleBehind 47 = .ok (.iconst (-1), 1) := by decide +kernel
theorem dX4_toggleBehind_48 : decode cX4_toggleBehind 48 = .ok (.if_icmp .eq 9, 3) := by decide +kernel
theorem dX4_toggleBehind_51 : decode cX4_toggleBehind 51 = .ok (.iload 5, 2) := by decide +kernel
theorem dX4_toggleBehind_53 : decode cX4_toggleBehind 53 = .ok (.iload_n 2, 1) := by decide +kernel
theorem dX4_toggleBehind_54 : decode cX4_toggleBehind 54 = .ok (.if_icmp .ge 6, 3) := by decide +kernel
theorem dX4_toggleBehind_57 : decode cX4_toggleBehind 57 = .ok (.iload 5, 2) := by decide +kernel
theorem dX4_toggleBehind_59 : decode cX4_toggleBehind 59 = .ok (.istore_n 2, 1) := by decide +kernel
theorem dX4_toggleBehind_60 : decode cX4_toggleBehind 60 = .ok (.iinc 4 1, 3) := by decide +kernel
theorem dX4_toggleBehind_63 : decode cX4_toggleBehind 63 = .ok (.goto (-48), 3) := by decide +kernel
theorem dX4_toggleBehind_66 : decode cX4_toggleBehind 66 = .ok (.iinc 3 1, 3) := by decide +kernel
theorem dX4_toggleBehind_69 : decode cX4_toggleBehind 69 = .ok (.goto (-65), 3) := by decide +kernel
theorem dX4_toggleBehind_72 : decode cX4_toggleBehind 72 = .ok (.iload_n 2, 1) := by decide +kernel
theorem dX4_toggleBehind_73 : decode cX4_toggleBehind 73 = .ok (.ireturn, 1) := by decide +kernel
theorem dX4_nextToggle_0 : decode cX4_nextToggle 0 = .ok (.aload_n 0, 1) := by decide +kernel
theorem dX4_nextToggle_1 : decode cX4_nextToggle 1 = .ok (.iconst 0, 1) := by decide +kernel
theorem dX4_nextToggle_2 : decode cX4_nextToggle 2 = .ok (.putfield 57, 3) := by decide +kernel
theorem dX4_nextToggle_5 : decode cX4_nextToggle 5 = .ok (.iload_n 1, 1) := by decide +kernel
theorem dX4_nextToggle_6 : decode cX4_nextToggle 6 = .ok (.invokestatic 103, 3) := by decide +kernel
theorem dX4_nextToggle_9 : decode cX4_nextToggle 9 = .ok (.ifCond .eq 11, 3) := by decide +kernel
theorem dX4_nextToggle_12 : decode cX4_nextToggle 12 = .ok (.aload_n 0, 1) := by decide +kernel
theorem dX4_nextToggle_13 : decode cX4_nextToggle 13 = .ok (.iload_n 1, 1) := by decide +kernel
theorem dX4_nextToggle_14 : decode cX4_nextToggle 14 = .ok (.invokevirtual 160, 3) := by decide +kernel
theorem dX4_nextToggle_17 : decode cX4_nextToggle 17 = .ok (.goto 8, 3) := by decide +kernel
theorem dX4_nextToggle_20 : decode cX4_nextToggle 20 = .ok (.aload_n 0, 1) := by decide +kernel
theorem dX4_nextToggle_21 : decode cX4_nextToggle 21 = .ok (.iconst 1, 1) := by decide +kernel
theorem dX4_nextToggle_22 : decode cX4_nextToggle 22 = .ok (.invokevirtual 71, 3) := by decide +kernel
theorem dX4_nextToggle_25 : decode cX4_nextToggle 25 = .ok (.ireturn, 1) := by decide +kernel
theorem dX4_compared_0 : decode cX4_compared 0 = .ok (.lload_n 0, 1) := by decide +kernel
theorem dX4_compared_1 : decode cX4_compared 1 = .ok (.lload_n 2, 1) := by decide +kernel
theorem dX4_compared_2 : decode cX4_compared 2 = .ok (.invokestatic 163, 3) := by decide +kernel
theorem dX4_compared_5 : decode cX4_compared 5 = .ok (.lstore 8, 2) := by decide +kernel
theorem dX4_compared_7 : decode cX4_compared 7 = .ok (.lload 4, 2) := by decide +kernel
theorem dX4_compared_9 : decode cX4_compared 9 = .ok (.lload 6, 2) := by decide +kernel
theorem dX4_compared_11 : decode cX4_compared 11 = .ok (.invokestatic 163, 3) := by decide +kernel
theorem dX4_compared_14 : decode cX4_compared 14 = .ok (.lstore 10, 2) := by decide +kernel
theorem dX4_compared_16 : decode cX4_compared 16 = .ok (.lload 8, 2) := by decide +kernel
theorem dX4_compared_18 : decode cX4_compared 18 = .ok (.lload 10, 2) := by decide +kernel
theorem dX4_compared_20 : decode cX4_compared 20 = .ok (.lcmp, 1) := by decide +kernel
theorem dX4_compared_21 : decode cX4_compared 21 = .ok (.ifCond .eq 17, 3) := by decide +kernel
theorem dX4_compared_24 : decode cX4_compared 24 = .ok (.lload 8, 2) := by decide +kernel
theorem dX4_compared_26 : decode cX4_compared 26 = .ok (.lload 10, 2) := by decide +kernel
theorem dX4_compared_28 : decode cX4_compared 28 = .ok (.lcmp, 1) := by decide +kernel
theorem dX4_compared_29 : decode cX4_compared 29 = .ok (.ifCond .ge 7, 3) := by decide +kernel
theorem dX4_compared_32 : decode cX4_compared 32 = .ok (.iconst (-1), 1) := by decide +kernel
theorem dX4_compared_33 : decode cX4_compared 33 = .ok (.goto 4, 3) := by decide +kernel
theorem dX4_compared_36 : decode cX4_compared 36 = .ok (.iconst 1, 1) := by decide +kernel
theorem dX4_compared_37 : decode cX4_compared 37 = .ok (.ireturn, 1) := by decide +kernel
theorem dX4_compared_38 : decode cX4_compared 38 = .ok (.lload_n 0, 1) := by decide +kernel
theorem dX4_compared_39 : decode cX4_compared 39 = .ok (.lload 8, 2) := by decide +kernel
theorem dX4_compared_41 : decode cX4_compared 41 = .ok (.lload_n 2, 1) := by decide +kernel
theorem dX4_compared_42 : decode cX4_compared 42 = .ok (.lmul, 1) := by decide +kernel
theorem dX4_compared_43 : decode cX4_compared 43 = .ok (.lsub, 1) := by decide +kernel
theorem dX4_compared_44 : decode cX4_compared 44 = .ok (.lstore 12, 2) := by decide +kernel
theorem dX4_compared_46 : decode cX4_compared 46 = .ok (.lload 4, 2) := by decide +kernel
theorem dX4_compared_48 : decode cX4_compared 48 = .ok (.lload 10, 2) := by decide +kernel
theorem dX4_compared_50 : decode cX4_compared 50 = .ok (.lload 6, 2) := by decide +kernel
theorem dX4_compared_52 : decode cX4_compared 52 = .ok (.lmul, 1) := by decide +kernel
theorem dX4_compared_53 : decode cX4_compared 53 = .ok (.lsub, 1) := by decide +kernel
theorem dX4_compared_54 : decode cX4_compared 54 = .ok (.lstore 14, 2) := by decide +kernel
theorem dX4_compared_56 : decode cX4_compared 56 = .ok (.lload 12, 2) := by decide +kernel
theorem dX4_compared_58 : decode cX4_compared 58 = .ok (.lconst 0, 1) := by decide +kernel
theorem dX4_compared_59 : decode cX4_compared 59 = .ok (.lcmp, 1) := by decide +kernel
theorem dX4_compared_60 : decode cX4_compared 60 = .ok (.ifCond .eq 10, 3) := by decide +kernel
theorem dX4_compared_63 : decode cX4_compared 63 = .ok (.lload 14, 2) := by decide +kernel
theorem dX4_compared_65 : decode cX4_compared 65 = .ok (.lconst 0, 1) := by decide +kernel
theorem dX4_compared_66 : decode cX4_compared 66 = .ok (.lcmp, 1) := by decide +kernel
theorem dX4_compared_67 : decode cX4_compared 67 = .ok (.ifCond .ne 28, 3) := by decide +kernel
theorem dX4_compared_70 : decode cX4_compared 70 = .ok (.lload 12, 2) := by decide +kernel
theorem dX4_compared_72 : decode cX4_compared 72 = .ok (.lload 14, 2) := by decide +kernel
theorem dX4_compared_74 : decode cX4_compared 74 = .ok (.lcmp, 1) := by decide +kernel
theorem dX4_compared_75 : decode cX4_compared 75 = .ok (.ifCond .ne 7, 3) := by decide +kernel
theorem dX4_compared_78 : decode cX4_compared 78 = .ok (.iconst 0, 1) := by decide +kernel
theorem dX4_compared_79 : decode cX4_compared 79 = .ok (.goto 15, 3) := by decide +kernel
theorem dX4_compared_82 : decode cX4_compared 82 = .ok (.lload 12, 2) := by decide +kernel
theorem dX4_compared_84 : decode cX4_compared 84 = .ok (.lconst 0, 1) := by decide +kernel
theorem dX4_compared_85 : decode cX4_compared 85 = .ok (.lcmp, 1) := by decide +kernel
theorem dX4_compared_86 : decode cX4_compared 86 = .ok (.ifCond .ne 7, 3) := by decide +kernel
theorem dX4_compared_89 : decode cX4_compared 89 = .ok (.iconst (-1), 1) := by decide +kernel
theorem dX4_compared_90 : decode cX4_compared 90 = .ok (.goto 4, 3) := by decide +kernel
theorem dX4_compared_93 : decode cX4_compared 93 = .ok (.iconst 1, 1) := by decide +kernel
theorem dX4_compared_94 : decode cX4_compared 94 = .ok (.ireturn, 1) := by decide +kernel
theorem dX4_compared_95 : decode cX4_compared 95 = .ok (.lload 6, 2) := by decide +kernel
theorem dX4_compared_97 : decode cX4_compared 97 = .ok (.lload 14, 2) := by decide +kernel
theorem dX4_compared_99 : decode cX4_compared 99 = .ok (.lload_n 2, 1) := by decide +kernel
theorem dX4_compared_100 : decode cX4_compared 100 = .ok (.lload 12, 2) := by decide +kernel
theorem dX4_compared_102 : decode cX4_compared 102 = .ok (.invokestatic 166, 3) := by decide +kernel
theorem dX4_compared_105 : decode cX4_compared 105 = .ok (.ireturn, 1) := by decide +kernel
theorem dX4_probe_0 : decode cX4_probe 0 = .ok (.aload_n 0, 1) := by decide +kernel
theorem dX4_probe_1 : decode cX4_probe 1 = .ok (.iconst 0, 1) := by decide +kernel
theorem dX4_probe_2 : decode cX4_probe 2 = .ok (.putfield 57, 3) := by decide +kernel
theorem dX4_probe_5 : decode cX4_probe 5 = .ok (.aload_n 0, 1) := by decide +kernel
theorem dX4_probe_6 : decode cX4_probe 6 = .ok (.iload_n 1, 1) := by decide +kernel
theorem dX4_probe_7 : decode cX4_probe 7 = .ok (.invokevirtual 75, 3) := by decide +kernel
theorem dX4_probe_10 : decode cX4_probe 10 = .ok (.ifCond .ne 9, 3) := by decide +kernel
theorem dX4_probe_13 : decode cX4_probe 13 = .ok (.aload_n 0, 1) := by decide +kernel
theorem dX4_probe_14 : decode cX4_probe 14 = .ok (.iconst 1, 1) := by decide +kernel
theorem dX4_probe_15 : decode cX4_probe 15 = .ok (.invokevirtual 71, 3) := by decide +kernel
theorem dX4_probe_18 : decode cX4_probe 18 = .ok (.ireturn, 1) := by decide +kernel
theorem dX4_probe_19 : decode cX4_probe 19 = .ok (.iload_n 2, 1) := by decide +kernel
theorem dX4_probe_20 : decode cX4_probe 20 = .ok (.invokestatic 103, 3) := by decide +kernel
theorem dX4_probe_23 : decode cX4_probe 23 = .ok (.ifCond .eq 15, 3) := by decide +kernel
theorem dX4_probe_26 : decode cX4_probe 26 = .ok (.iload_n 3, 1) := by decide +kernel
theorem dX4_probe_27 : decode cX4_probe 27 = .ok (.invokestatic 103, 3) := by decide +kernel
theorem dX4_probe_30 : decode cX4_probe 30 = .ok (.ifCond .eq 8, 3) := by decide +kernel
theorem dX4_probe_33 : decode cX4_probe 33 = .ok (.iload_n 3, 1) := by decide +kernel
theorem dX4_probe_34 : decode cX4_probe 34 = .ok (.iload_n 2, 1) := by decide +kernel
theorem dX4_probe_35 : decode cX4_probe 35 = .ok (.if_icmp .ge 9, 3) := by decide +kernel
theorem dX4_probe_38 : decode cX4_probe 38 = .ok (.aload_n 0, 1) := by decide +kernel
theorem dX4_probe_39 : decode cX4_probe 39 = .ok (.iconst 2, 1) := by decide +kernel
theorem dX4_probe_40 : decode cX4_probe 40 = .ok (.invokevirtual 71, 3) := by decide +kernel
theorem dX4_probe_43 : decode cX4_probe 43 = .ok (.ireturn, 1) := by decide +kernel
theorem dX4_probe_44 : decode cX4_probe 44 = .ok (.iconst (-1), 1) := by decide +kernel
theorem dX4_probe_45 : decode cX4_probe 45 = .ok (.istore 5, 2) := by decide +kernel
theorem dX4_probe_47 : decode cX4_probe 47 = .ok (.lconst 0, 1) := by decide +kernel
theorem dX4_probe_48 : decode cX4_probe 48 = .ok (.lstore 6, 2) := by decide +kernel
theorem dX4_probe_50 : decode cX4_probe 50 = .ok (.lconst 1, 1) := by decide +kernel
theorem dX4_probe_51 : decode cX4_probe 51 = .ok (.lstore 8, 2) := by decide +kernel
theorem dX4_probe_53 : decode cX4_probe 53 = .ok (.iload_n 2, 1) := by decide +kernel
theorem dX4_probe_54 : decode cX4_probe 54 = .ok (.istore 10, 2) := by decide +kernel
theorem dX4_probe_56 : decode cX4_probe 56 = .ok (.iload 10, 2) := by decide +kernel
theorem dX4_probe_58 : decode cX4_probe 58 = .ok (.iconst (-1), 1) := by decide +kernel
theorem dX4_probe_59 : decode cX4_probe 59 = .ok (.if_icmp .eq 113, 3) := by decide +kernel
theorem dX4_probe_62 : decode cX4_probe 62 = .ok (.iload 10, 2) := by decide +kernel
theorem dX4_probe_64 : decode cX4_probe 64 = .ok (.iload_n 3, 1) := by decide +kernel
theorem dX4_probe_65 : decode cX4_probe 65 = .ok (.if_icmp .gt 107, 3) := by decide +kernel
theorem dX4_probe_68 : decode cX4_probe 68 = .ok (.aload_n 0, 1) := by decide +kernel
theorem dX4_probe_69 : decode cX4_probe 69 = .ok (.iload_n 1, 1) := by decide +kernel
theorem dX4_probe_70 : decode cX4_probe 70 = .ok (.iload 10, 2) := by decide +kernel
theorem dX4_probe_72 : decode cX4_probe 72 = .ok (.invokevirtual 112, 3) := by decide +kernel
theorem dX4_probe_75 : decode cX4_probe 75 = .ok (.ifCond .eq 6, 3) := by decide +kernel
theorem dX4_probe_78 : decode cX4_probe 78 = .ok (.goto 83, 3) := by decide +kernel
theorem dX4_probe_81 : decode cX4_probe 81 = .ok (.aload_n 0, 1) := by decide +kernel
theorem dX4_probe_82 : decode cX4_probe 82 = .ok (.iload 10, 2) := by decide +kernel
theorem dX4_probe_84 : decode cX4_probe 84 = .ok (.invokevirtual 148, 3) := by decide +kernel
theorem dX4_probe_87 : decode cX4_probe 87 = .ok (.iload 5, 2) := by decide +kernel
theorem dX4_probe_89 : decode cX4_probe 89 = .ok (.iconst (-1), 1) := by decide +kernel
theorem dX4_probe_90 : decode cX4_probe 90 = .ok (.if_icmp .ne 7, 3) := by decide +kernel
theorem dX4_probe_93 : decode cX4_probe 93 = .ok (.iconst 1, 1) := by decide +kernel
theorem dX4_probe_94 : decode cX4_probe 94 = .ok (.goto 20, 3) := by decide +kernel
theorem dX4_probe_97 : decode cX4_probe 97 = .ok (.aload_n 0, 1) := by decide +kernel
theorem dX4_probe_98 : decode cX4_probe 98 = .ok (.getfield 51, 3) := by decide +kernel
theorem dX4_probe_101 : decode cX4_probe 101 = .ok (.iload_n 1, 1) := by decide +kernel
theorem dX4_probe_102 : decode cX4_probe 102 = .ok (.laload, 1) := by decide +kernel
theorem dX4_probe_103 : decode cX4_probe 103 = .ok (.aload_n 0, 1) := by decide +kernel
theorem dX4_probe_104 : decode cX4_probe 104 = .ok (.getfield 134, 3) := by decide +kernel
theorem dX4_probe_107 : decode cX4_probe 107 = .ok (.lload 6, 2) := by decide +kernel
theorem dX4_probe_109 : decode cX4_probe 109 = .ok (.lload 8, 2) := by decide +kernel
theorem dX4_probe_111 : decode cX4_probe 111 = .ok (.invokestatic 166, 3) := by decide +kernel
theorem dX4_probe_114 : decode cX4_probe 114 = .ok (.istore 11, 2) := by decide +kernel
theorem dX4_probe_116 : decode cX4_probe 116 = .ok (.iload 5, 2) := by decide +kernel
theorem dX4_probe_118 : decode cX4_probe 118 = .ok (.iconst (-1), 1) := by decide +kernel
theorem dX4_probe_119 : decode cX4_probe 119 = .ok (.if_icmp .eq 24, 3) := by decide +kernel
theorem dX4_probe_122 : decode cX4_probe 122 = .ok (.iload 4, 2) := by decide +kernel
theorem dX4_probe_124 : decode cX4_probe 124 = .ok (.ifCond .eq 11, 3) := by decide +kernel
theorem dX4_probe_127 : decode cX4_probe 127 = .ok (.iload 11, 2) := by decide +kernel
theorem dX4_probe_129 : decode cX4_probe 129 = .ok (.ifCond .gt 14, 3) := by decide +kernel
theorem dX4_probe_132 : decode cX4_probe 132 = .ok (.goto 29, 3) := by decide +kernel
theorem dX4_probe_135 : decode cX4_probe 135 = .ok (.iload 11, 2) := by decide +kernel
theorem dX4_probe_137 : decode cX4_probe 137 = .ok (.ifCond .lt 6, 3) := by decide +kernel
theorem dX4_probe_140 : decode cX4_probe 140 = .ok (.goto 21, 3) := by decide +kernel
theorem dX4_probe_143 : decode cX4_probe 143 = .ok (.iload 10, 2) := by decide +kernel
theorem dX4_probe_145 : decode cX4_probe 145 = .ok (.istore 5, 2) := by decide +kernel
theorem dX4_probe_147 : decode cX4_probe 147 = .ok (.aload_n 0, 1) := by decide +kernel
theorem dX4_probe_148 : decode cX4_probe 148 = .ok (.getfield 51, 3) := by decide +kernel
theorem dX4_probe_151 : decode cX4_probe 151 = .ok (.iload_n 1, 1) := by decide +kernel
theorem dX4_probe_152 : decode cX4_probe 152 = .ok (.laload, 1) := by decide +kernel
theorem dX4_probe_153 : decode cX4_probe 153 = .ok (.lstore 6, 2) := by decide +kernel
theorem dX4_probe_155 : decode cX4_probe 155 = .ok (.aload_n 0, 1) := by decide +kernel
theorem dX4_probe_156 : decode cX4_probe 156 = .ok (.getfield 134, 3) := by decide +kernel
theorem dX4_probe_159 : decode cX4_probe 159 = .ok (.lstore 8, 2) := by decide +kernel
theorem dX4_probe_161 : decode cX4_probe 161 = .ok (.aload_n 0, 1) := by decide +kernel
theorem dX4_probe_162 : decode cX4_probe 162 = .ok (.iload 10, 2) := by decide +kernel
theorem dX4_probe_164 : decode cX4_probe 164 = .ok (.invokevirtual 160, 3) := by decide +kernel
theorem dX4_probe_167 : decode cX4_probe 167 = .ok (.istore 10, 2) := by decide +kernel
theorem dX4_probe_169 : decode cX4_probe 169 = .ok (.goto (-113), 3) := by decide +kernel
theorem dX4_probe_172 : decode cX4_probe 172 = .ok (.iload 5, 2) := by decide +kernel
theorem dX4_probe_174 : decode cX4_probe 174 = .ok (.ireturn, 1) := by decide +kernel
theorem dX4_compare_0 : decode cX4_compare 0 = .ok (.aload_n 0, 1) := by decide +kernel
theorem dX4_compare_1 : decode cX4_compare 1 = .ok (.iconst 0, 1) := by decide +kernel
theorem dX4_compare_2 : decode cX4_compare 2 = .ok (.putfield 57, 3) := by decide +kernel
theorem dX4_compare_5 : decode cX4_compare 5 = .ok (.aload_n 0, 1) := by decide +kernel
theorem dX4_compare_6 : decode cX4_compare 6 = .ok (.iload_n 1, 1) := by decide +kernel
theorem dX4_compare_7 : decode cX4_compare 7 = .ok (.invokevirtual 75, 3) := by decide +kernel
theorem dX4_compare_10 : decode cX4_compare 10 = .ok (.ifCond .ne 9, 3) := by decide +kernel
theorem dX4_compare_13 : decode cX4_compare 13 = .ok (.aload_n 0, 1) := by decide +kernel
theorem dX4_compare_14 : decode cX4_compare 14 = .ok (.iconst 1, 1) := by decide +kernel
theorem dX4_compare_15 : decode cX4_compare 15 = .ok (.invokevirtual 71, 3) := by decide +kernel
theorem dX4_compare_18 : decode cX4_compare 18 = .ok (.ireturn, 1) := by decide +kernel
theorem dX4_compare_19 : decode cX4_compare 19 = .ok (.iload_n 2, 1) := by decide +kernel
theorem dX4_compare_20 : decode cX4_compare 20 = .ok (.invokestatic 103, 3) := by decide +kernel
theorem dX4_compare_23 : decode cX4_compare 23 = .ok (.ifCond .eq 28, 3) := by decide +kernel
theorem dX4_compare_26 : decode cX4_compare 26 = .ok (.iload_n 3, 1) := by decide +kernel
theorem dX4_compare_27 : decode cX4_compare 27 = .ok (.sipush (-500), 3) := by decide +kernel
theorem dX4_compare_30 : decode cX4_compare 30 = .ok (.sipush 500, 3) := by decide +kernel
theorem dX4_compare_33 : decode cX4_compare 33 = .ok (.invokestatic 64, 3) := by decide +kernel
theorem dX4_compare_36 : decode cX4_compare 36 = .ok (.ifCond .eq 15, 3) := by decide +kernel
theorem dX4_compare_39 : decode cX4_compare 39 = .ok (.iload 4, 2) := by decide +kernel
theorem dX4_compare_41 : decode cX4_compare 41 = .ok (.iconst 1, 1) := by decide +kernel
theorem dX4_compare_42 : decode cX4_compare 42 = .ok (.sipush 500, 3) := by decide +kernel
theorem dX4_compare_45 : decode cX4_compare 45 = .ok (.invokestatic 64, 3) := by decide +kernel
theorem dX4_compare_48 : decode cX4_compare 48 = .ok (.ifCond .ne 9, 3) := by decide +kernel
theorem dX4_compare_51 : decode cX4_compare 51 = .ok (.aload_n 0, 1) := by decide +kernel
theorem dX4_compare_52 : decode cX4_compare 52 = .ok (.iconst 2, 1) := by decide +kernel
theorem dX4_compare_53 : decode cX4_compare 53 = .ok (.invokevirtual 71, 3) := by decide +kernel
theorem dX4_compare_56 : decode cX4_compare 56 = .ok (.ireturn, 1) := by decide +kernel
theorem dX4_compare_57 : decode cX4_compare 57 = .ok (.aload_n 0, 1) := by decide +kernel
theorem dX4_compare_58 : decode cX4_compare 58 = .ok (.iload_n 1, 1) := by decide +kernel
theorem dX4_compare_59 : decode cX4_compare 59 = .ok (.iload_n 2, 1) := by decide +kernel
theorem dX4_compare_60 : decode cX4_compare 60 = .ok (.invokevirtual 112, 3) := by decide +kernel
theorem dX4_compare_63 : decode cX4_compare 63 = .ok (.ifCond .eq 9, 3) := by decide +kernel
theorem dX4_compare_66 : decode cX4_compare 66 = .ok (.aload_n 0, 1) := by decide +kernel
theorem dX4_compare_67 : decode cX4_compare 67 = .ok (.iconst 3, 1) := by decide +kernel
theorem dX4_compare_68 : decode cX4_compare 68 = .ok (.invokevirtual 71, 3) := by decide +kernel
theorem dX4_compare_71 : decode cX4_compare 71 = .ok (.ireturn, 1) := by decide +kernel
theorem dX4_compare_72 : decode cX4_compare 72 = .ok (.aload_n 0, 1) := by decide +kernel
theorem dX4_compare_73 : decode cX4_compare 73 = .ok (.iload_n 2, 1) := by decide +kernel
theorem dX4_compare_74 : decode cX4_compare 74 = .ok (.invokevirtual 148, 3) := by decide +kernel
theorem dX4_compare_77 : decode cX4_compare 77 = .ok (.aload_n 0, 1) := by decide +kernel
theorem dX4_compare_78 : decode cX4_compare 78 = .ok (.getfield 51, 3) := by decide +kernel
theorem dX4_compare_81 : decode cX4_compare 81 = .ok (.iload_n 1, 1) := by decide +kernel
theorem dX4_compare_82 : decode cX4_compare 82 = .ok (.laload, 1) := by decide +kernel
theorem dX4_compare_83 : decode cX4_compare 83 = .ok (.aload_n 0, 1) := by decide +kernel
theorem dX4_compare_84 : decode cX4_compare 84 = .ok (.getfield 134, 3) := by decide +kernel
theorem dX4_compare_87 : decode cX4_compare 87 = .ok (.iload_n 3, 1) := by decide +kernel
theorem dX4_compare_88 : decode cX4_compare 88 = .ok (.i2l, 1) := by decide +kernel
theorem dX4_compare_89 : decode cX4_compare 89 = .ok (.iload 4, 2) := by decide +kernel
theorem dX4_compare_91 : decode cX4_compare 91 = .ok (.i2l, 1) := by decide +kernel
theorem dX4_compare_92 : decode cX4_compare 92 = .ok (.invokestatic 166, 3) := by decide +kernel
theorem dX4_compare_95 : decode cX4_compare 95 = .ok (.ireturn, 1) := by decide +kernel
theorem dX4_levels_0 : decode cX4_levels 0 = .ok (.aload_n 0, 1) := by decide +kernel
theorem dX4_levels_1 : decode cX4_levels 1 = .ok (.iconst 0, 1) := by decide +kernel
theorem dX4_levels_2 : decode cX4_levels 2 = .ok (.putfield 57, 3) := by decide +kernel
theorem dX4_levels_5 : decode cX4_levels 5 = .ok (.iload_n 1, 1) := by decide +kernel
theorem dX4_levels_6 : decode cX4_levels 6 = .ok (.invokestatic 103, 3) := by decide +kernel
theorem dX4_levels_9 : decode cX4_levels 9 = .ok (.ifCond .ne 9, 3) := by decide +kernel
theorem dX4_levels_12 : decode cX4_levels 12 = .ok (.aload_n 0, 1) := by decide +kernel
theorem dX4_levels_13 : decode cX4_levels 13 = .ok (.iconst 1, 1) := by decide +kernel
theorem dX4_levels_14 : decode cX4_levels 14 = .ok (.invokevirtual 71, 3) := by decide +kernel
theorem dX4_levels_17 : decode cX4_levels 17 = .ok (.ireturn, 1) := by decide +kernel
theorem dX4_levels_18 : decode cX4_levels 18 = .ok (.aload_n 0, 1) := by decide +kernel
theorem dX4_levels_19 : decode cX4_levels 19 = .ok (.iload_n 1, 1) := by decide +kernel
theorem dX4_levels_20 : decode cX4_levels 20 = .ok (.invokevirtual 148, 3) := by decide +kernel
theorem dX4_levels_23 : decode cX4_levels 23 = .ok (.iconst 0, 1) := by decide +kernel
theorem dX4_levels_24 : decode cX4_levels 24 = .ok (.istore_n 2, 1) := by decide +kernel
theorem dX4_levels_25 : decode cX4_levels 25 = .ok (.iconst 0, 1) := by decide +kernel
theorem dX4_levels_26 : decode cX4_levels 26 = .ok (.istore_n 3, 1) := by decide +kernel
theorem dX4_levels_27 : decode cX4_levels 27 = .ok (.iload_n 3, 1) := by decide +kernel
theorem dX4_levels_28 : decode cX4_levels 28 = .ok (.aload_n 0, 1) := by decide +kernel
theorem dX4_levels_29 : decode cX4_levels 29 = .ok (.getfield 61, 3) := by decide +kernel
theorem dX4_levels_32 : decode cX4_levels 32 = .ok (.if_icmp .ge 92, 3) := by decide +kernel
theorem dX4_levels_35 : decode cX4_levels 35 = .ok (.aload_n 0, 1) := by decide +kernel
theorem dX4_levels_36 : decode cX4_levels 36 = .ok (.getfield 54, 3) := by decide +kernel
theorem dX4_levels_39 : decode cX4_levels 39 = .ok (.iload_n 3, 1) := by decide +kernel
theorem dX4_levels_40 : decode cX4_levels 40 = .ok (.baload, 1) := by decide +kernel
theorem dX4_levels_41 : decode cX4_levels 41 = .ok (.ifCond .ne 7, 3) := by decide +kernel
theorem dX4_levels_44 : decode cX4_levels 44 = .ok (.iconst 1, 1) := by decide +kernel
theorem dX4_levels_45 : decode cX4_levels 45 = .ok (.goto 4, 3) := by decide +kernel
theorem dX4_levels_48 : decode cX4_levels 48 = .ok (.iconst 0, 1) := by decide +kernel
theorem dX4_levels_49 : decode cX4_levels 49 = .ok (.istore 4, 2) := by decide +kernel
theorem dX4_levels_51 : decode cX4_levels 51 = .ok (.iconst 0, 1) := by decide +kernel
theorem dX4_levels_52 : decode cX4_levels 52 = .ok (.istore 5, 2) := by decide +kernel
theorem dX4_levels_54 : decode cX4_levels 54 = .ok (.iload 5, 2) := by decide +kernel
theorem dX4_levels_56 : decode cX4_levels 56 = .ok (.iload_n 3, 1) := by decide +kernel
theorem dX4_levels_57 : decode cX4_levels 57 = .ok (.if_icmp .ge 48, 3) := by decide +kernel
theorem dX4_levels_60 : decode cX4_levels 60 = .ok (.iload 4, 2) := by decide +kernel
theorem dX4_levels_62 : decode cX4_levels 62 = .ok (.ifCond .eq 34, 3) := by decide +kernel
theorem dX4_levels_65 : decode cX4_levels 65 = .ok (.aload_n 0, 1) := by decide +kernel
theorem dX4_levels_66 : decode cX4_levels 66 = .ok (.getfield 54, 3) := by decide +kernel
theorem dX4_levels_69 : decode cX4_levels 69 = .ok (.iload 5, 2) := by decide +kernel
theorem dX4_levels_71 : decode cX4_levels 71 = .ok (.baload, 1) := by decide +kernel
theorem dX4_levels_72 : decode cX4_levels 72 = .ok (.ifCond .ne 20, 3) := by decide +kernel
theorem dX4_levels_75 : decode cX4_levels 75 = .ok (.aload_n 0, 1) := by decide +kernel
theorem dX4_levels_76 : decode cX4_levels 76 = .ok (.getfield 51, 3) := by decide +kernel
theorem dX4_levels_79 : decode cX4_levels 79 = .ok (.iload 5, 2) := by decide +kernel
theorem dX4_levels_81 : decode cX4_levels 81 = .ok (.laload, 1) := by decide +kernel
theorem dX4_levels_82 : decode cX4_levels 82 = .ok (.aload_n 0, 1) := by decide +kernel
theorem dX4_levels_83 : decode cX4_levels 83 = .ok (.getfield 51, 3) := by decide +kernel
theorem dX4_levels_86 : decode cX4_levels 86 = .ok (.iload_n 3, 1) := by decide +kernel
theorem dX4_levels_87 : decode cX4_levels 87 = .ok (.laload, 1) := by decide +kernel
theorem dX4_levels_88 : decode cX4_levels 88 = .ok (.lcmp, 1) := by decide +kernel
theorem dX4_levels_89 : decode cX4_levels 89 = .ok (.ifCond .eq 7, 3) := by decide +kernel
theorem dX4_levels_92 : decode cX4_levels 92 = .ok (.iconst 1, 1) := by decide +kernel
theorem dX4_levels_93 : decode cX4_levels 93 = .ok (.goto 4, 3) := by decide +kernel
theorem dX4_levels_96 : decode cX4_levels 96 = .ok (.iconst 0, 1) := by decide +kernel
theorem dX4_levels_97 : decode cX4_levels 97 = .ok (.istore 4, 2) := by decide +kernel
theorem dX4_levels_99 : decode cX4_levels 99 = .ok (.iinc 5 1, 3) := by decide +kernel
theorem dX4_levels_102 : decode cX4_levels 102 = .ok (.goto (-48), 3) := by decide +kernel
theorem dX4_levels_105 : decode cX4_levels 105 = .ok (.iload_n 2, 1) := by decide +kernel
theorem dX4_levels_106 : decode cX4_levels 106 = .ok (.iload 4, 2) := by decide +kernel
theorem dX4_levels_108 : decode cX4_levels 108 = .ok (.ifCond .eq 7, 3) := by decide +kernel
theorem dX4_levels_111 : decode cX4_levels 111 = .ok (.iconst 1, 1) := by decide +kernel
theorem dX4_levels_112 : decode cX4_levels 112 = .ok (.goto 4, 3) := by decide +kernel
theorem dX4_levels_115 : decode cX4_levels 115 = .ok (.iconst 0, 1) := by decide +kernel
theorem dX4_levels_116 : decode cX4_levels 116 = .ok (.iadd, 1) := by decide +kernel
theorem dX4_levels_117 : decode cX4_levels 117 = .ok (.istore_n 2, 1) := by decide +kernel
theorem dX4_levels_118 : decode cX4_levels 118 = .ok (.iinc 3 1, 3) := by decide +kernel
theorem dX4_levels_121 : decode cX4_levels 121 = .ok (.goto (-94), 3) := by decide +kernel
theorem dX4_levels_124 : decode cX4_levels 124 = .ok (.iload_n 2, 1) := by decide +kernel
theorem dX4_levels_125 : decode cX4_levels 125 = .ok (.ireturn, 1) := by decide +kernel
theorem dX4_into_0 : decode cX4_into 0 = .ok (.lload_n 1, 1) := by decide +kernel
theorem dX4_into_1 : decode cX4_into 1 = .ok (.lstore 4, 2) := by decide +kernel
theorem dX4_into_3 : decode cX4_into 3 = .ok (.aload_n 0, 1) := by decide +kernel
theorem dX4_into_4 : decode cX4_into 4 = .ok (.iload_n 3, 1) := by decide +kernel
theorem dX4_into_5 : decode cX4_into 5 = .ok (.invokevirtual 148, 3) := by decide +kernel
theorem dX4_into_8 : decode cX4_into 8 = .ok (.iconst 0, 1) := by decide +kernel
theorem dX4_into_9 : decode cX4_into 9 = .ok (.istore 6, 2) := by decide +kernel
theorem dX4_into_11 : decode cX4_into 11 = .ok (.iload 6, 2) := by decide +kernel
theorem dX4_into_13 : decode cX4_into 13 = .ok (.aload_n 0, 1) := by decide +kernel
theorem dX4_into_14 : decode cX4_into 14 = .ok (.getfield 61, 3) := by decide +kernel
theorem dX4_into_17 : decode cX4_into 17 = .ok (.if_icmp .ge 76, 3) := by decide +kernel
theorem dX4_into_20 : decode cX4_into 20 = .ok (.aload_n 0, 1) := by decide +kernel
theorem dX4_into_21 : decode cX4_into 21 = .ok (.getfield 54, 3) := by decide +kernel
theorem dX4_into_24 : decode cX4_into 24 = .ok (.iload 6, 2) := by decide +kernel
theorem dX4_into_26 : decode cX4_into 26 = .ok (.baload, 1) := by decide +kernel
theorem dX4_into_27 : decode cX4_into 27 = .ok (.ifCond .eq 16, 3) := by decide +kernel
theorem dX4_into_30 : decode cX4_into 30 = .ok (.lload 4, 2) := by decide +kernel
theorem dX4_into_32 : decode cX4_into 32 = .ok (.ldc2_w 170, 3) := by decide +kernel
theorem dX4_into_35 : decode cX4_into 35 = .ok (.lmul, 1) := by decide +kernel
theorem dX4_into_36 : decode cX4_into 36 = .ok (.ldc2_w 172, 3) := by decide +kernel
theorem dX4_into_39 : decode cX4_into 39 = .ok (.ladd, 1) := by decide +kernel
theorem dX4_into_40 : decode cX4_into 40 = .ok (.goto 45, 3) := by decide +kernel
theorem dX4_into_43 : decode cX4_into 43 = .ok (.lload 4, 2) := by decide +kernel
theorem dX4_into_45 : decode cX4_into 45 = .ok (.ldc2_w 170, 3) := by decide +kernel
theorem dX4_into_48 : decode cX4_into 48 = .ok (.lmul, 1) := by decide +kernel
theorem dX4_into_49 : decode cX4_into 49 = .ok (.aload_n 0, 1) := by decide +kernel
theorem dX4_into_50 : decode cX4_into 50 = .ok (.getfield 51, 3) := by decide +kernel
theorem dX4_into_53 : decode cX4_into 53 = .ok (.iload 6, 2) := by decide +kernel
theorem dX4_into_55 : decode cX4_into 55 = .ok (.laload, 1) := by decide +kernel
theorem dX4_into_56 : decode cX4_into 56 = .ok (.aload_n 0, 1) := by decide +kernel
theorem dX4_into_57 : decode cX4_into 57 = .ok (.getfield 134, 3) := by decide +kernel
theorem dX4_into_60 : decode cX4_into 60 = .ok (.iconst 1, 1) := by decide +kernel
theorem dX4_into_61 : decode cX4_into 61 = .ok (.invokestatic 152, 3) := by decide +kernel
theorem dX4_into_64 : decode cX4_into 64 = .ok (.ladd, 1) := by decide +kernel
theorem dX4_into_65 : decode cX4_into 65 = .ok (.ldc2_w 170, 3) := by decide +kernel
theorem dX4_into_68 : decode cX4_into 68 = .ok (.lmul, 1) := by decide +kernel
theorem dX4_into_69 : decode cX4_into 69 = .ok (.aload_n 0, 1) := by decide +kernel
theorem dX4_into_70 : decode cX4_into 70 = .ok (.getfield 51, 3) := by decide +kernel
theorem dX4_into_73 : decode cX4_into 73 = .ok (.iload 6, 2) := by decide +kernel
theorem dX4_into_75 : decode cX4_into 75 = .ok (.laload, 1) := by decide +kernel
theorem dX4_into_76 : decode cX4_into 76 = .ok (.aload_n 0, 1) := by decide +kernel
theorem dX4_into_77 : decode cX4_into 77 = .ok (.getfield 134, 3) := by decide +kernel
theorem dX4_into_80 : decode cX4_into 80 = .ok (.iconst 0, 1) := by decide +kernel
theorem dX4_into_81 : decode cX4_into 81 = .ok (.invokestatic 152, 3) := by decide +kernel
theorem dX4_into_84 : decode cX4_into 84 = .ok (.ladd, 1) := by decide +kernel
theorem dX4_into_85 : decode cX4_into 85 = .ok (.lstore 4, 2) := by decide +kernel
theorem dX4_into_87 : decode cX4_into 87 = .ok (.iinc 6 1, 3) := by decide +kernel
theorem dX4_into_90 : decode cX4_into 90 = .ok (.goto (-79), 3) := by decide +kernel
theorem dX4_into_93 : decode cX4_into 93 = .ok (.lload 4, 2) := by decide +kernel
theorem dX4_into_95 : decode cX4_into 95 = .ok (.lreturn, 1) := by decide +kernel
theorem dX4_digest_0 : decode cX4_digest 0 = .ok (.aload_n 0, 1) := by decide +kernel
theorem dX4_digest_1 : decode cX4_digest 1 = .ok (.iconst 0, 1) := by decide +kernel
theorem dX4_digest_2 : decode cX4_digest 2 = .ok (.putfield 57, 3) := by decide +kernel
theorem dX4_digest_5 : decode cX4_digest 5 = .ok (.ldc2_w 174, 3) := by decide +kernel
theorem dX4_digest_8 : decode cX4_digest 8 = .ok (.lstore_n 1, 1) := by decide +kernel
theorem dX4_digest_9 : decode cX4_digest 9 = .ok (.iconst 0, 1) := by decide +kernel
theorem dX4_digest_10 : decode cX4_digest 10 = .ok (.istore_n 3, 1) := by decide +kernel
theorem dX4_digest_11 : decode cX4_digest 11 = .ok (.iload_n 3, 1) := by decide +kernel
theorem dX4_digest_12 : decode cX4_digest 12 = .ok (.iconst 4, 1) := by decide +kernel
theorem dX4_digest_13 : decode cX4_digest 13 = .ok (.if_icmp .ge 22, 3) := by decide +kernel
theorem dX4_digest_16 : decode cX4_digest 16 = .ok (.lload_n 1, 1) := by decide +kernel
theorem dX4_digest_17 : decode cX4_digest 17 = .ok (.ldc2_w 170, 3) := by decide +kernel
theorem dX4_digest_20 : decode cX4_digest 20 = .ok (.lmul, 1) := by decide +kernel
theorem dX4_digest_21 : decode cX4_digest 21 = .ok (.aload_n 0, 1) := by decide +kernel
theorem dX4_digest_22 : decode cX4_digest 22 = .ok (.iload_n 3, 1) := by decide +kernel
theorem dX4_digest_23 : decode cX4_digest 23 = .ok (.invokevirtual 92, 3) := by decide +kernel
theorem dX4_digest_26 : decode cX4_digest 26 = .ok (.i2l, 1) := by decide +kernel
theorem dX4_digest_27 : decode cX4_digest 27 = .ok (.ladd, 1) := by decide +kernel
theorem dX4_digest_28 : decode cX4_digest 28 = .ok (.lstore_n 1, 1) := by decide +kernel
theorem dX4_digest_29 : decode cX4_digest 29 = .ok (.iinc 3 1, 3) := by decide +kernel
theorem dX4_digest_32 : decode cX4_digest 32 = .ok (.goto (-21), 3) := by decide +kernel
theorem dX4_digest_35 : decode cX4_digest 35 = .ok (.iconst 0, 1) := by decide +kernel
theorem dX4_digest_36 : decode cX4_digest 36 = .ok (.istore_n 3, 1) := by decide +kernel
theorem dX4_digest_37 : decode cX4_digest 37 = .ok (.iload_n 3, 1) := by decide +kernel
theorem dX4_digest_38 : decode cX4_digest 38 = .ok (.aload_n 0, 1) := by decide +kernel
theorem dX4_digest_39 : decode cX4_digest 39 = .ok (.getfield 61, 3) := by decide +kernel
theorem dX4_digest_42 : decode cX4_digest 42 = .ok (.if_icmp .ge 30, 3) := by decide +kernel
theorem dX4_digest_45 : decode cX4_digest 45 = .ok (.lload_n 1, 1) := by decide +kernel
theorem dX4_digest_46 : decode cX4_digest 46 = .ok (.ldc2_w 170, 3) := by decide +kernel
theorem dX4_digest_49 : decode cX4_digest 49 = .ok (.lmul, 1) := by decide +kernel
theorem dX4_digest_50 : decode cX4_digest 50 = .ok (.aload_n 0, 1) := by decide +kernel
theorem dX4_digest_51 : decode cX4_digest 51 = .ok (.getfield 9, 3) := by decide +kernel
theorem dX4_digest_54 : decode cX4_digest 54 = .ok (.iload_n 3, 1) := by decide +kernel
theorem dX4_digest_55 : decode cX4_digest 55 = .ok (.baload, 1) := by decide +kernel
theorem dX4_digest_56 : decode cX4_digest 56 = .ok (.ifCond .eq 7, 3) := by decide +kernel
theorem dX4_digest_59 : decode cX4_digest 59 = .ok (.lconst 1, 1) := by decide +kernel
theorem dX4_digest_60 : decode cX4_digest 60 = .ok (.goto 4, 3) := by decide +kernel
theorem dX4_digest_63 : decode cX4_digest 63 = .ok (.lconst 0, 1) := by decide +kernel
theorem dX4_digest_64 : decode cX4_digest 64 = .ok (.ladd, 1) := by decide +kernel
theorem dX4_digest_65 : decode cX4_digest 65 = .ok (.lstore_n 1, 1) := by decide +kernel
theorem dX4_digest_66 : decode cX4_digest 66 = .ok (.iinc 3 1, 3) := by decide +kernel
theorem dX4_digest_69 : decode cX4_digest 69 = .ok (.goto (-32), 3) := by decide +kernel
theorem dX4_digest_72 : decode cX4_digest 72 = .ok (.iconst 0, 1) := by decide +kernel
theorem dX4_digest_73 : decode cX4_digest 73 = .ok (.istore_n 3, 1) := by decide +kernel
theorem dX4_digest_74 : decode cX4_digest 74 = .ok (.iload_n 3, 1) := by decide +kernel
theorem dX4_digest_75 : decode cX4_digest 75 = .ok (.aload_n 0, 1) := by decide +kernel
theorem dX4_digest_76 : decode cX4_digest 76 = .ok (.getfield 68, 3) := by decide +kernel
theorem dX4_digest_79 : decode cX4_digest 79 = .ok (.if_icmp .ge 80, 3) := by decide +kernel
theorem dX4_digest_82 : decode cX4_digest 82 = .ok (.iconst 0, 1) := by decide +kernel
theorem dX4_digest_83 : decode cX4_digest 83 = .ok (.istore 4, 2) := by decide +kernel
theorem dX4_digest_85 : decode cX4_digest 85 = .ok (.iload 4, 2) := by decide +kernel
theorem dX4_digest_87 : decode cX4_digest 87 = .ok (.bipush 6, 2) := by decide +kernel
theorem dX4_digest_89 : decode cX4_digest 89 = .ok (.if_icmp .ge 24, 3) := by decide +kernel
theorem dX4_digest_92 : decode cX4_digest 92 = .ok (.lload_n 1, 1) := by decide +kernel
theorem dX4_digest_93 : decode cX4_digest 93 = .ok (.ldc2_w 170, 3) := by decide +kernel
theorem dX4_digest_96 : decode cX4_digest 96 = .ok (.lmul, 1) := by decide +kernel
theorem dX4_digest_97 : decode cX4_digest 97 = .ok (.aload_n 0, 1) := by decide +kernel
theorem dX4_digest_98 : decode cX4_digest 98 = .ok (.iload_n 3, 1) := by decide +kernel
theorem dX4_digest_99 : decode cX4_digest 99 = .ok (.iload 4, 2) := by decide +kernel
theorem dX4_digest_101 : decode cX4_digest 101 = .ok (.invokevirtual 95, 3) := by decide +kernel
theorem dX4_digest_104 : decode cX4_digest 104 = .ok (.i2l, 1) := by decide +kernel
theorem dX4_digest_105 : decode cX4_digest 105 = .ok (.ladd, 1) := by decide +kernel
theorem dX4_digest_106 : decode cX4_digest 106 = .ok (.lstore_n 1, 1) := by decide +kernel
theorem dX4_digest_107 : decode cX4_digest 107 = .ok (.iinc 4 1, 3) := by decide +kernel
theorem dX4_digest_110 : decode cX4_digest 110 = .ok (.goto (-25), 3) := by decide +kernel
theorem dX4_digest_113 : decode cX4_digest 113 = .ok (.iconst 0, 1) := by decide +kernel
theorem dX4_digest_114 : decode cX4_digest 114 = .ok (.istore 4, 2) := by decide +kernel
theorem dX4_digest_116 : decode cX4_digest 116 = .ok (.iload 4, 2) := by decide +kernel
theorem dX4_digest_118 : decode cX4_digest 118 = .ok (.aload_n 0, 1) := by decide +kernel
theorem dX4_digest_119 : decode cX4_digest 119 = .ok (.getfield 32, 3) := by decide +kernel
theorem dX4_digest_122 : decode cX4_digest 122 = .ok (.iload_n 3, 1) := by decide +kernel
theorem dX4_digest_123 : decode cX4_digest 123 = .ok (.iaload, 1) := by decide +kernel
theorem dX4_digest_124 : decode cX4_digest 124 = .ok (.if_icmp .ge 29, 3) := by decide +kernel
theorem dX4_digest_127 : decode cX4_digest 127 = .ok (.lload_n 1, 1) := by decide +kernel
theorem dX4_digest_128 : decode cX4_digest 128 = .ok (.ldc2_w 170, 3) := by decide +kernel
theorem dX4_digest_131 : decode cX4_digest 131 = .ok (.lmul, 1) := by decide +kernel
theorem dX4_digest_132 : decode cX4_digest 132 = .ok (.aload_n 0, 1) := by decide +kernel
theorem dX4_digest_133 : decode cX4_digest 133 = .ok (.getfield 35, 3) := by decide +kernel
theorem dX4_digest_136 : decode cX4_digest 136 = .ok (.bipush 6, 2) := by decide +kernel
theorem dX4_digest_138 : decode cX4_digest 138 = .ok (.iload_n 3, 1) := by decide +kernel
theorem dX4_digest_139 : decode cX4_digest 139 = .ok (.imul, 1) := by decide +kernel
theorem dX4_digest_140 : decode cX4_digest 140 = .ok (.iload 4, 2) := by decide +kernel
theorem dX4_digest_142 : decode cX4_digest 142 = .ok (.iadd, 1) := by decide +kernel
theorem dX4_digest_143 : decode cX4_digest 143 = .ok (.iaload, 1) := by decide +kernel
theorem dX4_digest_144 : decode cX4_digest 144 = .ok (.i2l, 1) := by decide +kernel
theorem dX4_digest_145 : decode cX4_digest 145 = .ok (.ladd, 1) := by decide +kernel
theorem dX4_digest_146 : decode cX4_digest 146 = .ok (.lstore_n 1, 1) := by decide +kernel
theorem dX4_digest_147 : decode cX4_digest 147 = .ok (.iinc 4 1, 3) := by decide +kernel
theorem dX4_digest_150 : decode cX4_digest 150 = .ok (.goto (-34), 3) := by decide +kernel
theorem dX4_digest_153 : decode cX4_digest 153 = .ok (.iinc 3 1, 3) := by decide +kernel
theorem dX4_digest_156 : decode cX4_digest 156 = .ok (.goto (-82), 3) := by decide +kernel
theorem dX4_digest_159 : decode cX4_digest 159 = .ok (.aload_n 0, 1) := by decide +kernel
theorem dX4_digest_160 : decode cX4_digest 160 = .ok (.lload_n 1, 1) := by decide +kernel
theorem dX4_digest_161 : decode cX4_digest 161 = .ok (.iconst 0, 1) := by decide +kernel
theorem dX4_digest_162 : decode cX4_digest 162 = .ok (.invokevirtual 176, 3) := by decide +kernel
theorem dX4_digest_165 : decode cX4_digest 165 = .ok (.lstore_n 1, 1) := by decide +kernel
theorem dX4_digest_166 : decode cX4_digest 166 = .ok (.aload_n 0, 1) := by decide +kernel
theorem dX4_digest_167 : decode cX4_digest 167 = .ok (.iconst 0, 1) := by decide +kernel
theorem dX4_digest_168 : decode cX4_digest 168 = .ok (.invokevirtual 160, 3) := by decide +kernel
theorem dX4_digest_171 : decode cX4_digest 171 = .ok (.istore_n 3, 1) := by decide +kernel
theorem dX4_digest_172 : decode cX4_digest 172 = .ok (.iload_n 3, 1) := by decide +kernel
theorem dX4_digest_173 : decode cX4_digest 173 = .ok (.iconst (-1), 1) := by decide +kernel
theorem dX4_digest_174 : decode cX4_digest 174 = .ok (.if_icmp .ne 7, 3) := by decide +kernel
theorem dX4_digest_177 : decode cX4_digest 177 = .ok (.lload_n 1, 1) := by decide +kernel
theorem dX4_digest_178 : decode cX4_digest 178 = .ok (.goto 9, 3) := by decide +kernel
theorem dX4_digest_181 : decode cX4_digest 181 = .ok (.aload_n 0, 1) := by decide +kernel
theorem dX4_digest_182 : decode cX4_digest 182 = .ok (.lload_n 1, 1) := by decide +kernel
theorem dX4_digest_183 : decode cX4_digest 183 = .ok (.iload_n 3, 1) := by decide +kernel
theorem dX4_digest_184 : decode cX4_digest 184 = .ok (.invokevirtual 176, 3) := by decide +kernel
theorem dX4_digest_187 : decode cX4_digest 187 = .ok (.lreturn, 1) := by decide +kernel
theorem dJ6_bitCount_0f7a4_0 : decode cJ6_bitCount_0f7a4 0 = .ok (.iload_n 0, 1) := by decide +kernel
theorem dJ6_bitCount_0f7a4_1 : decode cJ6_bitCount_0f7a4 1 = .ok (.iload_n 0, 1) := by decide +kernel
theorem dJ6_bitCount_0f7a4_2 : decode cJ6_bitCount_0f7a4 2 = .ok (.iconst 1, 1) := by decide +kernel
theorem dJ6_bitCount_0f7a4_3 : decode cJ6_bitCount_0f7a4 3 = .ok (.iushr, 1) := by decide +kernel
theorem dJ6_bitCount_0f7a4_4 : decode cJ6_bitCount_0f7a4 4 = .ok (.ldc_w 265, 3) := by decide +kernel
theorem dJ6_bitCount_0f7a4_7 : decode cJ6_bitCount_0f7a4 7 = .ok (.iand, 1) := by decide +kernel
theorem dJ6_bitCount_0f7a4_8 : decode cJ6_bitCount_0f7a4 8 = .ok (.isub, 1) := by decide +kernel
theorem dJ6_bitCount_0f7a4_9 : decode cJ6_bitCount_0f7a4 9 = .ok (.istore_n 0, 1) := by decide +kernel
theorem dJ6_bitCount_0f7a4_10 : decode cJ6_bitCount_0f7a4 10 = .ok (.iload_n 0, 1) := by decide +kernel
theorem dJ6_bitCount_0f7a4_11 : decode cJ6_bitCount_0f7a4 11 = .ok (.ldc_w 266, 3) := by decide +kernel
theorem dJ6_bitCount_0f7a4_14 : decode cJ6_bitCount_0f7a4 14 = .ok (.iand, 1) := by decide +kernel
theorem dJ6_bitCount_0f7a4_15 : decode cJ6_bitCount_0f7a4 15 = .ok (.iload_n 0, 1) := by decide +kernel
theorem dJ6_bitCount_0f7a4_16 : decode cJ6_bitCount_0f7a4 16 = .ok (.iconst 2, 1) := by decide +kernel
theorem dJ6_bitCount_0f7a4_17 : decode cJ6_bitCount_0f7a4 17 = .ok (.iushr, 1) := by decide +kernel
theorem dJ6_bitCount_0f7a4_18 : decode cJ6_bitCount_0f7a4 18 = .ok (.ldc_w 266, 3) := by decide +kernel
theorem dJ6_bitCount_0f7a4_21 : decode cJ6_bitCount_0f7a4 21 = .ok (.iand, 1) := by decide +kernel
theorem dJ6_bitCount_0f7a4_22 : decode cJ6_bitCount_0f7a4 22 = .ok (.iadd, 1) := by decide +kernel
theorem dJ6_bitCount_0f7a4_23 : decode cJ6_bitCount_0f7a4 23 = .ok (.istore_n 0, 1) := by decide +kernel
theorem dJ6_bitCount_0f7a4_24 : decode cJ6_bitCount_0f7a4 24 = .ok (.iload_n 0, 1) := by decide +kernel
theorem dJ6_bitCount_0f7a4_25 : decode cJ6_bitCount_0f7a4 25 = .ok (.iload_n 0, 1) := by decide +kernel
theorem dJ6_bitCount_0f7a4_26 : decode cJ6_bitCount_0f7a4 26 = .ok (.iconst 4, 1) := by decide +kernel
theorem dJ6_bitCount_0f7a4_27 : decode cJ6_bitCount_0f7a4 27 = .ok (.iushr, 1) := by decide +kernel
theorem dJ6_bitCount_0f7a4_28 : decode cJ6_bitCount_0f7a4 28 = .ok (.iadd, 1) := by decide +kernel
theorem dJ6_bitCount_0f7a4_29 : decode cJ6_bitCount_0f7a4 29 = .ok (.ldc_w 267, 3) := by decide +kernel
theorem dJ6_bitCount_0f7a4_32 : decode cJ6_bitCount_0f7a4 32 = .ok (.iand, 1) := by decide +kernel
theorem dJ6_bitCount_0f7a4_33 : decode cJ6_bitCount_0f7a4 33 = .ok (.istore_n 0, 1) := by decide +kernel
theorem dJ6_bitCount_0f7a4_34 : decode cJ6_bitCount_0f7a4 34 = .ok (.iload_n 0, 1) := by decide +kernel
theorem dJ6_bitCount_0f7a4_35 : decode cJ6_bitCount_0f7a4 35 = .ok (.iload_n 0, 1) := by decide +kernel
theorem dJ6_bitCount_0f7a4_36 : decode cJ6_bitCount_0f7a4 36 = .ok (.bipush 8, 2) := by decide +kernel
theorem dJ6_bitCount_0f7a4_38 : decode cJ6_bitCount_0f7a4 38 = .ok (.iushr, 1) := by decide +kernel
theorem dJ6_bitCount_0f7a4_39 : decode cJ6_bitCount_0f7a4 39 = .ok (.iadd, 1) := by decide +kernel
theorem dJ6_bitCount_0f7a4_40 : decode cJ6_bitCount_0f7a4 40 = .ok (.istore_n 0, 1) := by decide +kernel
theorem dJ6_bitCount_0f7a4_41 : decode cJ6_bitCount_0f7a4 41 = .ok (.iload_n 0, 1) := by decide +kernel
theorem dJ6_bitCount_0f7a4_42 : decode cJ6_bitCount_0f7a4 42 = .ok (.iload_n 0, 1) := by decide +kernel
theorem dJ6_bitCount_0f7a4_43 : decode cJ6_bitCount_0f7a4 43 = .ok (.bipush 16, 2) := by decide +kernel
theorem dJ6_bitCount_0f7a4_45 : decode cJ6_bitCount_0f7a4 45 = .ok (.iushr, 1) := by decide +kernel
theorem dJ6_bitCount_0f7a4_46 : decode cJ6_bitCount_0f7a4 46 = .ok (.iadd, 1) := by decide +kernel
theorem dJ6_bitCount_0f7a4_47 : decode cJ6_bitCount_0f7a4 47 = .ok (.istore_n 0, 1) := by decide +kernel
theorem dJ6_bitCount_0f7a4_48 : decode cJ6_bitCount_0f7a4 48 = .ok (.iload_n 0, 1) := by decide +kernel
theorem dJ6_bitCount_0f7a4_49 : decode cJ6_bitCount_0f7a4 49 = .ok (.bipush 63, 2) := by decide +kernel
theorem dJ6_bitCount_0f7a4_51 : decode cJ6_bitCount_0f7a4 51 = .ok (.iand, 1) := by decide +kernel
theorem dJ6_bitCount_0f7a4_52 : decode cJ6_bitCount_0f7a4 52 = .ok (.ireturn, 1) := by decide +kernel
theorem dJ9_floorDiv_f86c9_0 : decode cJ9_floorDiv_f86c9 0 = .ok (.lload_n 0, 1) := by decide +kernel
theorem dJ9_floorDiv_f86c9_1 : decode cJ9_floorDiv_f86c9 1 = .ok (.lload_n 2, 1) := by decide +kernel
theorem dJ9_floorDiv_f86c9_2 : decode cJ9_floorDiv_f86c9 2 = .ok (.ldiv, 1) := by decide +kernel
theorem dJ9_floorDiv_f86c9_3 : decode cJ9_floorDiv_f86c9 3 = .ok (.lstore 4, 2) := by decide +kernel
theorem dJ9_floorDiv_f86c9_5 : decode cJ9_floorDiv_f86c9 5 = .ok (.lload_n 0, 1) := by decide +kernel
theorem dJ9_floorDiv_f86c9_6 : decode cJ9_floorDiv_f86c9 6 = .ok (.lload_n 2, 1) := by decide +kernel
theorem dJ9_floorDiv_f86c9_7 : decode cJ9_floorDiv_f86c9 7 = .ok (.lxor, 1) := by decide +kernel
theorem dJ9_floorDiv_f86c9_8 : decode cJ9_floorDiv_f86c9 8 = .ok (.lconst 0, 1) := by decide +kernel
theorem dJ9_floorDiv_f86c9_9 : decode cJ9_floorDiv_f86c9 9 = .ok (.lcmp, 1) := by decide +kernel
theorem dJ9_floorDiv_f86c9_10 : decode cJ9_floorDiv_f86c9 10 = .ok (.ifCond .ge 17, 3) := by decide +kernel
theorem dJ9_floorDiv_f86c9_13 : decode cJ9_floorDiv_f86c9 13 = .ok (.lload 4, 2) := by decide +kernel
theorem dJ9_floorDiv_f86c9_15 : decode cJ9_floorDiv_f86c9 15 = .ok (.lload_n 2, 1) := by decide +kernel
theorem dJ9_floorDiv_f86c9_16 : decode cJ9_floorDiv_f86c9 16 = .ok (.lmul, 1) := by decide +kernel
theorem dJ9_floorDiv_f86c9_17 : decode cJ9_floorDiv_f86c9 17 = .ok (.lload_n 0, 1) := by decide +kernel
theorem dJ9_floorDiv_f86c9_18 : decode cJ9_floorDiv_f86c9 18 = .ok (.lcmp, 1) := by decide +kernel
theorem dJ9_floorDiv_f86c9_19 : decode cJ9_floorDiv_f86c9 19 = .ok (.ifCond .eq 8, 3) := by decide +kernel
theorem dJ9_floorDiv_f86c9_22 : decode cJ9_floorDiv_f86c9 22 = .ok (.lload 4, 2) := by decide +kernel
theorem dJ9_floorDiv_f86c9_24 : decode cJ9_floorDiv_f86c9 24 = .ok (.lconst 1, 1) := by decide +kernel
theorem dJ9_floorDiv_f86c9_25 : decode cJ9_floorDiv_f86c9 25 = .ok (.lsub, 1) := by decide +kernel
theorem dJ9_floorDiv_f86c9_26 : decode cJ9_floorDiv_f86c9 26 = .ok (.lreturn, 1) := by decide +kernel
theorem dJ9_floorDiv_f86c9_27 : decode cJ9_floorDiv_f86c9 27 = .ok (.lload 4, 2) := by decide +kernel
theorem dJ9_floorDiv_f86c9_29 : decode cJ9_floorDiv_f86c9 29 = .ok (.lreturn, 1) := by decide +kernel
theorem dJ9_floorMod_f86c9_0 : decode cJ9_floorMod_f86c9 0 = .ok (.lload_n 0, 1) := by decide +kernel
theorem dJ9_floorMod_f86c9_1 : decode cJ9_floorMod_f86c9 1 = .ok (.lload_n 2, 1) := by decide +kernel
theorem dJ9_floorMod_f86c9_2 : decode cJ9_floorMod_f86c9 2 = .ok (.lrem, 1) := by decide +kernel
theorem dJ9_floorMod_f86c9_3 : decode cJ9_floorMod_f86c9 3 = .ok (.lstore 4, 2) := by decide +kernel
theorem dJ9_floorMod_f86c9_5 : decode cJ9_floorMod_f86c9 5 = .ok (.lload_n 0, 1) := by decide +kernel
theorem dJ9_floorMod_f86c9_6 : decode cJ9_floorMod_f86c9 6 = .ok (.lload_n 2, 1) := by decide +kernel
theorem dJ9_floorMod_f86c9_7 : decode cJ9_floorMod_f86c9 7 = .ok (.lxor, 1) := by decide +kernel
theorem dJ9_floorMod_f86c9_8 : decode cJ9_floorMod_f86c9 8 = .ok (.lconst 0, 1) := by decide +kernel
theorem dJ9_floorMod_f86c9_9 : decode cJ9_floorMod_f86c9 9 = .ok (.lcmp, 1) := by decide +kernel
theorem dJ9_floorMod_f86c9_10 : decode cJ9_floorMod_f86c9 10 = .ok (.ifCond .ge 15, 3) := by decide +kernel
theorem dJ9_floorMod_f86c9_13 : decode cJ9_floorMod_f86c9 13 = .ok (.lload 4, 2) := by decide +kernel
theorem dJ9_floorMod_f86c9_15 : decode cJ9_floorMod_f86c9 15 = .ok (.lconst 0, 1) := by decide +kernel
theorem dJ9_floorMod_f86c9_16 : decode cJ9_floorMod_f86c9 16 = .ok (.lcmp, 1) := by decide +kernel
theorem dJ9_floorMod_f86c9_17 : decode cJ9_floorMod_f86c9 17 = .ok (.ifCond .eq 8, 3) := by decide +kernel
theorem dJ9_floorMod_f86c9_20 : decode cJ9_floorMod_f86c9 20 = .ok (.lload 4, 2) := by decide +kernel
theorem dJ9_floorMod_f86c9_22 : decode cJ9_floorMod_f86c9 22 = .ok (.lload_n 2, 1) := by decide +kernel
theorem dJ9_floorMod_f86c9_23 : decode cJ9_floorMod_f86c9 23 = .ok (.ladd, 1) := by decide +kernel
theorem dJ9_floorMod_f86c9_24 : decode cJ9_floorMod_f86c9 24 = .ok (.lreturn, 1) := by decide +kernel
theorem dJ9_floorMod_f86c9_25 : decode cJ9_floorMod_f86c9 25 = .ok (.lload 4, 2) := by decide +kernel
theorem dJ9_floorMod_f86c9_27 : decode cJ9_floorMod_f86c9 27 = .ok (.lreturn, 1) := by decide +kernel
theorem dJ9_abs_067f4_0 : decode cJ9_abs_067f4 0 = .ok (.lload_n 0, 1) := by decide +kernel
theorem dJ9_abs_067f4_1 : decode cJ9_abs_067f4 1 = .ok (.lconst 0, 1) := by decide +kernel
theorem dJ9_abs_067f4_2 : decode cJ9_abs_067f4 2 = .ok (.lcmp, 1) := by decide +kernel
theorem dJ9_abs_067f4_3 : decode cJ9_abs_067f4 3 = .ok (.ifCond .ge 8, 3) := by decide +kernel
theorem dJ9_abs_067f4_6 : decode cJ9_abs_067f4 6 = .ok (.lload_n 0, 1) := by decide +kernel
theorem dJ9_abs_067f4_7 : decode cJ9_abs_067f4 7 = .ok (.lneg, 1) := by decide +kernel
theorem dJ9_abs_067f4_8 : decode cJ9_abs_067f4 8 = .ok (.goto 4, 3) := by decide +kernel
theorem dJ9_abs_067f4_11 : decode cJ9_abs_067f4 11 = .ok (.lload_n 0, 1) := by decide +kernel
theorem dJ9_abs_067f4_12 : decode cJ9_abs_067f4 12 = .ok (.lreturn, 1) := by decide +kernel
theorem dJ9_max_7cf53_0 : decode cJ9_max_7cf53 0 = .ok (.iload_n 0, 1) := by decide +kernel
theorem dJ9_max_7cf53_1 : decode cJ9_max_7cf53 1 = .ok (.iload_n 1, 1) := by decide +kernel
theorem dJ9_max_7cf53_2 : decode cJ9_max_7cf53 2 = .ok (.if_icmp .lt 7, 3) := by decide +kernel
theorem dJ9_max_7cf53_5 : decode cJ9_max_7cf53 5 = .ok (.iload_n 0, 1) := by decide +kernel
theorem dJ9_max_7cf53_6 : decode cJ9_max_7cf53 6 = .ok (.goto 4, 3) := by decide +kernel
theorem dJ9_max_7cf53_9 : decode cJ9_max_7cf53 9 = .ok (.iload_n 1, 1) := by decide +kernel
theorem dJ9_max_7cf53_10 : decode cJ9_max_7cf53 10 = .ok (.ireturn, 1) := by decide +kernel
theorem dJ9_min_7cf53_0 : decode cJ9_min_7cf53 0 = .ok (.iload_n 0, 1) := by decide +kernel
theorem dJ9_min_7cf53_1 : decode cJ9_min_7cf53 1 = .ok (.iload_n 1, 1) := by decide +kernel
theorem dJ9_min_7cf53_2 : decode cJ9_min_7cf53 2 = .ok (.if_icmp .gt 7, 3) := by decide +kernel
theorem dJ9_min_7cf53_5 : decode cJ9_min_7cf53 5 = .ok (.iload_n 0, 1) := by decide +kernel
theorem dJ9_min_7cf53_6 : decode cJ9_min_7cf53 6 = .ok (.goto 4, 3) := by decide +kernel
theorem dJ9_min_7cf53_9 : decode cJ9_min_7cf53 9 = .ok (.iload_n 1, 1) := by decide +kernel
theorem dJ9_min_7cf53_10 : decode cJ9_min_7cf53 10 = .ok (.ireturn, 1) := by decide +kernel
theorem dJxa1e45_init_da8c8_0 : decode cJxa1e45_init_da8c8 0 = .ok (.aload_n 0, 1) := by decide +kernel
theorem dJxa1e45_init_da8c8_1 : decode cJxa1e45_init_da8c8 1 = .ok (.invokespecial 1, 3) := by decide +kernel
theorem dJxa1e45_init_da8c8_4 : decode cJxa1e45_init_da8c8 4 = .ok (.return_, 1) := by decide +kernel
theorem dJxc12de_init_da8c8_0 : decode cJxc12de_init_da8c8 0 = .ok (.aload_n 0, 1) := by decide +kernel
theorem dJxc12de_init_da8c8_1 : decode cJxc12de_init_da8c8 1 = .ok (.invokespecial 1, 3) := by decide +kernel
theorem dJxc12de_init_da8c8_4 : decode cJxc12de_init_da8c8 4 = .ok (.aload_n 0, 1) := by decide +kernel
theorem dJxc12de_init_da8c8_5 : decode cJxc12de_init_da8c8 5 = .ok (.iconst 0, 1) := by decide +kernel
theorem dJxc12de_init_da8c8_6 : decode cJxc12de_init_da8c8 6 = .ok (.putfield 7, 3) := by decide +kernel
theorem dJxc12de_init_da8c8_9 : decode cJxc12de_init_da8c8 9 = .ok (.return_, 1) := by decide +kernel
theorem dJx4a65c_init_da8c8_0 : decode cJx4a65c_init_da8c8 0 = .ok (.aload_n 0, 1) := by decide +kernel
theorem dJx4a65c_init_da8c8_1 : decode cJx4a65c_init_da8c8 1 = .ok (.invokespecial 1, 3) := by decide +kernel
theorem dJx4a65c_init_da8c8_4 : decode cJx4a65c_init_da8c8 4 = .ok (.aload_n 0, 1) := by decide +kernel
theorem dJx4a65c_init_da8c8_5 : decode cJx4a65c_init_da8c8 5 = .ok (.getstatic 39, 3) := by decide +kernel
theorem dJx4a65c_init_da8c8_8 : decode cJx4a65c_init_da8c8 8 = .ok (.putfield 9, 3) := by decide +kernel
theorem dJx4a65c_init_da8c8_11 : decode cJx4a65c_init_da8c8 11 = .ok (.return_, 1) := by decide +kernel
theorem dJx4a65c_grow_92f84_0 : decode cJx4a65c_grow_92f84 0 = .ok (.aload_n 0, 1) := by decide +kernel
theorem dJx4a65c_grow_92f84_1 : decode cJx4a65c_grow_92f84 1 = .ok (.getfield 9, 3) := by decide +kernel
theorem dJx4a65c_grow_92f84_4 : decode cJx4a65c_grow_92f84 4 = .ok (.arraylength, 1) := by decide +kernel
theorem dJx4a65c_grow_92f84_5 : decode cJx4a65c_grow_92f84 5 = .ok (.istore_n 2, 1) := by decide +kernel
theorem dJx4a65c_grow_92f84_6 : decode cJx4a65c_grow_92f84 6 = .ok (.iload_n 2, 1) := by decide +kernel
theorem dJx4a65c_grow_92f84_7 : decode cJx4a65c_grow_92f84 7 = .ok (.ifCond .gt 13, 3) := by decide +kernel
theorem dJx4a65c_grow_92f84_10 : decode cJx4a65c_grow_92f84 10 = .ok (.aload_n 0, 1) := by decide +kernel
theorem dJx4a65c_grow_92f84_11 : decode cJx4a65c_grow_92f84 11 = .ok (.getfield 9, 3) := by decide +kernel
theorem dJx4a65c_grow_92f84_14 : decode cJx4a65c_grow_92f84 14 = .ok (.getstatic 39, 3) := by decide +kernel
theorem dJx4a65c_grow_92f84_17 : decode cJx4a65c_grow_92f84 17 = .ok (.if_acmp .eq 28, 3) := by decide +kernel
theorem dJx4a65c_grow_92f84_20 : decode cJx4a65c_grow_92f84 20 = .ok (.iload_n 2, 1) := by decide +kernel
theorem dJx4a65c_grow_92f84_21 : decode cJx4a65c_grow_92f84 21 = .ok (.iload_n 1, 1) := by decide +kernel
theorem dJx4a65c_grow_92f84_22 : decode cJx4a65c_grow_92f84 22 = .ok (.iload_n 2, 1) := by decide +kernel
theorem dJx4a65c_grow_92f84_23 : decode cJx4a65c_grow_92f84 23 = .ok (.isub, 1) := by decide +kernel
theorem dJx4a65c_grow_92f84_24 : decode cJx4a65c_grow_92f84 24 = .ok (.iload_n 2, 1) := by decide +kernel
theorem dJx4a65c_grow_92f84_25 : decode cJx4a65c_grow_92f84 25 = .ok (.iconst 1, 1) := by decide +kernel
theorem dJx4a65c_grow_92f84_26 : decode cJx4a65c_grow_92f84 26 = .ok (.ishr, 1) := by decide +kernel
theorem dJx4a65c_grow_92f84_27 : decode cJx4a65c_grow_92f84 27 = .ok (.invokestatic 73, 3) := by decide +kernel
theorem dJx4a65c_grow_92f84_30 : decode cJx4a65c_grow_92f84 30 = .ok (.istore_n 3, 1) := by decide +kernel
theorem dJx4a65c_grow_92f84_31 : decode cJx4a65c_grow_92f84 31 = .ok (.aload_n 0, 1) := by decide +kernel
theorem dJx4a65c_grow_92f84_32 : decode cJx4a65c_grow_92f84 32 = .ok (.aload_n 0, 1) := by decide +kernel
theorem dJx4a65c_grow_92f84_33 : decode cJx4a65c_grow_92f84 33 = .ok (.getfield 9, 3) := by decide +kernel
theorem dJx4a65c_grow_92f84_36 : decode cJx4a65c_grow_92f84 36 = .ok (.iload_n 3, 1) := by decide +kernel
theorem dJx4a65c_grow_92f84_37 : decode cJx4a65c_grow_92f84 37 = .ok (.invokestatic 66, 3) := by decide +kernel
theorem dJx4a65c_grow_92f84_40 : decode cJx4a65c_grow_92f84 40 = .ok (.dup_x1, 1) := by decide +kernel
theorem dJx4a65c_grow_92f84_41 : decode cJx4a65c_grow_92f84 41 = .ok (.putfield 9, 3) := by decide +kernel
theorem dJx4a65c_grow_92f84_44 : decode cJx4a65c_grow_92f84 44 = .ok (.areturn, 1) := by decide +kernel
theorem dJx4a65c_grow_92f84_45 : decode cJx4a65c_grow_92f84 45 = .ok (.aload_n 0, 1) := by decide +kernel
theorem dJx4a65c_grow_92f84_46 : decode cJx4a65c_grow_92f84 46 = .ok (.bipush 10, 2) := by decide +kernel
theorem dJx4a65c_grow_92f84_48 : decode cJx4a65c_grow_92f84 48 = .ok (.iload_n 1, 1) := by decide +kernel
theorem dJx4a65c_grow_92f84_49 : decode cJx4a65c_grow_92f84 49 = .ok (.invokestatic 79, 3) := by decide +kernel
theorem dJx4a65c_grow_92f84_52 : decode cJx4a65c_grow_92f84 52 = .ok (.anewarray 7, 3) := by decide +kernel
theorem dJx4a65c_grow_92f84_55 : decode cJx4a65c_grow_92f84 55 = .ok (.dup_x1, 1) := by decide +kernel
theorem dJx4a65c_grow_92f84_56 : decode cJx4a65c_grow_92f84 56 = .ok (.putfield 9, 3) := by decide +kernel
theorem dJx4a65c_grow_92f84_59 : decode cJx4a65c_grow_92f84 59 = .ok (.areturn, 1) := by decide +kernel
theorem dJx4a65c_grow_d5877_0 : decode cJx4a65c_grow_d5877 0 = .ok (.aload_n 0, 1) := by decide +kernel
theorem dJx4a65c_grow_d5877_1 : decode cJx4a65c_grow_d5877 1 = .ok (.aload_n 0, 1) := by decide +kernel
theorem dJx4a65c_grow_d5877_2 : decode cJx4a65c_grow_d5877 2 = .ok (.getfield 48, 3) := by decide +kernel
theorem dJx4a65c_grow_d5877_5 : decode cJx4a65c_grow_d5877 5 = .ok (.iconst 1, 1) := by decide +kernel
theorem dJx4a65c_grow_d5877_6 : decode cJx4a65c_grow_d5877 6 = .ok (.iadd, 1) := by decide +kernel
theorem dJx4a65c_grow_d5877_7 : decode cJx4a65c_grow_d5877 7 = .ok (.invokevirtual 69, 3) := by decide +kernel
theorem dJx4a65c_grow_d5877_10 : decode cJx4a65c_grow_d5877 10 = .ok (.areturn, 1) := by decide +kernel
theorem dJx4a65c_size_8abf5_0 : decode cJx4a65c_size_8abf5 0 = .ok (.aload_n 0, 1) := by decide +kernel
theorem dJx4a65c_size_8abf5_1 : decode cJx4a65c_size_8abf5 1 = .ok (.getfield 48, 3) := by decide +kernel
theorem dJx4a65c_size_8abf5_4 : decode cJx4a65c_size_8abf5 4 = .ok (.ireturn, 1) := by decide +kernel
theorem dJx4a65c_elementData_915e3_0 : decode cJx4a65c_elementData_915e3 0 = .ok (.aload_n 0, 1) := by decide +kernel
theorem dJx4a65c_elementData_915e3_1 : decode cJx4a65c_elementData_915e3 1 = .ok (.getfield 9, 3) := by decide +kernel
theorem dJx4a65c_elementData_915e3_4 : decode cJx4a65c_elementData_915e3 4 = .ok (.iload_n 1, 1) := by decide +kernel
theorem dJx4a65c_elementData_915e3_5 : decode cJx4a65c_elementData_915e3 5 = .ok (.aaload, 1) := by decide +kernel
theorem dJx4a65c_elementData_915e3_6 : decode cJx4a65c_elementData_915e3 6 = .ok (.areturn, 1) := by decide +kernel
theorem dJx4a65c_get_915e3_0 : decode cJx4a65c_get_915e3 0 = .ok (.iload_n 1, 1) := by decide +kernel
theorem dJx4a65c_get_915e3_1 : decode cJx4a65c_get_915e3 1 = .ok (.aload_n 0, 1) := by decide +kernel
theorem dJx4a65c_get_915e3_2 : decode cJx4a65c_get_915e3 2 = .ok (.getfield 48, 3) := by decide +kernel
theorem dJx4a65c_get_915e3_5 : decode cJx4a65c_get_915e3 5 = .ok (.invokestatic 118, 3) := by decide +kernel
theorem dJx4a65c_get_915e3_8 : decode cJx4a65c_get_915e3 8 = .ok (.pop, 1) := by decide +kernel
theorem dJx4a65c_get_915e3_9 : decode cJx4a65c_get_915e3 9 = .ok (.aload_n 0, 1) := by decide +kernel
theorem dJx4a65c_get_915e3_10 : decode cJx4a65c_get_915e3 10 = .ok (.iload_n 1, 1) := by decide +kernel
theorem dJx4a65c_get_915e3_11 : decode cJx4a65c_get_915e3 11 = .ok (.invokevirtual 123, 3) := by decide +kernel
theorem dJx4a65c_get_915e3_14 : decode cJx4a65c_get_915e3 14 = .ok (.areturn, 1) := by decide +kernel
theorem dJx4a65c_add_72be8_0 : decode cJx4a65c_add_72be8 0 = .ok (.iload_n 3, 1) := by decide +kernel
theorem dJx4a65c_add_72be8_1 : decode cJx4a65c_add_72be8 1 = .ok (.aload_n 2, 1) := by decide +kernel
theorem dJx4a65c_add_72be8_2 : decode cJx4a65c_add_72be8 2 = .ok (.arraylength, 1) := by decide +kernel
theorem dJx4a65c_add_72be8_3 : decode cJx4a65c_add_72be8 3 = .ok (.if_icmp .ne 8, 3) := by decide +kernel
theorem dJx4a65c_add_72be8_6 : decode cJx4a65c_add_72be8 6 = .ok (.aload_n 0, 1) := by decide +kernel
theorem dJx4a65c_add_72be8_7 : decode cJx4a65c_add_72be8 7 = .ok (.invokevirtual 129, 3) := by decide +kernel
theorem dJx4a65c_add_72be8_10 : decode cJx4a65c_add_72be8 10 = .ok (.astore_n 2, 1) := by decide +kernel
theorem dJx4a65c_add_72be8_11 : decode cJx4a65c_add_72be8 11 = .ok (.aload_n 2, 1) := by decide +kernel
theorem dJx4a65c_add_72be8_12 : decode cJx4a65c_add_72be8 12 = .ok (.iload_n 3, 1) := by decide +kernel
theorem dJx4a65c_add_72be8_13 : decode cJx4a65c_add_72be8 13 = .ok (.aload_n 1, 1) := by decide +kernel
theorem dJx4a65c_add_72be8_14 : decode cJx4a65c_add_72be8 14 = .ok (.aastore, 1) := by decide +kernel
theorem dJx4a65c_add_72be8_15 : decode cJx4a65c_add_72be8 15 = .ok (.aload_n 0, 1) := by decide +kernel
theorem dJx4a65c_add_72be8_16 : decode cJx4a65c_add_72be8 16 = .ok (.iload_n 3, 1) := by decide +kernel
theorem dJx4a65c_add_72be8_17 : decode cJx4a65c_add_72be8 17 = .ok (.iconst 1, 1) := by decide +kernel
theorem dJx4a65c_add_72be8_18 : decode cJx4a65c_add_72be8 18 = .ok (.iadd, 1) := by decide +kernel
theorem dJx4a65c_add_72be8_19 : decode cJx4a65c_add_72be8 19 = .ok (.putfield 48, 3) := by decide +kernel
theorem dJx4a65c_add_72be8_22 : decode cJx4a65c_add_72be8 22 = .ok (.return_, 1) := by decide +kernel
theorem dJx4a65c_add_9ea2d_0 : decode cJx4a65c_add_9ea2d 0 = .ok (.aload_n 0, 1) := by decide +kernel
theorem dJx4a65c_add_9ea2d_1 : decode cJx4a65c_add_9ea2d 1 = .ok (.dup, 1) := by decide +kernel
theorem dJx4a65c_add_9ea2d_2 : decode cJx4a65c_add_9ea2d 2 = .ok (.getfield 63, 3) := by decide +kernel
theorem dJx4a65c_add_9ea2d_5 : decode cJx4a65c_add_9ea2d 5 = .ok (.iconst 1, 1) := by decide +kernel
theorem dJx4a65c_add_9ea2d_6 : decode cJx4a65c_add_9ea2d 6 = .ok (.iadd, 1) := by decide +kernel
theorem dJx4a65c_add_9ea2d_7 : decode cJx4a65c_add_9ea2d 7 = .ok (.putfield 63, 3) := by decide +kernel
theorem dJx4a65c_add_9ea2d_10 : decode cJx4a65c_add_9ea2d 10 = .ok (.aload_n 0, 1) := by decide +kernel
theorem dJx4a65c_add_9ea2d_11 : decode cJx4a65c_add_9ea2d 11 = .ok (.aload_n 1, 1) := by decide +kernel
theorem dJx4a65c_add_9ea2d_12 : decode cJx4a65c_add_9ea2d 12 = .ok (.aload_n 0, 1) := by decide +kernel
theorem dJx4a65c_add_9ea2d_13 : decode cJx4a65c_add_9ea2d 13 = .ok (.getfield 9, 3) := by decide +kernel
theorem dJx4a65c_add_9ea2d_16 : decode cJx4a65c_add_9ea2d 16 = .ok (.aload_n 0, 1) := by decide +kernel
theorem dJx4a65c_add_9ea2d_17 : decode cJx4a65c_add_9ea2d 17 = .ok (.getfield 48, 3) := by decide +kernel
theorem dJx4a65c_add_9ea2d_20 : decode cJx4a65c_add_9ea2d 20 = .ok (.invokevirtual 131, 3) := by decide +kernel
theorem dJx4a65c_add_9ea2d_23 : decode cJx4a65c_add_9ea2d 23 = .ok (.iconst 1, 1) := by decide +kernel
theorem dJx4a65c_add_9ea2d_24 : decode cJx4a65c_add_9ea2d 24 = .ok (.ireturn, 1) := by decide +kernel
theorem dJ7_copyOf_1904c_0 : decode cJ7_copyOf_1904c 0 = .ok (.aload_n 0, 1) := by decide +kernel
theorem dJ7_copyOf_1904c_1 : decode cJ7_copyOf_1904c 1 = .ok (.iload_n 1, 1) := by decide +kernel
theorem dJ7_copyOf_1904c_2 : decode cJ7_copyOf_1904c 2 = .ok (.aload_n 0, 1) := by decide +kernel
theorem dJ7_copyOf_1904c_3 : decode cJ7_copyOf_1904c 3 = .ok (.invokevirtual 86, 3) := by decide +kernel
theorem dJ7_copyOf_1904c_6 : decode cJ7_copyOf_1904c 6 = .ok (.invokestatic 300, 3) := by decide +kernel
theorem dJ7_copyOf_1904c_9 : decode cJ7_copyOf_1904c 9 = .ok (.areturn, 1) := by decide +kernel
theorem dJ7_copyOf_6403c_0 : decode cJ7_copyOf_6403c 0 = .ok (.aload_n 2, 1) := by decide +kernel
theorem dJ7_copyOf_6403c_1 : decode cJ7_copyOf_6403c 1 = .ok (.ldc 110, 2) := by decide +kernel
theorem dJ7_copyOf_6403c_3 : decode cJ7_copyOf_6403c 3 = .ok (.if_acmp .ne 10, 3) := by decide +kernel
theorem dJ7_copyOf_6403c_6 : decode cJ7_copyOf_6403c 6 = .ok (.iload_n 1, 1) := by decide +kernel
theorem dJ7_copyOf_6403c_7 : decode cJ7_copyOf_6403c 7 = .ok (.anewarray 2, 3) := by decide +kernel
theorem dJ7_copyOf_6403c_10 : decode cJ7_copyOf_6403c 10 = .ok (.goto 14, 3) := by decide +kernel
theorem dJ7_copyOf_6403c_13 : decode cJ7_copyOf_6403c 13 = .ok (.aload_n 2, 1) := by decide +kernel
theorem dJ7_copyOf_6403c_14 : decode cJ7_copyOf_6403c 14 = .ok (.invokevirtual 90, 3) := by decide +kernel
theorem dJ7_copyOf_6403c_17 : decode cJ7_copyOf_6403c 17 = .ok (.iload_n 1, 1) := by decide +kernel
theorem dJ7_copyOf_6403c_18 : decode cJ7_copyOf_6403c 18 = .ok (.invokestatic 95, 3) := by decide +kernel
theorem dJ7_copyOf_6403c_21 : decode cJ7_copyOf_6403c 21 = .ok (.checkcast 110, 3) := by decide +kernel
theorem dJ7_copyOf_6403c_24 : decode cJ7_copyOf_6403c 24 = .ok (.astore_n 3, 1) := by decide +kernel
theorem dJ7_copyOf_6403c_25 : decode cJ7_copyOf_6403c 25 = .ok (.aload_n 0, 1) := by decide +kernel
theorem dJ7_copyOf_6403c_26 : decode cJ7_copyOf_6403c 26 = .ok (.iconst 0, 1) := by decide +kernel
theorem dJ7_copyOf_6403c_27 : decode cJ7_copyOf_6403c 27 = .ok (.aload_n 3, 1) := by decide +kernel
theorem dJ7_copyOf_6403c_28 : decode cJ7_copyOf_6403c 28 = .ok (.iconst 0, 1) := by decide +kernel
theorem dJ7_copyOf_6403c_29 : decode cJ7_copyOf_6403c 29 = .ok (.aload_n 0, 1) := by decide +kernel
theorem dJ7_copyOf_6403c_30 : decode cJ7_copyOf_6403c 30 = .ok (.arraylength, 1) := by decide +kernel
theorem dJ7_copyOf_6403c_31 : decode cJ7_copyOf_6403c 31 = .ok (.iload_n 1, 1) := by decide +kernel
theorem dJ7_copyOf_6403c_32 : decode cJ7_copyOf_6403c 32 = .ok (.invokestatic 304, 3) := by decide +kernel
theorem dJ7_copyOf_6403c_35 : decode cJ7_copyOf_6403c 35 = .ok (.invokestatic 150, 3) := by decide +kernel
theorem dJ7_copyOf_6403c_38 : decode cJ7_copyOf_6403c 38 = .ok (.aload_n 3, 1) := by decide +kernel
theorem dJ7_copyOf_6403c_39 : decode cJ7_copyOf_6403c 39 = .ok (.areturn, 1) := by decide +kernel
theorem dJ15_checkIndex_7cf53_0 : decode cJ15_checkIndex_7cf53 0 = .ok (.iload_n 0, 1) := by decide +kernel
theorem dJ15_checkIndex_7cf53_1 : decode cJ15_checkIndex_7cf53 1 = .ok (.iload_n 1, 1) := by decide +kernel
theorem dJ15_checkIndex_7cf53_2 : decode cJ15_checkIndex_7cf53 2 = .ok (.aconst_null, 1) := by decide +kernel
theorem dJ15_checkIndex_7cf53_3 : decode cJ15_checkIndex_7cf53 3 = .ok (.invokestatic 105, 3) := by decide +kernel
theorem dJ15_checkIndex_7cf53_6 : decode cJ15_checkIndex_7cf53 6 = .ok (.ireturn, 1) := by decide +kernel
theorem dJ8_newLength_cabcc_0 : decode cJ8_newLength_cabcc 0 = .ok (.iload_n 0, 1) := by decide +kernel
theorem dJ8_newLength_cabcc_1 : decode cJ8_newLength_cabcc 1 = .ok (.iload_n 1, 1) := by decide +kernel
theorem dJ8_newLength_cabcc_2 : decode cJ8_newLength_cabcc 2 = .ok (.iload_n 2, 1) := by decide +kernel
theorem dJ8_newLength_cabcc_3 : decode cJ8_newLength_cabcc 3 = .ok (.invokestatic 194, 3) := by decide +kernel
theorem dJ8_newLength_cabcc_6 : decode cJ8_newLength_cabcc 6 = .ok (.iadd, 1) := by decide +kernel
theorem dJ8_newLength_cabcc_7 : decode cJ8_newLength_cabcc 7 = .ok (.istore_n 3, 1) := by decide +kernel
theorem dJ8_newLength_cabcc_8 : decode cJ8_newLength_cabcc 8 = .ok (.iconst 0, 1) := by decide +kernel
theorem dJ8_newLength_cabcc_9 : decode cJ8_newLength_cabcc 9 = .ok (.iload_n 3, 1) := by decide +kernel
theorem dJ8_newLength_cabcc_10 : decode cJ8_newLength_cabcc 10 = .ok (.if_icmp .ge 11, 3) := by decide +kernel
theorem dJ8_newLength_cabcc_13 : decode cJ8_newLength_cabcc 13 = .ok (.iload_n 3, 1) := by decide +kernel
theorem dJ8_newLength_cabcc_14 : decode cJ8_newLength_cabcc 14 = .ok (.ldc 200, 2) := by decide +kernel
theorem dJ8_newLength_cabcc_16 : decode cJ8_newLength_cabcc 16 = .ok (.if_icmp .gt 5, 3) := by decide +kernel
theorem dJ8_newLength_cabcc_19 : decode cJ8_newLength_cabcc 19 = .ok (.iload_n 3, 1) := by decide +kernel
theorem dJ8_newLength_cabcc_20 : decode cJ8_newLength_cabcc 20 = .ok (.ireturn, 1) := by decide +kernel
theorem dJ8_newLength_cabcc_21 : decode cJ8_newLength_cabcc 21 = .ok (.iload_n 0, 1) := by decide +kernel
theorem dJ8_newLength_cabcc_22 : decode cJ8_newLength_cabcc 22 = .ok (.iload_n 1, 1) := by decide +kernel
theorem dJ8_newLength_cabcc_23 : decode cJ8_newLength_cabcc 23 = .ok (.invokestatic 201, 3) := by decide +kernel
theorem dJ8_newLength_cabcc_26 : decode cJ8_newLength_cabcc 26 = .ok (.ireturn, 1) := by decide +kernel
theorem dJ8_hugeLength_7cf53_0 : decode cJ8_hugeLength_7cf53 0 = .ok (.iload_n 0, 1) := by decide +kernel
theorem dJ8_hugeLength_7cf53_1 : decode cJ8_hugeLength_7cf53 1 = .ok (.iload_n 1, 1) := by decide +kernel
theorem dJ8_hugeLength_7cf53_2 : decode cJ8_hugeLength_7cf53 2 = .ok (.iadd, 1) := by decide +kernel
theorem dJ8_hugeLength_7cf53_3 : decode cJ8_hugeLength_7cf53 3 = .ok (.istore_n 2, 1) := by decide +kernel
theorem dJ8_hugeLength_7cf53_4 : decode cJ8_hugeLength_7cf53 4 = .ok (.iload_n 2, 1) := by decide +kernel
theorem dJ8_hugeLength_7cf53_5 : decode cJ8_hugeLength_7cf53 5 = .ok (.ifCond .ge 44, 3) := by decide +kernel
theorem dJ8_hugeLength_7cf53_8 : decode cJ8_hugeLength_7cf53 8 = .ok (.new 204, 3) := by decide +kernel
theorem dJ8_hugeLength_7cf53_11 : decode cJ8_hugeLength_7cf53 11 = .ok (.dup, 1) := by decide +kernel
theorem dJ8_hugeLength_7cf53_12 : decode cJ8_hugeLength_7cf53 12 = .ok (.new 89, 3) := by decide +kernel
theorem dJ8_hugeLength_7cf53_15 : decode cJ8_hugeLength_7cf53 15 = .ok (.dup, 1) := by decide +kernel
theorem dJ8_hugeLength_7cf53_16 : decode cJ8_hugeLength_7cf53 16 = .ok (.invokespecial 91, 3) := by decide +kernel
theorem dJ8_hugeLength_7cf53_19 : decode cJ8_hugeLength_7cf53 19 = .ok (.ldc 206, 2) := by decide +kernel
theorem dJ8_hugeLength_7cf53_21 : decode cJ8_hugeLength_7cf53 21 = .ok (.invokevirtual 94, 3) := by decide +kernel
