theorem dX3_digestElement_49 : decode cX3_digestElement 49 = .ok (.i2l, 1) := by decide +kernel
theorem dX3_digestElement_50 : decode cX3_digestElement 50 = .ok (.invokestatic 254, 3) := by decide +kernel
theorem dX3_digestElement_53 : decode cX3_digestElement 53 = .ok (.lstore_n 3, 1) := by decide +kernel
theorem dX3_digestElement_54 : decode cX3_digestElement 54 = .ok (.iinc 5 1, 3) := by decide +kernel
theorem dX3_digestElement_57 : decode cX3_digestElement 57 = .ok (.goto (-24), 3) := by decide +kernel
theorem dX3_digestElement_60 : decode cX3_digestElement 60 = .ok (.lload_n 3, 1) := by decide +kernel
theorem dX3_digestElement_61 : decode cX3_digestElement 61 = .ok (.lreturn, 1) := by decide +kernel
theorem dX3_digestPotentials_0 : decode cX3_digestPotentials 0 = .ok (.aload_n 0, 1) := by decide +kernel
theorem dX3_digestPotentials_1 : decode cX3_digestPotentials 1 = .ok (.iload_n 3, 1) := by decide +kernel
theorem dX3_digestPotentials_2 : decode cX3_digestPotentials 2 = .ok (.invokevirtual 141, 3) := by decide +kernel
theorem dX3_digestPotentials_5 : decode cX3_digestPotentials 5 = .ok (.lload_n 1, 1) := by decide +kernel
theorem dX3_digestPotentials_6 : decode cX3_digestPotentials 6 = .ok (.lstore 4, 2) := by decide +kernel
theorem dX3_digestPotentials_8 : decode cX3_digestPotentials 8 = .ok (.iconst 0, 1) := by decide +kernel
theorem dX3_digestPotentials_9 : decode cX3_digestPotentials 9 = .ok (.istore 6, 2) := by decide +kernel
theorem dX3_digestPotentials_11 : decode cX3_digestPotentials 11 = .ok (.iload 6, 2) := by decide +kernel
theorem dX3_digestPotentials_13 : decode cX3_digestPotentials 13 = .ok (.aload_n 0, 1) := by decide +kernel
theorem dX3_digestPotentials_14 : decode cX3_digestPotentials 14 = .ok (.getfield 12, 3) := by decide +kernel
theorem dX3_digestPotentials_17 : decode cX3_digestPotentials 17 = .ok (.invokevirtual 30, 3) := by decide +kernel
theorem dX3_digestPotentials_20 : decode cX3_digestPotentials 20 = .ok (.if_icmp .ge 85, 3) := by decide +kernel
theorem dX3_digestPotentials_23 : decode cX3_digestPotentials 23 = .ok (.aload_n 0, 1) := by decide +kernel
theorem dX3_digestPotentials_24 : decode cX3_digestPotentials 24 = .ok (.iload 6, 2) := by decide +kernel
theorem dX3_digestPotentials_26 : decode cX3_digestPotentials 26 = .ok (.invokevirtual 138, 3) := by decide +kernel
theorem dX3_digestPotentials_29 : decode cX3_digestPotentials 29 = .ok (.ifCond .eq 16, 3) := by decide +kernel
theorem dX3_digestPotentials_32 : decode cX3_digestPotentials 32 = .ok (.lload 4, 2) := by decide +kernel
theorem dX3_digestPotentials_34 : decode cX3_digestPotentials 34 = .ok (.ldc2_w 262, 3) := by decide +kernel
theorem dX3_digestPotentials_37 : decode cX3_digestPotentials 37 = .ok (.invokestatic 254, 3) := by decide +kernel
theorem dX3_digestPotentials_40 : decode cX3_digestPotentials 40 = .ok (.lstore 4, 2) := by decide +kernel
theorem dX3_digestPotentials_42 : decode cX3_digestPotentials 42 = .ok (.goto 57, 3) := by decide +kernel
theorem dX3_digestPotentials_45 : decode cX3_digestPotentials 45 = .ok (.lload 4, 2) := by decide +kernel
theorem dX3_digestPotentials_47 : decode cX3_digestPotentials 47 = .ok (.aload_n 0, 1) := by decide +kernel
theorem dX3_digestPotentials_48 : decode cX3_digestPotentials 48 = .ok (.getfield 26, 3) := by decide +kernel
theorem dX3_digestPotentials_51 : decode cX3_digestPotentials 51 = .ok (.iload 6, 2) := by decide +kernel
theorem dX3_digestPotentials_53 : decode cX3_digestPotentials 53 = .ok (.invokevirtual 147, 3) := by decide +kernel
theorem dX3_digestPotentials_56 : decode cX3_digestPotentials 56 = .ok (.aload_n 0, 1) := by decide +kernel
theorem dX3_digestPotentials_57 : decode cX3_digestPotentials 57 = .ok (.getfield 26, 3) := by decide +kernel
theorem dX3_digestPotentials_60 : decode cX3_digestPotentials 60 = .ok (.invokevirtual 151, 3) := by decide +kernel
theorem dX3_digestPotentials_63 : decode cX3_digestPotentials 63 = .ok (.iconst 1, 1) := by decide +kernel
theorem dX3_digestPotentials_64 : decode cX3_digestPotentials 64 = .ok (.invokestatic 155, 3) := by decide +kernel
theorem dX3_digestPotentials_67 : decode cX3_digestPotentials 67 = .ok (.invokestatic 254, 3) := by decide +kernel
theorem dX3_digestPotentials_70 : decode cX3_digestPotentials 70 = .ok (.lstore 4, 2) := by decide +kernel
theorem dX3_digestPotentials_72 : decode cX3_digestPotentials 72 = .ok (.lload 4, 2) := by decide +kernel
theorem dX3_digestPotentials_74 : decode cX3_digestPotentials 74 = .ok (.aload_n 0, 1) := by decide +kernel
theorem dX3_digestPotentials_75 : decode cX3_digestPotentials 75 = .ok (.getfield 26, 3) := by decide +kernel
theorem dX3_digestPotentials_78 : decode cX3_digestPotentials 78 = .ok (.iload 6, 2) := by decide +kernel
theorem dX3_digestPotentials_80 : decode cX3_digestPotentials 80 = .ok (.invokevirtual 147, 3) := by decide +kernel
theorem dX3_digestPotentials_83 : decode cX3_digestPotentials 83 = .ok (.aload_n 0, 1) := by decide +kernel
theorem dX3_digestPotentials_84 : decode cX3_digestPotentials 84 = .ok (.getfield 26, 3) := by decide +kernel
theorem dX3_digestPotentials_87 : decode cX3_digestPotentials 87 = .ok (.invokevirtual 151, 3) := by decide +kernel
theorem dX3_digestPotentials_90 : decode cX3_digestPotentials 90 = .ok (.iconst 0, 1) := by decide +kernel
theorem dX3_digestPotentials_91 : decode cX3_digestPotentials 91 = .ok (.invokestatic 155, 3) := by decide +kernel
theorem dX3_digestPotentials_94 : decode cX3_digestPotentials 94 = .ok (.invokestatic 254, 3) := by decide +kernel
theorem dX3_digestPotentials_97 : decode cX3_digestPotentials 97 = .ok (.lstore 4, 2) := by decide +kernel
theorem dX3_digestPotentials_99 : decode cX3_digestPotentials 99 = .ok (.iinc 6 1, 3) := by decide +kernel
theorem dX3_digestPotentials_102 : decode cX3_digestPotentials 102 = .ok (.goto (-91), 3) := by decide +kernel
theorem dX3_digestPotentials_105 : decode cX3_digestPotentials 105 = .ok (.lload 4, 2) := by decide +kernel
theorem dX3_digestPotentials_107 : decode cX3_digestPotentials 107 = .ok (.lreturn, 1) := by decide +kernel
theorem dX3_digestOf_0 : decode cX3_digestOf 0 = .ok (.lload_n 0, 1) := by decide +kernel
theorem dX3_digestOf_1 : decode cX3_digestOf 1 = .ok (.ldc2_w 264, 3) := by decide +kernel
theorem dX3_digestOf_4 : decode cX3_digestOf 4 = .ok (.lmul, 1) := by decide +kernel
theorem dX3_digestOf_5 : decode cX3_digestOf 5 = .ok (.lload_n 2, 1) := by decide +kernel
theorem dX3_digestOf_6 : decode cX3_digestOf 6 = .ok (.ladd, 1) := by decide +kernel
theorem dX3_digestOf_7 : decode cX3_digestOf 7 = .ok (.lreturn, 1) := by decide +kernel
theorem dX3_partOf_0 : decode cX3_partOf 0 = .ok (.iload 4, 2) := by decide +kernel
theorem dX3_partOf_2 : decode cX3_partOf 2 = .ok (.ifCond .eq 7, 3) := by decide +kernel
theorem dX3_partOf_5 : decode cX3_partOf 5 = .ok (.lload_n 0, 1) := by decide +kernel
theorem dX3_partOf_6 : decode cX3_partOf 6 = .ok (.goto 4, 3) := by decide +kernel
theorem dX3_partOf_9 : decode cX3_partOf 9 = .ok (.lload_n 2, 1) := by decide +kernel
theorem dX3_partOf_10 : decode cX3_partOf 10 = .ok (.lstore 5, 2) := by decide +kernel
theorem dX3_partOf_12 : decode cX3_partOf 12 = .ok (.lload_n 0, 1) := by decide +kernel
theorem dX3_partOf_13 : decode cX3_partOf 13 = .ok (.invokestatic 266, 3) := by decide +kernel
theorem dX3_partOf_16 : decode cX3_partOf 16 = .ok (.lload_n 2, 1) := by decide +kernel
theorem dX3_partOf_17 : decode cX3_partOf 17 = .ok (.invokestatic 271, 3) := by decide +kernel
theorem dX3_partOf_20 : decode cX3_partOf 20 = .ok (.lstore 7, 2) := by decide +kernel
theorem dX3_partOf_22 : decode cX3_partOf 22 = .ok (.lload 7, 2) := by decide +kernel
theorem dX3_partOf_24 : decode cX3_partOf 24 = .ok (.lconst 1, 1) := by decide +kernel
theorem dX3_partOf_25 : decode cX3_partOf 25 = .ok (.lcmp, 1) := by decide +kernel
theorem dX3_partOf_26 : decode cX3_partOf 26 = .ok (.ifCond .le 11, 3) := by decide +kernel
theorem dX3_partOf_29 : decode cX3_partOf 29 = .ok (.lload 5, 2) := by decide +kernel
theorem dX3_partOf_31 : decode cX3_partOf 31 = .ok (.lload 7, 2) := by decide +kernel
theorem dX3_partOf_33 : decode cX3_partOf 33 = .ok (.ldiv, 1) := by decide +kernel
theorem dX3_partOf_34 : decode cX3_partOf 34 = .ok (.goto 5, 3) := by decide +kernel
theorem dX3_partOf_37 : decode cX3_partOf 37 = .ok (.lload 5, 2) := by decide +kernel
theorem dX3_partOf_39 : decode cX3_partOf 39 = .ok (.lreturn, 1) := by decide +kernel
theorem dX3_commonDivisor_0 : decode cX3_commonDivisor 0 = .ok (.lload_n 0, 1) := by decide +kernel
theorem dX3_commonDivisor_1 : decode cX3_commonDivisor 1 = .ok (.lstore 4, 2) := by decide +kernel
theorem dX3_commonDivisor_3 : decode cX3_commonDivisor 3 = .ok (.lload_n 2, 1) := by decide +kernel
theorem dX3_commonDivisor_4 : decode cX3_commonDivisor 4 = .ok (.lstore 6, 2) := by decide +kernel
theorem dX3_commonDivisor_6 : decode cX3_commonDivisor 6 = .ok (.iconst 0, 1) := by decide +kernel
theorem dX3_commonDivisor_7 : decode cX3_commonDivisor 7 = .ok (.istore 8, 2) := by decide +kernel
theorem dX3_commonDivisor_9 : decode cX3_commonDivisor 9 = .ok (.iload 8, 2) := by decide +kernel
theorem dX3_commonDivisor_11 : decode cX3_commonDivisor 11 = .ok (.sipush 200, 3) := by decide +kernel
theorem dX3_commonDivisor_14 : decode cX3_commonDivisor 14 = .ok (.if_icmp .ge 31, 3) := by decide +kernel
theorem dX3_commonDivisor_17 : decode cX3_commonDivisor 17 = .ok (.lload 6, 2) := by decide +kernel
theorem dX3_commonDivisor_19 : decode cX3_commonDivisor 19 = .ok (.lconst 0, 1) := by decide +kernel
theorem dX3_commonDivisor_20 : decode cX3_commonDivisor 20 = .ok (.lcmp, 1) := by decide +kernel
theorem dX3_commonDivisor_21 : decode cX3_commonDivisor 21 = .ok (.ifCond .eq 24, 3) := by decide +kernel
theorem dX3_commonDivisor_24 : decode cX3_commonDivisor 24 = .ok (.lload 4, 2) := by decide +kernel
theorem dX3_commonDivisor_26 : decode cX3_commonDivisor 26 = .ok (.lload 6, 2) := by decide +kernel
theorem dX3_commonDivisor_28 : decode cX3_commonDivisor 28 = .ok (.lrem, 1) := by decide +kernel
theorem dX3_commonDivisor_29 : decode cX3_commonDivisor 29 = .ok (.lstore 9, 2) := by decide +kernel
theorem dX3_commonDivisor_31 : decode cX3_commonDivisor 31 = .ok (.lload 6, 2) := by decide +kernel
theorem dX3_commonDivisor_33 : decode cX3_commonDivisor 33 = .ok (.lstore 4, 2) := by decide +kernel
theorem dX3_commonDivisor_35 : decode cX3_commonDivisor 35 = .ok (.lload 9, 2) := by decide +kernel
theorem dX3_commonDivisor_37 : decode cX3_commonDivisor 37 = .ok (.lstore 6, 2) := by decide +kernel
theorem dX3_commonDivisor_39 : decode cX3_commonDivisor 39 = .ok (.iinc 8 1, 3) := by decide +kernel
theorem dX3_commonDivisor_42 : decode cX3_commonDivisor 42 = .ok (.goto (-33), 3) := by decide +kernel
theorem dX3_commonDivisor_45 : decode cX3_commonDivisor 45 = .ok (.lload 4, 2) := by decide +kernel
theorem dX3_commonDivisor_47 : decode cX3_commonDivisor 47 = .ok (.lreturn, 1) := by decide +kernel
theorem dX3_compareFractions_0 : decode cX3_compareFractions 0 = .ok (.lload_n 0, 1) := by decide +kernel
theorem dX3_compareFractions_1 : decode cX3_compareFractions 1 = .ok (.lstore 8, 2) := by decide +kernel
theorem dX3_compareFractions_3 : decode cX3_compareFractions 3 = .ok (.lload_n 2, 1) := by decide +kernel
theorem dX3_compareFractions_4 : decode cX3_compareFractions 4 = .ok (.lstore 10, 2) := by decide +kernel
theorem dX3_compareFractions_6 : decode cX3_compareFractions 6 = .ok (.lload 4, 2) := by decide +kernel
theorem dX3_compareFractions_8 : decode cX3_compareFractions 8 = .ok (.lstore 12, 2) := by decide +kernel
theorem dX3_compareFractions_10 : decode cX3_compareFractions 10 = .ok (.lload 6, 2) := by decide +kernel
theorem dX3_compareFractions_12 : decode cX3_compareFractions 12 = .ok (.lstore 14, 2) := by decide +kernel
theorem dX3_compareFractions_14 : decode cX3_compareFractions 14 = .ok (.iconst 1, 1) := by decide +kernel
theorem dX3_compareFractions_15 : decode cX3_compareFractions 15 = .ok (.istore 16, 2) := by decide +kernel
theorem dX3_compareFractions_17 : decode cX3_compareFractions 17 = .ok (.iconst 0, 1) := by decide +kernel
theorem dX3_compareFractions_18 : decode cX3_compareFractions 18 = .ok (.istore 17, 2) := by decide +kernel
theorem dX3_compareFractions_20 : decode cX3_compareFractions 20 = .ok (.iload 17, 2) := by decide +kernel
theorem dX3_compareFractions_22 : decode cX3_compareFractions 22 = .ok (.sipush 200, 3) := by decide +kernel
theorem dX3_compareFractions_25 : decode cX3_compareFractions 25 = .ok (.if_icmp .ge 105, 3) := by decide +kernel
theorem dX3_compareFractions_28 : decode cX3_compareFractions 28 = .ok (.lload 10, 2) := by decide +kernel
theorem dX3_compareFractions_30 : decode cX3_compareFractions 30 = .ok (.lconst 0, 1) := by decide +kernel
theorem dX3_compareFractions_31 : decode cX3_compareFractions 31 = .ok (.lcmp, 1) := by decide +kernel
theorem dX3_compareFractions_32 : decode cX3_compareFractions 32 = .ok (.ifCond .eq 98, 3) := by decide +kernel
theorem dX3_compareFractions_35 : decode cX3_compareFractions 35 = .ok (.lload 14, 2) := by decide +kernel
theorem dX3_compareFractions_37 : decode cX3_compareFractions 37 = .ok (.lconst 0, 1) := by decide +kernel
theorem dX3_compareFractions_38 : decode cX3_compareFractions 38 = .ok (.lcmp, 1) := by decide +kernel
theorem dX3_compareFractions_39 : decode cX3_compareFractions 39 = .ok (.ifCond .eq 91, 3) := by decide +kernel
theorem dX3_compareFractions_42 : decode cX3_compareFractions 42 = .ok (.lload 8, 2) := by decide +kernel
theorem dX3_compareFractions_44 : decode cX3_compareFractions 44 = .ok (.lload 10, 2) := by decide +kernel
theorem dX3_compareFractions_46 : decode cX3_compareFractions 46 = .ok (.invokestatic 274, 3) := by decide +kernel
theorem dX3_compareFractions_49 : decode cX3_compareFractions 49 = .ok (.lstore 18, 2) := by decide +kernel
theorem dX3_compareFractions_51 : decode cX3_compareFractions 51 = .ok (.lload 12, 2) := by decide +kernel
theorem dX3_compareFractions_53 : decode cX3_compareFractions 53 = .ok (.lload 14, 2) := by decide +kernel
theorem dX3_compareFractions_55 : decode cX3_compareFractions 55 = .ok (.invokestatic 274, 3) := by decide +kernel
theorem dX3_compareFractions_58 : decode cX3_compareFractions 58 = .ok (.lstore 20, 2) := by decide +kernel
theorem dX3_compareFractions_60 : decode cX3_compareFractions 60 = .ok (.lload 18, 2) := by decide +kernel
theorem dX3_compareFractions_62 : decode cX3_compareFractions 62 = .ok (.lload 20, 2) := by decide +kernel
theorem dX3_compareFractions_64 : decode cX3_compareFractions 64 = .ok (.lcmp, 1) := by decide +kernel
theorem dX3_compareFractions_65 : decode cX3_compareFractions 65 = .ok (.ifCond .eq 20, 3) := by decide +kernel
theorem dX3_compareFractions_68 : decode cX3_compareFractions 68 = .ok (.lload 18, 2) := by decide +kernel
theorem dX3_compareFractions_70 : decode cX3_compareFractions 70 = .ok (.lload 20, 2) := by decide +kernel
theorem dX3_compareFractions_72 : decode cX3_compareFractions 72 = .ok (.lcmp, 1) := by decide +kernel
theorem dX3_compareFractions_73 : decode cX3_compareFractions 73 = .ok (.ifCond .le 8, 3) := by decide +kernel
theorem dX3_compareFractions_76 : decode cX3_compareFractions 76 = .ok (.iload 16, 2) := by decide +kernel
theorem dX3_compareFractions_78 : decode cX3_compareFractions 78 = .ok (.goto 6, 3) := by decide +kernel
theorem dX3_compareFractions_81 : decode cX3_compareFractions 81 = .ok (.iload 16, 2) := by decide +kernel
theorem dX3_compareFractions_83 : decode cX3_compareFractions 83 = .ok (.ineg, 1) := by decide +kernel
theorem dX3_compareFractions_84 : decode cX3_compareFractions 84 = .ok (.ireturn, 1) := by decide +kernel
theorem dX3_compareFractions_85 : decode cX3_compareFractions 85 = .ok (.lload 8, 2) := by decide +kernel
theorem dX3_compareFractions_87 : decode cX3_compareFractions 87 = .ok (.lload 10, 2) := by decide +kernel
theorem dX3_compareFractions_89 : decode cX3_compareFractions 89 = .ok (.invokestatic 277, 3) := by decide +kernel
theorem dX3_compareFractions_92 : decode cX3_compareFractions 92 = .ok (.lstore 22, 2) := by decide +kernel
theorem dX3_compareFractions_94 : decode cX3_compareFractions 94 = .ok (.lload 12, 2) := by decide +kernel
theorem dX3_compareFractions_96 : decode cX3_compareFractions 96 = .ok (.lload 14, 2) := by decide +kernel
theorem dX3_compareFractions_98 : decode cX3_compareFractions 98 = .ok (.invokestatic 277, 3) := by decide +kernel
theorem dX3_compareFractions_101 : decode cX3_compareFractions 101 = .ok (.lstore 24, 2) := by decide +kernel
theorem dX3_compareFractions_103 : decode cX3_compareFractions 103 = .ok (.lload 10, 2) := by decide +kernel
theorem dX3_compareFractions_105 : decode cX3_compareFractions 105 = .ok (.lstore 8, 2) := by decide +kernel
theorem dX3_compareFractions_107 : decode cX3_compareFractions 107 = .ok (.lload 22, 2) := by decide +kernel
theorem dX3_compareFractions_109 : decode cX3_compareFractions 109 = .ok (.lstore 10, 2) := by decide +kernel
theorem dX3_compareFractions_111 : decode cX3_compareFractions 111 = .ok (.lload 14, 2) := by decide +kernel
theorem dX3_compareFractions_113 : decode cX3_compareFractions 113 = .ok (.lstore 12, 2) := by decide +kernel
theorem dX3_compareFractions_115 : decode cX3_compareFractions 115 = .ok (.lload 24, 2) := by decide +kernel
theorem dX3_compareFractions_117 : decode cX3_compareFractions 117 = .ok (.lstore 14, 2) := by decide +kernel
theorem dX3_compareFractions_119 : decode cX3_compareFractions 119 = .ok (.iload 16, 2) := by decide +kernel
theorem dX3_compareFractions_121 : decode cX3_compareFractions 121 = .ok (.ineg, 1) := by decide +kernel
theorem dX3_compareFractions_122 : decode cX3_compareFractions 122 = .ok (.istore 16, 2) := by decide +kernel
theorem dX3_compareFractions_124 : decode cX3_compareFractions 124 = .ok (.iinc 17 1, 3) := by decide +kernel
theorem dX3_compareFractions_127 : decode cX3_compareFractions 127 = .ok (.goto (-107), 3) := by decide +kernel
theorem dX3_compareFractions_130 : decode cX3_compareFractions 130 = .ok (.lload 10, 2) := by decide +kernel
theorem dX3_compareFractions_132 : decode cX3_compareFractions 132 = .ok (.lload 14, 2) := by decide +kernel
theorem dX3_compareFractions_134 : decode cX3_compareFractions 134 = .ok (.lcmp, 1) := by decide +kernel
theorem dX3_compareFractions_135 : decode cX3_compareFractions 135 = .ok (.ifCond .ne 5, 3) := by decide +kernel
theorem dX3_compareFractions_138 : decode cX3_compareFractions 138 = .ok (.iconst 0, 1) := by decide +kernel
theorem dX3_compareFractions_139 : decode cX3_compareFractions 139 = .ok (.ireturn, 1) := by decide +kernel
theorem dX3_compareFractions_140 : decode cX3_compareFractions 140 = .ok (.lload 10, 2) := by decide +kernel
theorem dX3_compareFractions_142 : decode cX3_compareFractions 142 = .ok (.lconst 0, 1) := by decide +kernel
theorem dX3_compareFractions_143 : decode cX3_compareFractions 143 = .ok (.lcmp, 1) := by decide +kernel
theorem dX3_compareFractions_144 : decode cX3_compareFractions 144 = .ok (.ifCond .ne 8, 3) := by decide +kernel
theorem dX3_compareFractions_147 : decode cX3_compareFractions 147 = .ok (.iload 16, 2) := by decide +kernel
theorem dX3_compareFractions_149 : decode cX3_compareFractions 149 = .ok (.goto 6, 3) := by decide +kernel
theorem dX3_compareFractions_152 : decode cX3_compareFractions 152 = .ok (.iload 16, 2) := by decide +kernel
theorem dX3_compareFractions_154 : decode cX3_compareFractions 154 = .ok (.ineg, 1) := by decide +kernel
theorem dX3_compareFractions_155 : decode cX3_compareFractions 155 = .ok (.ireturn, 1) := by decide +kernel
theorem dX4_init_0 : decode cX4_init 0 = .ok (.aload_n 0, 1) := by decide +kernel
theorem dX4_init_1 : decode cX4_init 1 = .ok (.invokespecial 1, 3) := by decide +kernel
theorem dX4_init_4 : decode cX4_init 4 = .ok (.aload_n 0, 1) := by decide +kernel
theorem dX4_init_5 : decode cX4_init 5 = .ok (.bipush 8, 2) := by decide +kernel
theorem dX4_init_7 : decode cX4_init 7 = .ok (.newarray .boolean, 2) := by decide +kernel
theorem dX4_init_9 : decode cX4_init 9 = .ok (.putfield 9, 3) := by decide +kernel
theorem dX4_init_12 : decode cX4_init 12 = .ok (.aload_n 0, 1) := by decide +kernel
theorem dX4_init_13 : decode cX4_init 13 = .ok (.bipush 8, 2) := by decide +kernel
theorem dX4_init_15 : decode cX4_init 15 = .ok (.newarray .int, 2) := by decide +kernel
theorem dX4_init_17 : decode cX4_init 17 = .ok (.putfield 13, 3) := by decide +kernel
theorem dX4_init_20 : decode cX4_init 20 = .ok (.aload_n 0, 1) := by decide +kernel
theorem dX4_init_21 : decode cX4_init 21 = .ok (.bipush 20, 2) := by decide +kernel
theorem dX4_init_23 : decode cX4_init 23 = .ok (.newarray .boolean, 2) := by decide +kernel
theorem dX4_init_25 : decode cX4_init 25 = .ok (.putfield 17, 3) := by decide +kernel
theorem dX4_init_28 : decode cX4_init 28 = .ok (.aload_n 0, 1) := by decide +kernel
theorem dX4_init_29 : decode cX4_init 29 = .ok (.bipush 20, 2) := by decide +kernel
theorem dX4_init_31 : decode cX4_init 31 = .ok (.newarray .int, 2) := by decide +kernel
theorem dX4_init_33 : decode cX4_init 33 = .ok (.putfield 20, 3) := by decide +kernel
theorem dX4_init_36 : decode cX4_init 36 = .ok (.aload_n 0, 1) := by decide +kernel
theorem dX4_init_37 : decode cX4_init 37 = .ok (.bipush 20, 2) := by decide +kernel
theorem dX4_init_39 : decode cX4_init 39 = .ok (.newarray .int, 2) := by decide +kernel
theorem dX4_init_41 : decode cX4_init 41 = .ok (.putfield 23, 3) := by decide +kernel
theorem dX4_init_44 : decode cX4_init 44 = .ok (.aload_n 0, 1) := by decide +kernel
theorem dX4_init_45 : decode cX4_init 45 = .ok (.bipush 20, 2) := by decide +kernel
theorem dX4_init_47 : decode cX4_init 47 = .ok (.newarray .int, 2) := by decide +kernel
theorem dX4_init_49 : decode cX4_init 49 = .ok (.putfield 26, 3) := by decide +kernel
theorem dX4_init_52 : decode cX4_init 52 = .ok (.aload_n 0, 1) := by decide +kernel
theorem dX4_init_53 : decode cX4_init 53 = .ok (.bipush 20, 2) := by decide +kernel
theorem dX4_init_55 : decode cX4_init 55 = .ok (.newarray .boolean, 2) := by decide +kernel
theorem dX4_init_57 : decode cX4_init 57 = .ok (.putfield 29, 3) := by decide +kernel
theorem dX4_init_60 : decode cX4_init 60 = .ok (.aload_n 0, 1) := by decide +kernel
theorem dX4_init_61 : decode cX4_init 61 = .ok (.bipush 20, 2) := by decide +kernel
theorem dX4_init_63 : decode cX4_init 63 = .ok (.newarray .int, 2) := by decide +kernel
theorem dX4_init_65 : decode cX4_init 65 = .ok (.putfield 32, 3) := by decide +kernel
theorem dX4_init_68 : decode cX4_init 68 = .ok (.aload_n 0, 1) := by decide +kernel
theorem dX4_init_69 : decode cX4_init 69 = .ok (.bipush 120, 2) := by decide +kernel
theorem dX4_init_71 : decode cX4_init 71 = .ok (.newarray .int, 2) := by decide +kernel
theorem dX4_init_73 : decode cX4_init 73 = .ok (.putfield 35, 3) := by decide +kernel
theorem dX4_init_76 : decode cX4_init 76 = .ok (.aload_n 0, 1) := by decide +kernel
theorem dX4_init_77 : decode cX4_init 77 = .ok (.bipush 8, 2) := by decide +kernel
theorem dX4_init_79 : decode cX4_init 79 = .ok (.newarray .int, 2) := by decide +kernel
theorem dX4_init_81 : decode cX4_init 81 = .ok (.putfield 38, 3) := by decide +kernel
theorem dX4_init_84 : decode cX4_init 84 = .ok (.aload_n 0, 1) := by decide +kernel
theorem dX4_init_85 : decode cX4_init 85 = .ok (.bipush 64, 2) := by decide +kernel
theorem dX4_init_87 : decode cX4_init 87 = .ok (.newarray .long, 2) := by decide +kernel
theorem dX4_init_89 : decode cX4_init 89 = .ok (.putfield 41, 3) := by decide +kernel
theorem dX4_init_92 : decode cX4_init 92 = .ok (.aload_n 0, 1) := by decide +kernel
theorem dX4_init_93 : decode cX4_init 93 = .ok (.bipush 8, 2) := by decide +kernel
theorem dX4_init_95 : decode cX4_init 95 = .ok (.newarray .long, 2) := by decide +kernel
theorem dX4_init_97 : decode cX4_init 97 = .ok (.putfield 45, 3) := by decide +kernel
theorem dX4_init_100 : decode cX4_init 100 = .ok (.aload_n 0, 1) := by decide +kernel
theorem dX4_init_101 : decode cX4_init 101 = .ok (.sipush 256, 3) := by decide +kernel
theorem dX4_init_104 : decode cX4_init 104 = .ok (.newarray .long, 2) := by decide +kernel
theorem dX4_init_106 : decode cX4_init 106 = .ok (.putfield 48, 3) := by decide +kernel
theorem dX4_init_109 : decode cX4_init 109 = .ok (.aload_n 0, 1) := by decide +kernel
theorem dX4_init_110 : decode cX4_init 110 = .ok (.bipush 8, 2) := by decide +kernel
theorem dX4_init_112 : decode cX4_init 112 = .ok (.newarray .long, 2) := by decide +kernel
theorem dX4_init_114 : decode cX4_init 114 = .ok (.putfield 51, 3) := by decide +kernel
theorem dX4_init_117 : decode cX4_init 117 = .ok (.aload_n 0, 1) := by decide +kernel
theorem dX4_init_118 : decode cX4_init 118 = .ok (.bipush 8, 2) := by decide +kernel
theorem dX4_init_120 : decode cX4_init 120 = .ok (.newarray .boolean, 2) := by decide +kernel
theorem dX4_init_122 : decode cX4_init 122 = .ok (.putfield 54, 3) := by decide +kernel
theorem dX4_init_125 : decode cX4_init 125 = .ok (.return_, 1) := by decide +kernel
theorem dX4_thrown_0 : decode cX4_thrown 0 = .ok (.aload_n 0, 1) := by decide +kernel
theorem dX4_thrown_1 : decode cX4_thrown 1 = .ok (.getfield 57, 3) := by decide +kernel
theorem dX4_thrown_4 : decode cX4_thrown 4 = .ok (.ireturn, 1) := by decide +kernel
theorem dX4_fail_0 : decode cX4_fail 0 = .ok (.aload_n 0, 1) := by decide +kernel
theorem dX4_fail_1 : decode cX4_fail 1 = .ok (.iload_n 1, 1) := by decide +kernel
theorem dX4_fail_2 : decode cX4_fail 2 = .ok (.putfield 57, 3) := by decide +kernel
theorem dX4_fail_5 : decode cX4_fail 5 = .ok (.iconst 0, 1) := by decide +kernel
theorem dX4_fail_6 : decode cX4_fail 6 = .ok (.ireturn, 1) := by decide +kernel
theorem dX4_isIn_0 : decode cX4_isIn 0 = .ok (.iload_n 0, 1) := by decide +kernel
theorem dX4_isIn_1 : decode cX4_isIn 1 = .ok (.iload_n 1, 1) := by decide +kernel
theorem dX4_isIn_2 : decode cX4_isIn 2 = .ok (.if_icmp .lt 12, 3) := by decide +kernel
theorem dX4_isIn_5 : decode cX4_isIn 5 = .ok (.iload_n 0, 1) := by decide +kernel
theorem dX4_isIn_6 : decode cX4_isIn 6 = .ok (.iload_n 2, 1) := by decide +kernel
theorem dX4_isIn_7 : decode cX4_isIn 7 = .ok (.if_icmp .gt 7, 3) := by decide +kernel
theorem dX4_isIn_10 : decode cX4_isIn 10 = .ok (.iconst 1, 1) := by decide +kernel
theorem dX4_isIn_11 : decode cX4_isIn 11 = .ok (.goto 4, 3) := by decide +kernel
theorem dX4_isIn_14 : decode cX4_isIn 14 = .ok (.iconst 0, 1) := by decide +kernel
theorem dX4_isIn_15 : decode cX4_isIn 15 = .ok (.ireturn, 1) := by decide +kernel
theorem dX4_isNode_0 : decode cX4_isNode 0 = .ok (.iload_n 1, 1) := by decide +kernel
theorem dX4_isNode_1 : decode cX4_isNode 1 = .ok (.iconst 0, 1) := by decide +kernel
theorem dX4_isNode_2 : decode cX4_isNode 2 = .ok (.aload_n 0, 1) := by decide +kernel
theorem dX4_isNode_3 : decode cX4_isNode 3 = .ok (.getfield 61, 3) := by decide +kernel
theorem dX4_isNode_6 : decode cX4_isNode 6 = .ok (.iconst 1, 1) := by decide +kernel
theorem dX4_isNode_7 : decode cX4_isNode 7 = .ok (.isub, 1) := by decide +kernel
theorem dX4_isNode_8 : decode cX4_isNode 8 = .ok (.invokestatic 64, 3) := by decide +kernel
theorem dX4_isNode_11 : decode cX4_isNode 11 = .ok (.ireturn, 1) := by decide +kernel
theorem dX4_isElement_0 : decode cX4_isElement 0 = .ok (.iload_n 1, 1) := by decide +kernel
theorem dX4_isElement_1 : decode cX4_isElement 1 = .ok (.iconst 0, 1) := by decide +kernel
theorem dX4_isElement_2 : decode cX4_isElement 2 = .ok (.aload_n 0, 1) := by decide +kernel
theorem dX4_isElement_3 : decode cX4_isElement 3 = .ok (.getfield 68, 3) := by decide +kernel
theorem dX4_isElement_6 : decode cX4_isElement 6 = .ok (.iconst 1, 1) := by decide +kernel
theorem dX4_isElement_7 : decode cX4_isElement 7 = .ok (.isub, 1) := by decide +kernel
theorem dX4_isElement_8 : decode cX4_isElement 8 = .ok (.invokestatic 64, 3) := by decide +kernel
theorem dX4_isElement_11 : decode cX4_isElement 11 = .ok (.ireturn, 1) := by decide +kernel
theorem dX4_isTime_0 : decode cX4_isTime 0 = .ok (.iload_n 0, 1) := by decide +kernel
theorem dX4_isTime_1 : decode cX4_isTime 1 = .ok (.iconst 0, 1) := by decide +kernel
theorem dX4_isTime_2 : decode cX4_isTime 2 = .ok (.sipush 999, 3) := by decide +kernel
theorem dX4_isTime_5 : decode cX4_isTime 5 = .ok (.invokestatic 64, 3) := by decide +kernel
theorem dX4_isTime_8 : decode cX4_isTime 8 = .ok (.ireturn, 1) := by decide +kernel
theorem dX4_isSize_0 : decode cX4_isSize 0 = .ok (.iload_n 0, 1) := by decide +kernel
theorem dX4_isSize_1 : decode cX4_isSize 1 = .ok (.ifCond .eq 14, 3) := by decide +kernel
theorem dX4_isSize_4 : decode cX4_isSize 4 = .ok (.iload_n 1, 1) := by decide +kernel
theorem dX4_isSize_5 : decode cX4_isSize 5 = .ok (.bipush (-99), 2) := by decide +kernel
theorem dX4_isSize_7 : decode cX4_isSize 7 = .ok (.bipush 99, 2) := by decide +kernel
theorem dX4_isSize_9 : decode cX4_isSize 9 = .ok (.invokestatic 64, 3) := by decide +kernel
theorem dX4_isSize_12 : decode cX4_isSize 12 = .ok (.goto 10, 3) := by decide +kernel
theorem dX4_isSize_15 : decode cX4_isSize 15 = .ok (.iload_n 1, 1) := by decide +kernel
theorem dX4_isSize_16 : decode cX4_isSize 16 = .ok (.iconst 1, 1) := by decide +kernel
theorem dX4_isSize_17 : decode cX4_isSize 17 = .ok (.bipush 9, 2) := by decide +kernel
theorem dX4_isSize_19 : decode cX4_isSize 19 = .ok (.invokestatic 64, 3) := by decide +kernel
theorem dX4_isSize_22 : decode cX4_isSize 22 = .ok (.ireturn, 1) := by decide +kernel
theorem dX4_addNode_0 : decode cX4_addNode 0 = .ok (.aload_n 0, 1) := by decide +kernel
theorem dX4_addNode_1 : decode cX4_addNode 1 = .ok (.iconst 0, 1) := by decide +kernel
theorem dX4_addNode_2 : decode cX4_addNode 2 = .ok (.putfield 57, 3) := by decide +kernel
theorem dX4_addNode_5 : decode cX4_addNode 5 = .ok (.aload_n 0, 1) := by decide +kernel
theorem dX4_addNode_6 : decode cX4_addNode 6 = .ok (.getfield 61, 3) := by decide +kernel
theorem dX4_addNode_9 : decode cX4_addNode 9 = .ok (.bipush 8, 2) := by decide +kernel
theorem dX4_addNode_11 : decode cX4_addNode 11 = .ok (.if_icmp .ne 9, 3) := by decide +kernel
theorem dX4_addNode_14 : decode cX4_addNode 14 = .ok (.aload_n 0, 1) := by decide +kernel
theorem dX4_addNode_15 : decode cX4_addNode 15 = .ok (.iconst 1, 1) := by decide +kernel
theorem dX4_addNode_16 : decode cX4_addNode 16 = .ok (.invokevirtual 71, 3) := by decide +kernel
theorem dX4_addNode_19 : decode cX4_addNode 19 = .ok (.ireturn, 1) := by decide +kernel
theorem dX4_addNode_20 : decode cX4_addNode 20 = .ok (.aload_n 0, 1) := by decide +kernel
theorem dX4_addNode_21 : decode cX4_addNode 21 = .ok (.getfield 9, 3) := by decide +kernel
theorem dX4_addNode_24 : decode cX4_addNode 24 = .ok (.aload_n 0, 1) := by decide +kernel
theorem dX4_addNode_25 : decode cX4_addNode 25 = .ok (.getfield 61, 3) := by decide +kernel
theorem dX4_addNode_28 : decode cX4_addNode 28 = .ok (.iconst 0, 1) := by decide +kernel
theorem dX4_addNode_29 : decode cX4_addNode 29 = .ok (.bastore, 1) := by decide +kernel
theorem dX4_addNode_30 : decode cX4_addNode 30 = .ok (.aload_n 0, 1) := by decide +kernel
theorem dX4_addNode_31 : decode cX4_addNode 31 = .ok (.dup, 1) := by decide +kernel
theorem dX4_addNode_32 : decode cX4_addNode 32 = .ok (.getfield 61, 3) := by decide +kernel
theorem dX4_addNode_35 : decode cX4_addNode 35 = .ok (.iconst 1, 1) := by decide +kernel
theorem dX4_addNode_36 : decode cX4_addNode 36 = .ok (.iadd, 1) := by decide +kernel
theorem dX4_addNode_37 : decode cX4_addNode 37 = .ok (.putfield 61, 3) := by decide +kernel
theorem dX4_addNode_40 : decode cX4_addNode 40 = .ok (.aload_n 0, 1) := by decide +kernel
theorem dX4_addNode_41 : decode cX4_addNode 41 = .ok (.getfield 61, 3) := by decide +kernel
theorem dX4_addNode_44 : decode cX4_addNode 44 = .ok (.iconst 1, 1) := by decide +kernel
theorem dX4_addNode_45 : decode cX4_addNode 45 = .ok (.isub, 1) := by decide +kernel
theorem dX4_addNode_46 : decode cX4_addNode 46 = .ok (.ireturn, 1) := by decide +kernel
theorem dX4_rail_0 : decode cX4_rail 0 = .ok (.aload_n 0, 1) := by decide +kernel
theorem dX4_rail_1 : decode cX4_rail 1 = .ok (.aload_n 0, 1) := by decide +kernel
theorem dX4_rail_2 : decode cX4_rail 2 = .ok (.iload_n 1, 1) := by decide +kernel
theorem dX4_rail_3 : decode cX4_rail 3 = .ok (.invokevirtual 75, 3) := by decide +kernel
theorem dX4_rail_6 : decode cX4_rail 6 = .ok (.ifCond .ne 7, 3) := by decide +kernel
theorem dX4_rail_9 : decode cX4_rail 9 = .ok (.iconst 1, 1) := by decide +kernel
theorem dX4_rail_10 : decode cX4_rail 10 = .ok (.goto 23, 3) := by decide +kernel
theorem dX4_rail_13 : decode cX4_rail 13 = .ok (.iload_n 2, 1) := by decide +kernel
theorem dX4_rail_14 : decode cX4_rail 14 = .ok (.ifCond .eq 18, 3) := by decide +kernel
theorem dX4_rail_17 : decode cX4_rail 17 = .ok (.iload_n 3, 1) := by decide +kernel
theorem dX4_rail_18 : decode cX4_rail 18 = .ok (.bipush (-99), 2) := by decide +kernel
theorem dX4_rail_20 : decode cX4_rail 20 = .ok (.bipush 99, 2) := by decide +kernel
theorem dX4_rail_22 : decode cX4_rail 22 = .ok (.invokestatic 64, 3) := by decide +kernel
theorem dX4_rail_25 : decode cX4_rail 25 = .ok (.ifCond .ne 7, 3) := by decide +kernel
theorem dX4_rail_28 : decode cX4_rail 28 = .ok (.iconst 2, 1) := by decide +kernel
theorem dX4_rail_29 : decode cX4_rail 29 = .ok (.goto 4, 3) := by decide +kernel
theorem dX4_rail_32 : decode cX4_rail 32 = .ok (.iconst 0, 1) := by decide +kernel
theorem dX4_rail_33 : decode cX4_rail 33 = .ok (.putfield 57, 3) := by decide +kernel
theorem dX4_rail_36 : decode cX4_rail 36 = .ok (.aload_n 0, 1) := by decide +kernel
theorem dX4_rail_37 : decode cX4_rail 37 = .ok (.getfield 57, 3) := by decide +kernel
theorem dX4_rail_40 : decode cX4_rail 40 = .ok (.ifCond .eq 5, 3) := by decide +kernel
theorem dX4_rail_43 : decode cX4_rail 43 = .ok (.iconst 0, 1) := by decide +kernel
theorem dX4_rail_44 : decode cX4_rail 44 = .ok (.ireturn, 1) := by decide +kernel
theorem dX4_rail_45 : decode cX4_rail 45 = .ok (.aload_n 0, 1) := by decide +kernel
theorem dX4_rail_46 : decode cX4_rail 46 = .ok (.getfield 9, 3) := by decide +kernel
theorem dX4_rail_49 : decode cX4_rail 49 = .ok (.iload_n 1, 1) := by decide +kernel
theorem dX4_rail_50 : decode cX4_rail 50 = .ok (.baload, 1) := by decide +kernel
theorem dX4_rail_51 : decode cX4_rail 51 = .ok (.istore 4, 2) := by decide +kernel
theorem dX4_rail_53 : decode cX4_rail 53 = .ok (.aload_n 0, 1) := by decide +kernel
theorem dX4_rail_54 : decode cX4_rail 54 = .ok (.getfield 9, 3) := by decide +kernel
theorem dX4_rail_57 : decode cX4_rail 57 = .ok (.iload_n 1, 1) := by decide +kernel
theorem dX4_rail_58 : decode cX4_rail 58 = .ok (.iload_n 2, 1) := by decide +kernel
theorem dX4_rail_59 : decode cX4_rail 59 = .ok (.bastore, 1) := by decide +kernel
theorem dX4_rail_60 : decode cX4_rail 60 = .ok (.aload_n 0, 1) := by decide +kernel
theorem dX4_rail_61 : decode cX4_rail 61 = .ok (.getfield 13, 3) := by decide +kernel
theorem dX4_rail_64 : decode cX4_rail 64 = .ok (.iload_n 1, 1) := by decide +kernel
theorem dX4_rail_65 : decode cX4_rail 65 = .ok (.iload_n 3, 1) := by decide +kernel
theorem dX4_rail_66 : decode cX4_rail 66 = .ok (.iastore, 1) := by decide +kernel
theorem dX4_rail_67 : decode cX4_rail 67 = .ok (.iload 4, 2) := by decide +kernel
theorem dX4_rail_69 : decode cX4_rail 69 = .ok (.ireturn, 1) := by decide +kernel
theorem dX4_addElement_0 : decode cX4_addElement 0 = .ok (.aload_n 0, 1) := by decide +kernel
theorem dX4_addElement_1 : decode cX4_addElement 1 = .ok (.iconst 0, 1) := by decide +kernel
theorem dX4_addElement_2 : decode cX4_addElement 2 = .ok (.putfield 57, 3) := by decide +kernel
theorem dX4_addElement_5 : decode cX4_addElement 5 = .ok (.aload_n 0, 1) := by decide +kernel
theorem dX4_addElement_6 : decode cX4_addElement 6 = .ok (.iload_n 2, 1) := by decide +kernel
theorem dX4_addElement_7 : decode cX4_addElement 7 = .ok (.invokevirtual 75, 3) := by decide +kernel
theorem dX4_addElement_10 : decode cX4_addElement 10 = .ok (.ifCond .eq 11, 3) := by decide +kernel
theorem dX4_addElement_13 : decode cX4_addElement 13 = .ok (.aload_n 0, 1) := by decide +kernel
theorem dX4_addElement_14 : decode cX4_addElement 14 = .ok (.iload_n 3, 1) := by decide +kernel
theorem dX4_addElement_15 : decode cX4_addElement 15 = .ok (.invokevirtual 75, 3) := by decide +kernel
theorem dX4_addElement_18 : decode cX4_addElement 18 = .ok (.ifCond .ne 9, 3) := by decide +kernel
theorem dX4_addElement_21 : decode cX4_addElement 21 = .ok (.aload_n 0, 1) := by decide +kernel
theorem dX4_addElement_22 : decode cX4_addElement 22 = .ok (.iconst 1, 1) := by decide +kernel
theorem dX4_addElement_23 : decode cX4_addElement 23 = .ok (.invokevirtual 71, 3) := by decide +kernel
theorem dX4_addElement_26 : decode cX4_addElement 26 = .ok (.ireturn, 1) := by decide +kernel
theorem dX4_addElement_27 : decode cX4_addElement 27 = .ok (.iload_n 2, 1) := by decide +kernel
theorem dX4_addElement_28 : decode cX4_addElement 28 = .ok (.iload_n 3, 1) := by decide +kernel
theorem dX4_addElement_29 : decode cX4_addElement 29 = .ok (.if_icmp .eq 12, 3) := by decide +kernel
theorem dX4_addElement_32 : decode cX4_addElement 32 = .ok (.iload_n 1, 1) := by decide +kernel
theorem dX4_addElement_33 : decode cX4_addElement 33 = .ok (.iload 4, 2) := by decide +kernel
theorem dX4_addElement_35 : decode cX4_addElement 35 = .ok (.invokestatic 79, 3) := by decide +kernel
theorem dX4_addElement_38 : decode cX4_addElement 38 = .ok (.ifCond .ne 9, 3) := by decide +kernel
theorem dX4_addElement_41 : decode cX4_addElement 41 = .ok (.aload_n 0, 1) := by decide +kernel
theorem dX4_addElement_42 : decode cX4_addElement 42 = .ok (.iconst 2, 1) := by decide +kernel
theorem dX4_addElement_43 : decode cX4_addElement 43 = .ok (.invokevirtual 71, 3) := by decide +kernel
theorem dX4_addElement_46 : decode cX4_addElement 46 = .ok (.ireturn, 1) := by decide +kernel
theorem dX4_addElement_47 : decode cX4_addElement 47 = .ok (.aload_n 0, 1) := by decide +kernel
theorem dX4_addElement_48 : decode cX4_addElement 48 = .ok (.getfield 68, 3) := by decide +kernel
theorem dX4_addElement_51 : decode cX4_addElement 51 = .ok (.bipush 20, 2) := by decide +kernel
theorem dX4_addElement_53 : decode cX4_addElement 53 = .ok (.if_icmp .ne 9, 3) := by decide +kernel
theorem dX4_addElement_56 : decode cX4_addElement 56 = .ok (.aload_n 0, 1) := by decide +kernel
theorem dX4_addElement_57 : decode cX4_addElement 57 = .ok (.iconst 3, 1) := by decide +kernel
theorem dX4_addElement_58 : decode cX4_addElement 58 = .ok (.invokevirtual 71, 3) := by decide +kernel
theorem dX4_addElement_61 : decode cX4_addElement 61 = .ok (.ireturn, 1) := by decide +kernel
theorem dX4_addElement_62 : decode cX4_addElement 62 = .ok (.aload_n 0, 1) := by decide +kernel
theorem dX4_addElement_63 : decode cX4_addElement 63 = .ok (.getfield 17, 3) := by decide +kernel
theorem dX4_addElement_66 : decode cX4_addElement 66 = .ok (.aload_n 0, 1) := by decide +kernel
theorem dX4_addElement_67 : decode cX4_addElement 67 = .ok (.getfield 68, 3) := by decide +kernel
theorem dX4_addElement_70 : decode cX4_addElement 70 = .ok (.iload_n 1, 1) := by decide +kernel
theorem dX4_addElement_71 : decode cX4_addElement 71 = .ok (.bastore, 1) := by decide +kernel
theorem dX4_addElement_72 : decode cX4_addElement 72 = .ok (.aload_n 0, 1) := by decide +kernel
theorem dX4_addElement_73 : decode cX4_addElement 73 = .ok (.getfield 20, 3) := by decide +kernel
theorem dX4_addElement_76 : decode cX4_addElement 76 = .ok (.aload_n 0, 1) := by decide +kernel
theorem dX4_addElement_77 : decode cX4_addElement 77 = .ok (.getfield 68, 3) := by decide +kernel
theorem dX4_addElement_80 : decode cX4_addElement 80 = .ok (.iload_n 2, 1) := by decide +kernel
theorem dX4_addElement_81 : decode cX4_addElement 81 = .ok (.iastore, 1) := by decide +kernel
theorem dX4_addElement_82 : decode cX4_addElement 82 = .ok (.aload_n 0, 1) := by decide +kernel
theorem dX4_addElement_83 : decode cX4_addElement 83 = .ok (.getfield 23, 3) := by decide +kernel
theorem dX4_addElement_86 : decode cX4_addElement 86 = .ok (.aload_n 0, 1) := by decide +kernel
theorem dX4_addElement_87 : decode cX4_addElement 87 = .ok (.getfield 68, 3) := by decide +kernel
theorem dX4_addElement_90 : decode cX4_addElement 90 = .ok (.iload_n 3, 1) := by decide +kernel
theorem dX4_addElement_91 : decode cX4_addElement 91 = .ok (.iastore, 1) := by decide +kernel
theorem dX4_addElement_92 : decode cX4_addElement 92 = .ok (.aload_n 0, 1) := by decide +kernel
theorem dX4_addElement_93 : decode cX4_addElement 93 = .ok (.getfield 26, 3) := by decide +kernel
theorem dX4_addElement_96 : decode cX4_addElement 96 = .ok (.aload_n 0, 1) := by decide +kernel
theorem dX4_addElement_97 : decode cX4_addElement 97 = .ok (.getfield 68, 3) := by decide +kernel
theorem dX4_addElement_100 : decode cX4_addElement 100 = .ok (.iload 4, 2) := by decide +kernel
theorem dX4_addElement_102 : decode cX4_addElement 102 = .ok (.iastore, 1) := by decide +kernel
theorem dX4_addElement_103 : decode cX4_addElement 103 = .ok (.aload_n 0, 1) := by decide +kernel
theorem dX4_addElement_104 : decode cX4_addElement 104 = .ok (.getfield 29, 3) := by decide +kernel
theorem dX4_addElement_107 : decode cX4_addElement 107 = .ok (.aload_n 0, 1) := by decide +kernel
theorem dX4_addElement_108 : decode cX4_addElement 108 = .ok (.getfield 68, 3) := by decide +kernel
theorem dX4_addElement_111 : decode cX4_addElement 111 = .ok (.iconst 1, 1) := by decide +kernel
theorem dX4_addElement_112 : decode cX4_addElement 112 = .ok (.bastore, 1) := by decide +kernel
theorem dX4_addElement_113 : decode cX4_addElement 113 = .ok (.aload_n 0, 1) := by decide +kernel
theorem dX4_addElement_114 : decode cX4_addElement 114 = .ok (.getfield 32, 3) := by decide +kernel
theorem dX4_addElement_117 : decode cX4_addElement 117 = .ok (.aload_n 0, 1) := by decide +kernel
theorem dX4_addElement_118 : decode cX4_addElement 118 = .ok (.getfield 68, 3) := by decide +kernel
theorem dX4_addElement_121 : decode cX4_addElement 121 = .ok (.iconst 0, 1) := by decide +kernel
theorem dX4_addElement_122 : decode cX4_addElement 122 = .ok (.iastore, 1) := by decide +kernel
theorem dX4_addElement_123 : decode cX4_addElement 123 = .ok (.aload_n 0, 1) := by decide +kernel
theorem dX4_addElement_124 : decode cX4_addElement 124 = .ok (.dup, 1) := by decide +kernel
theorem dX4_addElement_125 : decode cX4_addElement 125 = .ok (.getfield 68, 3) := by decide +kernel
theorem dX4_addElement_128 : decode cX4_addElement 128 = .ok (.iconst 1, 1) := by decide +kernel
theorem dX4_addElement_129 : decode cX4_addElement 129 = .ok (.iadd, 1) := by decide +kernel
theorem dX4_addElement_130 : decode cX4_addElement 130 = .ok (.putfield 68, 3) := by decide +kernel
theorem dX4_addElement_133 : decode cX4_addElement 133 = .ok (.aload_n 0, 1) := by decide +kernel
theorem dX4_addElement_134 : decode cX4_addElement 134 = .ok (.getfield 68, 3) := by decide +kernel
theorem dX4_addElement_137 : decode cX4_addElement 137 = .ok (.iconst 1, 1) := by decide +kernel
theorem dX4_addElement_138 : decode cX4_addElement 138 = .ok (.isub, 1) := by decide +kernel
theorem dX4_addElement_139 : decode cX4_addElement 139 = .ok (.ireturn, 1) := by decide +kernel
theorem dX4_resize_0 : decode cX4_resize 0 = .ok (.aload_n 0, 1) := by decide +kernel
theorem dX4_resize_1 : decode cX4_resize 1 = .ok (.iconst 0, 1) := by decide +kernel
theorem dX4_resize_2 : decode cX4_resize 2 = .ok (.putfield 57, 3) := by decide +kernel
theorem dX4_resize_5 : decode cX4_resize 5 = .ok (.aload_n 0, 1) := by decide +kernel
theorem dX4_resize_6 : decode cX4_resize 6 = .ok (.iload_n 1, 1) := by decide +kernel
theorem dX4_resize_7 : decode cX4_resize 7 = .ok (.invokevirtual 83, 3) := by decide +kernel
theorem dX4_resize_10 : decode cX4_resize 10 = .ok (.ifCond .ne 9, 3) := by decide +kernel
theorem dX4_resize_13 : decode cX4_resize 13 = .ok (.aload_n 0, 1) := by decide +kernel
theorem dX4_resize_14 : decode cX4_resize 14 = .ok (.iconst 1, 1) := by decide +kernel
theorem dX4_resize_15 : decode cX4_resize 15 = .ok (.invokevirtual 71, 3) := by decide +kernel
theorem dX4_resize_18 : decode cX4_resize 18 = .ok (.ireturn, 1) := by decide +kernel
theorem dX4_resize_19 : decode cX4_resize 19 = .ok (.aload_n 0, 1) := by decide +kernel
theorem dX4_resize_20 : decode cX4_resize 20 = .ok (.getfield 17, 3) := by decide +kernel
theorem dX4_resize_23 : decode cX4_resize 23 = .ok (.iload_n 1, 1) := by decide +kernel
theorem dX4_resize_24 : decode cX4_resize 24 = .ok (.baload, 1) := by decide +kernel
theorem dX4_resize_25 : decode cX4_resize 25 = .ok (.iload_n 2, 1) := by decide +kernel
theorem dX4_resize_26 : decode cX4_resize 26 = .ok (.invokestatic 79, 3) := by decide +kernel
theorem dX4_resize_29 : decode cX4_resize 29 = .ok (.ifCond .ne 9, 3) := by decide +kernel
theorem dX4_resize_32 : decode cX4_resize 32 = .ok (.aload_n 0, 1) := by decide +kernel
theorem dX4_resize_33 : decode cX4_resize 33 = .ok (.iconst 2, 1) := by decide +kernel
theorem dX4_resize_34 : decode cX4_resize 34 = .ok (.invokevirtual 71, 3) := by decide +kernel
theorem dX4_resize_37 : decode cX4_resize 37 = .ok (.ireturn, 1) := by decide +kernel
theorem dX4_resize_38 : decode cX4_resize 38 = .ok (.aload_n 0, 1) := by decide +kernel
theorem dX4_resize_39 : decode cX4_resize 39 = .ok (.getfield 26, 3) := by decide +kernel
theorem dX4_resize_42 : decode cX4_resize 42 = .ok (.iload_n 1, 1) := by decide +kernel
theorem dX4_resize_43 : decode cX4_resize 43 = .ok (.iaload, 1) := by decide +kernel
theorem dX4_resize_44 : decode cX4_resize 44 = .ok (.istore_n 3, 1) := by decide +kernel
theorem dX4_resize_45 : decode cX4_resize 45 = .ok (.aload_n 0, 1) := by decide +kernel
theorem dX4_resize_46 : decode cX4_resize 46 = .ok (.getfield 26, 3) := by decide +kernel
theorem dX4_resize_49 : decode cX4_resize 49 = .ok (.iload_n 1, 1) := by decide +kernel
theorem dX4_resize_50 : decode cX4_resize 50 = .ok (.iload_n 2, 1) := by decide +kernel
theorem dX4_resize_51 : decode cX4_resize 51 = .ok (.iastore, 1) := by decide +kernel
theorem dX4_resize_52 : decode cX4_resize 52 = .ok (.iload_n 3, 1) := by decide +kernel
theorem dX4_resize_53 : decode cX4_resize 53 = .ok (.ireturn, 1) := by decide +kernel
theorem dX4_begin_0 : decode cX4_begin 0 = .ok (.aload_n 0, 1) := by decide +kernel
theorem dX4_begin_1 : decode cX4_begin 1 = .ok (.aload_n 0, 1) := by decide +kernel
theorem dX4_begin_2 : decode cX4_begin 2 = .ok (.iload_n 1, 1) := by decide +kernel
theorem dX4_begin_3 : decode cX4_begin 3 = .ok (.invokevirtual 83, 3) := by decide +kernel
theorem dX4_begin_6 : decode cX4_begin 6 = .ok (.ifCond .eq 7, 3) := by decide +kernel
theorem dX4_begin_9 : decode cX4_begin 9 = .ok (.iconst 0, 1) := by decide +kernel
theorem dX4_begin_10 : decode cX4_begin 10 = .ok (.goto 4, 3) := by decide +kernel
theorem dX4_begin_13 : decode cX4_begin 13 = .ok (.iconst 1, 1) := by decide +kernel
theorem dX4_begin_14 : decode cX4_begin 14 = .ok (.putfield 57, 3) := by decide +kernel
theorem dX4_begin_17 : decode cX4_begin 17 = .ok (.aload_n 0, 1) := by decide +kernel
theorem dX4_begin_18 : decode cX4_begin 18 = .ok (.getfield 57, 3) := by decide +kernel
theorem dX4_begin_21 : decode cX4_begin 21 = .ok (.ifCond .eq 5, 3) := by decide +kernel
theorem dX4_begin_24 : decode cX4_begin 24 = .ok (.iconst 0, 1) := by decide +kernel
theorem dX4_begin_25 : decode cX4_begin 25 = .ok (.ireturn, 1) := by decide +kernel
theorem dX4_begin_26 : decode cX4_begin 26 = .ok (.aload_n 0, 1) := by decide +kernel
theorem dX4_begin_27 : decode cX4_begin 27 = .ok (.getfield 29, 3) := by decide +kernel
theorem dX4_begin_30 : decode cX4_begin 30 = .ok (.iload_n 1, 1) := by decide +kernel
theorem dX4_begin_31 : decode cX4_begin 31 = .ok (.baload, 1) := by decide +kernel
theorem dX4_begin_32 : decode cX4_begin 32 = .ok (.istore_n 3, 1) := by decide +kernel
theorem dX4_begin_33 : decode cX4_begin 33 = .ok (.aload_n 0, 1) := by decide +kernel
theorem dX4_begin_34 : decode cX4_begin 34 = .ok (.getfield 29, 3) := by decide +kernel
theorem dX4_begin_37 : decode cX4_begin 37 = .ok (.iload_n 1, 1) := by decide +kernel
theorem dX4_begin_38 : decode cX4_begin 38 = .ok (.iload_n 2, 1) := by decide +kernel
theorem dX4_begin_39 : decode cX4_begin 39 = .ok (.bastore, 1) := by decide +kernel
theorem dX4_begin_40 : decode cX4_begin 40 = .ok (.iload_n 3, 1) := by decide +kernel
theorem dX4_begin_41 : decode cX4_begin 41 = .ok (.ireturn, 1) := by decide +kernel
theorem dX4_toggle_0 : decode cX4_toggle 0 = .ok (.aload_n 0, 1) := by decide +kernel
theorem dX4_toggle_1 : decode cX4_toggle 1 = .ok (.iconst 0, 1) := by decide +kernel
theorem dX4_toggle_2 : decode cX4_toggle 2 = .ok (.putfield 57, 3) := by decide +kernel
theorem dX4_toggle_5 : decode cX4_toggle 5 = .ok (.aload_n 0, 1) := by decide +kernel
theorem dX4_toggle_6 : decode cX4_toggle 6 = .ok (.iload_n 1, 1) := by decide +kernel
theorem dX4_toggle_7 : decode cX4_toggle 7 = .ok (.invokevirtual 83, 3) := by decide +kernel
theorem dX4_toggle_10 : decode cX4_toggle 10 = .ok (.ifCond .ne 9, 3) := by decide +kernel
theorem dX4_toggle_13 : decode cX4_toggle 13 = .ok (.aload_n 0, 1) := by decide +kernel
theorem dX4_toggle_14 : decode cX4_toggle 14 = .ok (.iconst 1, 1) := by decide +kernel
theorem dX4_toggle_15 : decode cX4_toggle 15 = .ok (.invokevirtual 71, 3) := by decide +kernel
theorem dX4_toggle_18 : decode cX4_toggle 18 = .ok (.ireturn, 1) := by decide +kernel
theorem dX4_toggle_19 : decode cX4_toggle 19 = .ok (.iload_n 2, 1) := by decide +kernel
theorem dX4_toggle_20 : decode cX4_toggle 20 = .ok (.iconst 1, 1) := by decide +kernel
theorem dX4_toggle_21 : decode cX4_toggle 21 = .ok (.sipush 999, 3) := by decide +kernel
theorem dX4_toggle_24 : decode cX4_toggle 24 = .ok (.invokestatic 64, 3) := by decide +kernel
theorem dX4_toggle_27 : decode cX4_toggle 27 = .ok (.ifCond .ne 9, 3) := by decide +kernel
theorem dX4_toggle_30 : decode cX4_toggle 30 = .ok (.aload_n 0, 1) := by decide +kernel
theorem dX4_toggle_31 : decode cX4_toggle 31 = .ok (.iconst 2, 1) := by decide +kernel
theorem dX4_toggle_32 : decode cX4_toggle 32 = .ok (.invokevirtual 71, 3) := by decide +kernel
theorem dX4_toggle_35 : decode cX4_toggle 35 = .ok (.ireturn, 1) := by decide +kernel
theorem dX4_toggle_36 : decode cX4_toggle 36 = .ok (.bipush 6, 2) := by decide +kernel
theorem dX4_toggle_38 : decode cX4_toggle 38 = .ok (.iload_n 1, 1) := by decide +kernel
theorem dX4_toggle_39 : decode cX4_toggle 39 = .ok (.imul, 1) := by decide +kernel
theorem dX4_toggle_40 : decode cX4_toggle 40 = .ok (.istore_n 3, 1) := by decide +kernel
theorem dX4_toggle_41 : decode cX4_toggle 41 = .ok (.aload_n 0, 1) := by decide +kernel
theorem dX4_toggle_42 : decode cX4_toggle 42 = .ok (.getfield 32, 3) := by decide +kernel
theorem dX4_toggle_45 : decode cX4_toggle 45 = .ok (.iload_n 1, 1) := by decide +kernel
theorem dX4_toggle_46 : decode cX4_toggle 46 = .ok (.iaload, 1) := by decide +kernel
theorem dX4_toggle_47 : decode cX4_toggle 47 = .ok (.istore 4, 2) := by decide +kernel
theorem dX4_toggle_49 : decode cX4_toggle 49 = .ok (.iconst 0, 1) := by decide +kernel
theorem dX4_toggle_50 : decode cX4_toggle 50 = .ok (.istore 5, 2) := by decide +kernel
theorem dX4_toggle_52 : decode cX4_toggle 52 = .ok (.iload 5, 2) := by decide +kernel
theorem dX4_toggle_54 : decode cX4_toggle 54 = .ok (.iload 4, 2) := by decide +kernel
theorem dX4_toggle_56 : decode cX4_toggle 56 = .ok (.if_icmp .ge 22, 3) := by decide +kernel
theorem dX4_toggle_59 : decode cX4_toggle 59 = .ok (.aload_n 0, 1) := by decide +kernel
theorem dX4_toggle_60 : decode cX4_toggle 60 = .ok (.getfield 35, 3) := by decide +kernel
theorem dX4_toggle_63 : decode cX4_toggle 63 = .ok (.iload_n 3, 1) := by decide +kernel
theorem dX4_toggle_64 : decode cX4_toggle 64 = .ok (.iload 5, 2) := by decide +kernel
theorem dX4_toggle_66 : decode cX4_toggle 66 = .ok (.iadd, 1) := by decide +kernel
theorem dX4_toggle_67 : decode cX4_toggle 67 = .ok (.iaload, 1) := by decide +kernel
theorem dX4_toggle_68 : decode cX4_toggle 68 = .ok (.iload_n 2, 1) := by decide +kernel
theorem dX4_toggle_69 : decode cX4_toggle 69 = .ok (.if_icmp .ge 9, 3) := by decide +kernel
theorem dX4_toggle_72 : decode cX4_toggle 72 = .ok (.iinc 5 1, 3) := by decide +kernel
theorem dX4_toggle_75 : decode cX4_toggle 75 = .ok (.goto (-23), 3) := by decide +kernel
theorem dX4_toggle_78 : decode cX4_toggle 78 = .ok (.iload 5, 2) := by decide +kernel
theorem dX4_toggle_80 : decode cX4_toggle 80 = .ok (.iload 4, 2) := by decide +kernel
theorem dX4_toggle_82 : decode cX4_toggle 82 = .ok (.if_icmp .ge 20, 3) := by decide +kernel
theorem dX4_toggle_85 : decode cX4_toggle 85 = .ok (.aload_n 0, 1) := by decide +kernel
theorem dX4_toggle_86 : decode cX4_toggle 86 = .ok (.getfield 35, 3) := by decide +kernel
theorem dX4_toggle_89 : decode cX4_toggle 89 = .ok (.iload_n 3, 1) := by decide +kernel
theorem dX4_toggle_90 : decode cX4_toggle 90 = .ok (.iload 5, 2) := by decide +kernel
theorem dX4_toggle_92 : decode cX4_toggle 92 = .ok (.iadd, 1) := by decide +kernel
theorem dX4_toggle_93 : decode cX4_toggle 93 = .ok (.iaload, 1) := by decide +kernel
theorem dX4_toggle_94 : decode cX4_toggle 94 = .ok (.iload_n 2, 1) := by decide +kernel
theorem dX4_toggle_95 : decode cX4_toggle 95 = .ok (.if_icmp .ne 7, 3) := by decide +kernel
theorem dX4_toggle_98 : decode cX4_toggle 98 = .ok (.iconst 1, 1) := by decide +kernel
theorem dX4_toggle_99 : decode cX4_toggle 99 = .ok (.goto 4, 3) := by decide +kernel
theorem dX4_toggle_102 : decode cX4_toggle 102 = .ok (.iconst 0, 1) := by decide +kernel
theorem dX4_toggle_103 : decode cX4_toggle 103 = .ok (.istore 6, 2) := by decide +kernel
theorem dX4_toggle_105 : decode cX4_toggle 105 = .ok (.iload 6, 2) := by decide +kernel
theorem dX4_toggle_107 : decode cX4_toggle 107 = .ok (.ifCond .ne 16, 3) := by decide +kernel
theorem dX4_toggle_110 : decode cX4_toggle 110 = .ok (.iload 4, 2) := by decide +kernel
theorem dX4_toggle_112 : decode cX4_toggle 112 = .ok (.bipush 6, 2) := by decide +kernel
theorem dX4_toggle_114 : decode cX4_toggle 114 = .ok (.if_icmp .ne 9, 3) := by decide +kernel
theorem dX4_toggle_117 : decode cX4_toggle 117 = .ok (.aload_n 0, 1) := by decide +kernel
theorem dX4_toggle_118 : decode cX4_toggle 118 = .ok (.iconst 3, 1) := by decide +kernel
theorem dX4_toggle_119 : decode cX4_toggle 119 = .ok (.invokevirtual 71, 3) := by decide +kernel
theorem dX4_toggle_122 : decode cX4_toggle 122 = .ok (.ireturn, 1) := by decide +kernel
theorem dX4_toggle_123 : decode cX4_toggle 123 = .ok (.iload 6, 2) := by decide +kernel
theorem dX4_toggle_125 : decode cX4_toggle 125 = .ok (.ifCond .eq 44, 3) := by decide +kernel
theorem dX4_toggle_128 : decode cX4_toggle 128 = .ok (.aload_n 0, 1) := by decide +kernel
theorem dX4_toggle_129 : decode cX4_toggle 129 = .ok (.getfield 35, 3) := by decide +kernel
theorem dX4_toggle_132 : decode cX4_toggle 132 = .ok (.iload_n 3, 1) := by decide +kernel
theorem dX4_toggle_133 : decode cX4_toggle 133 = .ok (.iload 5, 2) := by decide +kernel
theorem dX4_toggle_135 : decode cX4_toggle 135 = .ok (.iadd, 1) := by decide +kernel
theorem dX4_toggle_136 : decode cX4_toggle 136 = .ok (.iconst 1, 1) := by decide +kernel
theorem dX4_toggle_137 : decode cX4_toggle 137 = .ok (.iadd, 1) := by decide +kernel
theorem dX4_toggle_138 : decode cX4_toggle 138 = .ok (.aload_n 0, 1) := by decide +kernel
theorem dX4_toggle_139 : decode cX4_toggle 139 = .ok (.getfield 35, 3) := by decide +kernel
theorem dX4_toggle_142 : decode cX4_toggle 142 = .ok (.iload_n 3, 1) := by decide +kernel
theorem dX4_toggle_143 : decode cX4_toggle 143 = .ok (.iload 5, 2) := by decide +kernel
theorem dX4_toggle_145 : decode cX4_toggle 145 = .ok (.iadd, 1) := by decide +kernel
theorem dX4_toggle_146 : decode cX4_toggle 146 = .ok (.iload 4, 2) := by decide +kernel
theorem dX4_toggle_148 : decode cX4_toggle 148 = .ok (.iconst 1, 1) := by decide +kernel
theorem dX4_toggle_149 : decode cX4_toggle 149 = .ok (.isub, 1) := by decide +kernel
theorem dX4_toggle_150 : decode cX4_toggle 150 = .ok (.iload 5, 2) := by decide +kernel
theorem dX4_toggle_152 : decode cX4_toggle 152 = .ok (.isub, 1) := by decide +kernel
theorem dX4_toggle_153 : decode cX4_toggle 153 = .ok (.invokestatic 86, 3) := by decide +kernel
theorem dX4_toggle_156 : decode cX4_toggle 156 = .ok (.aload_n 0, 1) := by decide +kernel
theorem dX4_toggle_157 : decode cX4_toggle 157 = .ok (.getfield 32, 3) := by decide +kernel
theorem dX4_toggle_160 : decode cX4_toggle 160 = .ok (.iload_n 1, 1) := by decide +kernel
theorem dX4_toggle_161 : decode cX4_toggle 161 = .ok (.dup2, 1) := by decide +kernel
theorem dX4_toggle_162 : decode cX4_toggle 162 = .ok (.iaload, 1) := by decide +kernel
theorem dX4_toggle_163 : decode cX4_toggle 163 = .ok (.iconst 1, 1) := by decide +kernel
theorem dX4_toggle_164 : decode cX4_toggle 164 = .ok (.isub, 1) := by decide +kernel
theorem dX4_toggle_165 : decode cX4_toggle 165 = .ok (.iastore, 1) := by decide +kernel
theorem dX4_toggle_166 : decode cX4_toggle 166 = .ok (.goto 49, 3) := by decide +kernel
theorem dX4_toggle_169 : decode cX4_toggle 169 = .ok (.aload_n 0, 1) := by decide +kernel
theorem dX4_toggle_170 : decode cX4_toggle 170 = .ok (.getfield 35, 3) := by decide +kernel
theorem dX4_toggle_173 : decode cX4_toggle 173 = .ok (.iload_n 3, 1) := by decide +kernel
theorem dX4_toggle_174 : decode cX4_toggle 174 = .ok (.iload 5, 2) := by decide +kernel
theorem dX4_toggle_176 : decode cX4_toggle 176 = .ok (.iadd, 1) := by decide +kernel
theorem dX4_toggle_177 : decode cX4_toggle 177 = .ok (.aload_n 0, 1) := by decide +kernel
theorem dX4_toggle_178 : decode cX4_toggle 178 = .ok (.getfield 35, 3) := by decide +kernel
theorem dX4_toggle_181 : decode cX4_toggle 181 = .ok (.iload_n 3, 1) := by decide +kernel
theorem dX4_toggle_182 : decode cX4_toggle 182 = .ok (.iload 5, 2) := by decide +kernel
theorem dX4_toggle_184 : decode cX4_toggle 184 = .ok (.iadd, 1) := by decide +kernel
theorem dX4_toggle_185 : decode cX4_toggle 185 = .ok (.iconst 1, 1) := by decide +kernel
theorem dX4_toggle_186 : decode cX4_toggle 186 = .ok (.iadd, 1) := by decide +kernel
theorem dX4_toggle_187 : decode cX4_toggle 187 = .ok (.iload 4, 2) := by decide +kernel
theorem dX4_toggle_189 : decode cX4_toggle 189 = .ok (.iload 5, 2) := by decide +kernel
theorem dX4_toggle_191 : decode cX4_toggle 191 = .ok (.isub, 1) := by decide +kernel
theorem dX4_toggle_192 : decode cX4_toggle 192 = .ok (.invokestatic 86, 3) := by decide +kernel
theorem dX4_toggle_195 : decode cX4_toggle 195 = .ok (.aload_n 0, 1) := by decide +kernel
theorem dX4_toggle_196 : decode cX4_toggle 196 = .ok (.getfield 35, 3) := by decide +kernel
theorem dX4_toggle_199 : decode cX4_toggle 199 = .ok (.iload_n 3, 1) := by decide +kernel
theorem dX4_toggle_200 : decode cX4_toggle 200 = .ok (.iload 5, 2) := by decide +kernel
theorem dX4_toggle_202 : decode cX4_toggle 202 = .ok (.iadd, 1) := by decide +kernel
theorem dX4_toggle_203 : decode cX4_toggle 203 = .ok (.iload_n 2, 1) := by decide +kernel
theorem dX4_toggle_204 : decode cX4_toggle 204 = .ok (.iastore, 1) := by decide +kernel
theorem dX4_toggle_205 : decode cX4_toggle 205 = .ok (.aload_n 0, 1) := by decide +kernel
theorem dX4_toggle_206 : decode cX4_toggle 206 = .ok (.getfield 32, 3) := by decide +kernel
theorem dX4_toggle_209 : decode cX4_toggle 209 = .ok (.iload_n 1, 1) := by decide +kernel
theorem dX4_toggle_210 : decode cX4_toggle 210 = .ok (.dup2, 1) := by decide +kernel
theorem dX4_toggle_211 : decode cX4_toggle 211 = .ok (.iaload, 1) := by decide +kernel
theorem dX4_toggle_212 : decode cX4_toggle 212 = .ok (.iconst 1, 1) := by decide +kernel
theorem dX4_toggle_213 : decode cX4_toggle 213 = .ok (.iadd, 1) := by decide +kernel
theorem dX4_toggle_214 : decode cX4_toggle 214 = .ok (.iastore, 1) := by decide +kernel
theorem dX4_toggle_215 : decode cX4_toggle 215 = .ok (.aload_n 0, 1) := by decide +kernel
theorem dX4_toggle_216 : decode cX4_toggle 216 = .ok (.getfield 32, 3) := by decide +kernel
theorem dX4_toggle_219 : decode cX4_toggle 219 = .ok (.iload_n 1, 1) := by decide +kernel
theorem dX4_toggle_220 : decode cX4_toggle 220 = .ok (.iaload, 1) := by decide +kernel
theorem dX4_toggle_221 : decode cX4_toggle 221 = .ok (.ireturn, 1) := by decide +kernel
theorem dX4_counted_0 : decode cX4_counted 0 = .ok (.iconst 0, 1) := by decide +kernel
theorem dX4_counted_1 : decode cX4_counted 1 = .ok (.istore_n 2, 1) := by decide +kernel
theorem dX4_counted_2 : decode cX4_counted 2 = .ok (.iload_n 1, 1) := by decide +kernel
theorem dX4_counted_3 : decode cX4_counted 3 = .ok (.ifCond .ne 8, 3) := by decide +kernel
theorem dX4_counted_6 : decode cX4_counted 6 = .ok (.aload_n 0, 1) := by decide +kernel
theorem dX4_counted_7 : decode cX4_counted 7 = .ok (.getfield 61, 3) := by decide +kernel
theorem dX4_counted_10 : decode cX4_counted 10 = .ok (.ireturn, 1) := by decide +kernel
theorem dX4_counted_11 : decode cX4_counted 11 = .ok (.iload_n 1, 1) := by decide +kernel
theorem dX4_counted_12 : decode cX4_counted 12 = .ok (.iconst 1, 1) := by decide +kernel
theorem dX4_counted_13 : decode cX4_counted 13 = .ok (.if_icmp .ne 8, 3) := by decide +kernel
theorem dX4_counted_16 : decode cX4_counted 16 = .ok (.aload_n 0, 1) := by decide +kernel
theorem dX4_counted_17 : decode cX4_counted 17 = .ok (.getfield 68, 3) := by decide +kernel
theorem dX4_counted_20 : decode cX4_counted 20 = .ok (.ireturn, 1) := by decide +kernel
theorem dX4_counted_21 : decode cX4_counted 21 = .ok (.iload_n 1, 1) := by decide +kernel
theorem dX4_counted_22 : decode cX4_counted 22 = .ok (.iconst 2, 1) := by decide +kernel
theorem dX4_counted_23 : decode cX4_counted 23 = .ok (.if_icmp .ne 39, 3) := by decide +kernel
theorem dX4_counted_26 : decode cX4_counted 26 = .ok (.iconst 0, 1) := by decide +kernel
theorem dX4_counted_27 : decode cX4_counted 27 = .ok (.istore_n 3, 1) := by decide +kernel
theorem dX4_counted_28 : decode cX4_counted 28 = .ok (.iload_n 3, 1) := by decide +kernel
theorem dX4_counted_29 : decode cX4_counted 29 = .ok (.aload_n 0, 1) := by decide +kernel
theorem dX4_counted_30 : decode cX4_counted 30 = .ok (.getfield 61, 3) := by decide +kernel
theorem dX4_counted_33 : decode cX4_counted 33 = .ok (.if_icmp .ge 26, 3) := by decide +kernel
theorem dX4_counted_36 : decode cX4_counted 36 = .ok (.iload_n 2, 1) := by decide +kernel
theorem dX4_counted_37 : decode cX4_counted 37 = .ok (.aload_n 0, 1) := by decide +kernel
theorem dX4_counted_38 : decode cX4_counted 38 = .ok (.getfield 9, 3) := by decide +kernel
theorem dX4_counted_41 : decode cX4_counted 41 = .ok (.iload_n 3, 1) := by decide +kernel
theorem dX4_counted_42 : decode cX4_counted 42 = .ok (.baload, 1) := by decide +kernel
theorem dX4_counted_43 : decode cX4_counted 43 = .ok (.ifCond .eq 7, 3) := by decide +kernel
theorem dX4_counted_46 : decode cX4_counted 46 = .ok (.iconst 1, 1) := by decide +kernel
theorem dX4_counted_47 : decode cX4_counted 47 = .ok (.goto 4, 3) := by decide +kernel
theorem dX4_counted_50 : decode cX4_counted 50 = .ok (.iconst 0, 1) := by decide +kernel
theorem dX4_counted_51 : decode cX4_counted 51 = .ok (.iadd, 1) := by decide +kernel
theorem dX4_counted_52 : decode cX4_counted 52 = .ok (.istore_n 2, 1) := by decide +kernel
theorem dX4_counted_53 : decode cX4_counted 53 = .ok (.iinc 3 1, 3) := by decide +kernel
theorem dX4_counted_56 : decode cX4_counted 56 = .ok (.goto (-28), 3) := by decide +kernel
theorem dX4_counted_59 : decode cX4_counted 59 = .ok (.goto 28, 3) := by decide +kernel
theorem dX4_counted_62 : decode cX4_counted 62 = .ok (.iconst 0, 1) := by decide +kernel
theorem dX4_counted_63 : decode cX4_counted 63 = .ok (.istore_n 3, 1) := by decide +kernel
theorem dX4_counted_64 : decode cX4_counted 64 = .ok (.iload_n 3, 1) := by decide +kernel
theorem dX4_counted_65 : decode cX4_counted 65 = .ok (.aload_n 0, 1) := by decide +kernel
theorem dX4_counted_66 : decode cX4_counted 66 = .ok (.getfield 68, 3) := by decide +kernel
theorem dX4_counted_69 : decode cX4_counted 69 = .ok (.if_icmp .ge 18, 3) := by decide +kernel
theorem dX4_counted_72 : decode cX4_counted 72 = .ok (.iload_n 2, 1) := by decide +kernel
theorem dX4_counted_73 : decode cX4_counted 73 = .ok (.aload_n 0, 1) := by decide +kernel
theorem dX4_counted_74 : decode cX4_counted 74 = .ok (.getfield 32, 3) := by decide +kernel
theorem dX4_counted_77 : decode cX4_counted 77 = .ok (.iload_n 3, 1) := by decide +kernel
theorem dX4_counted_78 : decode cX4_counted 78 = .ok (.iaload, 1) := by decide +kernel
theorem dX4_counted_79 : decode cX4_counted 79 = .ok (.iadd, 1) := by decide +kernel
theorem dX4_counted_80 : decode cX4_counted 80 = .ok (.istore_n 2, 1) := by decide +kernel
theorem dX4_counted_81 : decode cX4_counted 81 = .ok (.iinc 3 1, 3) := by decide +kernel
theorem dX4_counted_84 : decode cX4_counted 84 = .ok (.goto (-20), 3) := by decide +kernel
theorem dX4_counted_87 : decode cX4_counted 87 = .ok (.iload_n 2, 1) := by decide +kernel
theorem dX4_counted_88 : decode cX4_counted 88 = .ok (.ireturn, 1) := by decide +kernel
theorem dX4_count_0 : decode cX4_count 0 = .ok (.aload_n 0, 1) := by decide +kernel
theorem dX4_count_1 : decode cX4_count 1 = .ok (.iconst 0, 1) := by decide +kernel
theorem dX4_count_2 : decode cX4_count 2 = .ok (.putfield 57, 3) := by decide +kernel
theorem dX4_count_5 : decode cX4_count 5 = .ok (.iload_n 1, 1) := by decide +kernel
theorem dX4_count_6 : decode cX4_count 6 = .ok (.iconst 0, 1) := by decide +kernel
theorem dX4_count_7 : decode cX4_count 7 = .ok (.iconst 3, 1) := by decide +kernel
theorem dX4_count_8 : decode cX4_count 8 = .ok (.invokestatic 64, 3) := by decide +kernel
theorem dX4_count_11 : decode cX4_count 11 = .ok (.ifCond .eq 11, 3) := by decide +kernel
theorem dX4_count_14 : decode cX4_count 14 = .ok (.aload_n 0, 1) := by decide +kernel
theorem dX4_count_15 : decode cX4_count 15 = .ok (.iload_n 1, 1) := by decide +kernel
theorem dX4_count_16 : decode cX4_count 16 = .ok (.invokevirtual 92, 3) := by decide +kernel
theorem dX4_count_19 : decode cX4_count 19 = .ok (.goto 8, 3) := by decide +kernel
theorem dX4_count_22 : decode cX4_count 22 = .ok (.aload_n 0, 1) := by decide +kernel
theorem dX4_count_23 : decode cX4_count 23 = .ok (.iconst 1, 1) := by decide +kernel
theorem dX4_count_24 : decode cX4_count 24 = .ok (.invokevirtual 71, 3) := by decide +kernel
theorem dX4_count_27 : decode cX4_count 27 = .ok (.ireturn, 1) := by decide +kernel
theorem dX4_elementTold_0 : decode cX4_elementTold 0 = .ok (.iload_n 2, 1) := by decide +kernel
theorem dX4_elementTold_1 : decode cX4_elementTold 1 = .ok (.tableswitch 86 0 4 #[35, 50, 57, 64, 71], 35) := by decide +kernel
theorem dX4_elementTold_36 : decode cX4_elementTold 36 = .ok (.aload_n 0, 1) := by decide +kernel
theorem dX4_elementTold_37 : decode cX4_elementTold 37 = .ok (.getfield 17, 3) := by decide +kernel
theorem dX4_elementTold_40 : decode cX4_elementTold 40 = .ok (.iload_n 1, 1) := by decide +kernel
theorem dX4_elementTold_41 : decode cX4_elementTold 41 = .ok (.baload, 1) := by decide +kernel
theorem dX4_elementTold_42 : decode cX4_elementTold 42 = .ok (.ifCond .eq 7, 3) := by decide +kernel
theorem dX4_elementTold_45 : decode cX4_elementTold 45 = .ok (.iconst 1, 1) := by decide +kernel
theorem dX4_elementTold_46 : decode cX4_elementTold 46 = .ok (.goto 4, 3) := by decide +kernel
theorem dX4_elementTold_49 : decode cX4_elementTold 49 = .ok (.iconst 0, 1) := by decide +kernel
theorem dX4_elementTold_50 : decode cX4_elementTold 50 = .ok (.ireturn, 1) := by decide +kernel
theorem dX4_elementTold_51 : decode cX4_elementTold 51 = .ok (.aload_n 0, 1) := by decide +kernel
theorem dX4_elementTold_52 : decode cX4_elementTold 52 = .ok (.getfield 20, 3) := by decide +kernel
theorem dX4_elementTold_55 : decode cX4_elementTold 55 = .ok (.iload_n 1, 1) := by decide +kernel
theorem dX4_elementTold_56 : decode cX4_elementTold 56 = .ok (.iaload, 1) := by decide +kernel
theorem dX4_elementTold_57 : decode cX4_elementTold 57 = .ok (.ireturn, 1) := by decide +kernel
theorem dX4_elementTold_58 : decode cX4_elementTold 58 = .ok (.aload_n 0, 1) := by decide +kernel
theorem dX4_elementTold_59 : decode cX4_elementTold 59 = .ok (.getfield 23, 3) := by decide +kernel
theorem dX4_elementTold_62 : decode cX4_elementTold 62 = .ok (.iload_n 1, 1) := by decide +kernel
theorem dX4_elementTold_63 : decode cX4_elementTold 63 = .ok (.iaload, 1) := by decide +kernel
theorem dX4_elementTold_64 : decode cX4_elementTold 64 = .ok (.ireturn, 1) := by decide +kernel
theorem dX4_elementTold_65 : decode cX4_elementTold 65 = .ok (.aload_n 0, 1) := by decide +kernel
theorem dX4_elementTold_66 : decode cX4_elementTold 66 = .ok (.getfield 26, 3) := by decide +kernel
theorem dX4_elementTold_69 : decode cX4_elementTold 69 = .ok (.iload_n 1, 1) := by decide +kernel
theorem dX4_elementTold_70 : decode cX4_elementTold 70 = .ok (.iaload, 1) := by decide +kernel
theorem dX4_elementTold_71 : decode cX4_elementTold 71 = .ok (.ireturn, 1) := by decide +kernel
theorem dX4_elementTold_72 : decode cX4_elementTold 72 = .ok (.aload_n 0, 1) := by decide +kernel
theorem dX4_elementTold_73 : decode cX4_elementTold 73 = .ok (.getfield 29, 3) := by decide +kernel
theorem dX4_elementTold_76 : decode cX4_elementTold 76 = .ok (.iload_n 1, 1) := by decide +kernel
theorem dX4_elementTold_77 : decode cX4_elementTold 77 = .ok (.baload, 1) := by decide +kernel
theorem dX4_elementTold_78 : decode cX4_elementTold 78 = .ok (.ifCond .eq 7, 3) := by decide +kernel
theorem dX4_elementTold_81 : decode cX4_elementTold 81 = .ok (.iconst 1, 1) := by decide +kernel
theorem dX4_elementTold_82 : decode cX4_elementTold 82 = .ok (.goto 4, 3) := by decide +kernel
theorem dX4_elementTold_85 : decode cX4_elementTold 85 = .ok (.iconst 0, 1) := by decide +kernel
theorem dX4_elementTold_86 : decode cX4_elementTold 86 = .ok (.ireturn, 1) := by decide +kernel
theorem dX4_elementTold_87 : decode cX4_elementTold 87 = .ok (.aload_n 0, 1) := by decide +kernel
theorem dX4_elementTold_88 : decode cX4_elementTold 88 = .ok (.getfield 32, 3) := by decide +kernel
theorem dX4_elementTold_91 : decode cX4_elementTold 91 = .ok (.iload_n 1, 1) := by decide +kernel
theorem dX4_elementTold_92 : decode cX4_elementTold 92 = .ok (.iaload, 1) := by decide +kernel
theorem dX4_elementTold_93 : decode cX4_elementTold 93 = .ok (.ireturn, 1) := by decide +kernel
theorem dX4_element_0 : decode cX4_element 0 = .ok (.aload_n 0, 1) := by decide +kernel
theorem dX4_element_1 : decode cX4_element 1 = .ok (.iconst 0, 1) := by decide +kernel
theorem dX4_element_2 : decode cX4_element 2 = .ok (.putfield 57, 3) := by decide +kernel
theorem dX4_element_5 : decode cX4_element 5 = .ok (.aload_n 0, 1) := by decide +kernel
theorem dX4_element_6 : decode cX4_element 6 = .ok (.iload_n 1, 1) := by decide +kernel
theorem dX4_element_7 : decode cX4_element 7 = .ok (.invokevirtual 83, 3) := by decide +kernel
theorem dX4_element_10 : decode cX4_element 10 = .ok (.ifCond .eq 21, 3) := by decide +kernel
theorem dX4_element_13 : decode cX4_element 13 = .ok (.iload_n 2, 1) := by decide +kernel
theorem dX4_element_14 : decode cX4_element 14 = .ok (.iconst 0, 1) := by decide +kernel
theorem dX4_element_15 : decode cX4_element 15 = .ok (.iconst 5, 1) := by decide +kernel
theorem dX4_element_16 : decode cX4_element 16 = .ok (.invokestatic 64, 3) := by decide +kernel
theorem dX4_element_19 : decode cX4_element 19 = .ok (.ifCond .eq 12, 3) := by decide +kernel
theorem dX4_element_22 : decode cX4_element 22 = .ok (.aload_n 0, 1) := by decide +kernel
theorem dX4_element_23 : decode cX4_element 23 = .ok (.iload_n 1, 1) := by decide +kernel
theorem dX4_element_24 : decode cX4_element 24 = .ok (.iload_n 2, 1) := by decide +kernel
theorem dX4_element_25 : decode cX4_element 25 = .ok (.invokevirtual 95, 3) := by decide +kernel
theorem dX4_element_28 : decode cX4_element 28 = .ok (.goto 8, 3) := by decide +kernel
theorem dX4_element_31 : decode cX4_element 31 = .ok (.aload_n 0, 1) := by decide +kernel
theorem dX4_element_32 : decode cX4_element 32 = .ok (.iconst 1, 1) := by decide +kernel
theorem dX4_element_33 : decode cX4_element 33 = .ok (.invokevirtual 71, 3) := by decide +kernel
theorem dX4_element_36 : decode cX4_element 36 = .ok (.ireturn, 1) := by decide +kernel
theorem dX4_toggleAt_0 : decode cX4_toggleAt 0 = .ok (.aload_n 0, 1) := by decide +kernel
theorem dX4_toggleAt_1 : decode cX4_toggleAt 1 = .ok (.iconst 0, 1) := by decide +kernel
theorem dX4_toggleAt_2 : decode cX4_toggleAt 2 = .ok (.putfield 57, 3) := by decide +kernel
theorem dX4_toggleAt_5 : decode cX4_toggleAt 5 = .ok (.aload_n 0, 1) := by decide +kernel
theorem dX4_toggleAt_6 : decode cX4_toggleAt 6 = .ok (.iload_n 1, 1) := by decide +kernel
theorem dX4_toggleAt_7 : decode cX4_toggleAt 7 = .ok (.invokevirtual 83, 3) := by decide +kernel
theorem dX4_toggleAt_10 : decode cX4_toggleAt 10 = .ok (.ifCond .eq 33, 3) := by decide +kernel
theorem dX4_toggleAt_13 : decode cX4_toggleAt 13 = .ok (.iload_n 2, 1) := by decide +kernel
theorem dX4_toggleAt_14 : decode cX4_toggleAt 14 = .ok (.iconst 0, 1) := by decide +kernel
theorem dX4_toggleAt_15 : decode cX4_toggleAt 15 = .ok (.aload_n 0, 1) := by decide +kernel
theorem dX4_toggleAt_16 : decode cX4_toggleAt 16 = .ok (.getfield 32, 3) := by decide +kernel
theorem dX4_toggleAt_19 : decode cX4_toggleAt 19 = .ok (.iload_n 1, 1) := by decide +kernel
theorem dX4_toggleAt_20 : decode cX4_toggleAt 20 = .ok (.iaload, 1) := by decide +kernel
theorem dX4_toggleAt_21 : decode cX4_toggleAt 21 = .ok (.iconst 1, 1) := by decide +kernel
theorem dX4_toggleAt_22 : decode cX4_toggleAt 22 = .ok (.isub, 1) := by decide +kernel
theorem dX4_toggleAt_23 : decode cX4_toggleAt 23 = .ok (.invokestatic 64, 3) := by decide +kernel
theorem dX4_toggleAt_26 : decode cX4_toggleAt 26 = .ok (.ifCond .eq 17, 3) := by decide +kernel
theorem dX4_toggleAt_29 : decode cX4_toggleAt 29 = .ok (.aload_n 0, 1) := by decide +kernel
theorem dX4_toggleAt_30 : decode cX4_toggleAt 30 = .ok (.getfield 35, 3) := by decide +kernel
theorem dX4_toggleAt_33 : decode cX4_toggleAt 33 = .ok (.bipush 6, 2) := by decide +kernel
theorem dX4_toggleAt_35 : decode cX4_toggleAt 35 = .ok (.iload_n 1, 1) := by decide +kernel
theorem dX4_toggleAt_36 : decode cX4_toggleAt 36 = .ok (.imul, 1) := by decide +kernel
theorem dX4_toggleAt_37 : decode cX4_toggleAt 37 = .ok (.iload_n 2, 1) := by decide +kernel
theorem dX4_toggleAt_38 : decode cX4_toggleAt 38 = .ok (.iadd, 1) := by decide +kernel
theorem dX4_toggleAt_39 : decode cX4_toggleAt 39 = .ok (.iaload, 1) := by decide +kernel
theorem dX4_toggleAt_40 : decode cX4_toggleAt 40 = .ok (.goto 8, 3) := by decide +kernel
theorem dX4_toggleAt_43 : decode cX4_toggleAt 43 = .ok (.aload_n 0, 1) := by decide +kernel
theorem dX4_toggleAt_44 : decode cX4_toggleAt 44 = .ok (.iconst 1, 1) := by decide +kernel
theorem dX4_toggleAt_45 : decode cX4_toggleAt 45 = .ok (.invokevirtual 71, 3) := by decide +kernel
theorem dX4_toggleAt_48 : decode cX4_toggleAt 48 = .ok (.ireturn, 1) := by decide +kernel
theorem dX4_isOnAt_0 : decode cX4_isOnAt 0 = .ok (.aload_n 0, 1) := by decide +kernel
theorem dX4_isOnAt_1 : decode cX4_isOnAt 1 = .ok (.getfield 29, 3) := by decide +kernel
theorem dX4_isOnAt_4 : decode cX4_isOnAt 4 = .ok (.iload_n 1, 1) := by decide +kernel
theorem dX4_isOnAt_5 : decode cX4_isOnAt 5 = .ok (.baload, 1) := by decide +kernel
theorem dX4_isOnAt_6 : decode cX4_isOnAt 6 = .ok (.istore_n 3, 1) := by decide +kernel
theorem dX4_isOnAt_7 : decode cX4_isOnAt 7 = .ok (.iconst 0, 1) := by decide +kernel
theorem dX4_isOnAt_8 : decode cX4_isOnAt 8 = .ok (.istore 4, 2) := by decide +kernel
theorem dX4_isOnAt_10 : decode cX4_isOnAt 10 = .ok (.iload 4, 2) := by decide +kernel
theorem dX4_isOnAt_12 : decode cX4_isOnAt 12 = .ok (.aload_n 0, 1) := by decide +kernel
theorem dX4_isOnAt_13 : decode cX4_isOnAt 13 = .ok (.getfield 32, 3) := by decide +kernel
theorem dX4_isOnAt_16 : decode cX4_isOnAt 16 = .ok (.iload_n 1, 1) := by decide +kernel
theorem dX4_isOnAt_17 : decode cX4_isOnAt 17 = .ok (.iaload, 1) := by decide +kernel
theorem dX4_isOnAt_18 : decode cX4_isOnAt 18 = .ok (.if_icmp .ge 40, 3) := by decide +kernel
theorem dX4_isOnAt_21 : decode cX4_isOnAt 21 = .ok (.iload_n 3, 1) := by decide +kernel
theorem dX4_isOnAt_22 : decode cX4_isOnAt 22 = .ok (.aload_n 0, 1) := by decide +kernel
theorem dX4_isOnAt_23 : decode cX4_isOnAt 23 = .ok (.getfield 35, 3) := by decide +kernel
theorem dX4_isOnAt_26 : decode cX4_isOnAt 26 = .ok (.bipush 6, 2) := by decide +kernel
theorem dX4_isOnAt_28 : decode cX4_isOnAt 28 = .ok (.iload_n 1, 1) := by decide +kernel
theorem dX4_isOnAt_29 : decode cX4_isOnAt 29 = .ok (.imul, 1) := by decide +kernel
theorem dX4_isOnAt_30 : decode cX4_isOnAt 30 = .ok (.iload 4, 2) := by decide +kernel
theorem dX4_isOnAt_32 : decode cX4_isOnAt 32 = .ok (.iadd, 1) := by decide +kernel
theorem dX4_isOnAt_33 : decode cX4_isOnAt 33 = .ok (.iaload, 1) := by decide +kernel
theorem dX4_isOnAt_34 : decode cX4_isOnAt 34 = .ok (.iload_n 2, 1) := by decide +kernel
theorem dX4_isOnAt_35 : decode cX4_isOnAt 35 = .ok (.if_icmp .gt 7, 3) := by decide +kernel
theorem dX4_isOnAt_38 : decode cX4_isOnAt 38 = .ok (.iconst 1, 1) := by decide +kernel
theorem dX4_isOnAt_39 : decode cX4_isOnAt 39 = .ok (.goto 4, 3) := by decide +kernel
theorem dX4_isOnAt_42 : decode cX4_isOnAt 42 = .ok (.iconst 0, 1) := by decide +kernel
theorem dX4_isOnAt_43 : decode cX4_isOnAt 43 = .ok (.if_icmp .eq 7, 3) := by decide +kernel
theorem dX4_isOnAt_46 : decode cX4_isOnAt 46 = .ok (.iconst 1, 1) := by decide +kernel
theorem dX4_isOnAt_47 : decode cX4_isOnAt 47 = .ok (.goto 4, 3) := by decide +kernel
theorem dX4_isOnAt_50 : decode cX4_isOnAt 50 = .ok (.iconst 0, 1) := by decide +kernel
theorem dX4_isOnAt_51 : decode cX4_isOnAt 51 = .ok (.istore_n 3, 1) := by decide +kernel
theorem dX4_isOnAt_52 : decode cX4_isOnAt 52 = .ok (.iinc 4 1, 3) := by decide +kernel
theorem dX4_isOnAt_55 : decode cX4_isOnAt 55 = .ok (.goto (-45), 3) := by decide +kernel
theorem dX4_isOnAt_58 : decode cX4_isOnAt 58 = .ok (.iload_n 3, 1) := by decide +kernel
theorem dX4_isOnAt_59 : decode cX4_isOnAt 59 = .ok (.ireturn, 1) := by decide +kernel
theorem dX4_conducts_0 : decode cX4_conducts 0 = .ok (.aload_n 0, 1) := by decide +kernel
theorem dX4_conducts_1 : decode cX4_conducts 1 = .ok (.getfield 17, 3) := by decide +kernel
theorem dX4_conducts_4 : decode cX4_conducts 4 = .ok (.iload_n 1, 1) := by decide +kernel
theorem dX4_conducts_5 : decode cX4_conducts 5 = .ok (.baload, 1) := by decide +kernel
theorem dX4_conducts_6 : decode cX4_conducts 6 = .ok (.ifCond .ne 16, 3) := by decide +kernel
theorem dX4_conducts_9 : decode cX4_conducts 9 = .ok (.aload_n 0, 1) := by decide +kernel
theorem dX4_conducts_10 : decode cX4_conducts 10 = .ok (.iload_n 1, 1) := by decide +kernel
theorem dX4_conducts_11 : decode cX4_conducts 11 = .ok (.iload_n 2, 1) := by decide +kernel
theorem dX4_conducts_12 : decode cX4_conducts 12 = .ok (.invokevirtual 99, 3) := by decide +kernel
theorem dX4_conducts_15 : decode cX4_conducts 15 = .ok (.ifCond .eq 7, 3) := by decide +kernel
theorem dX4_conducts_18 : decode cX4_conducts 18 = .ok (.iconst 1, 1) := by decide +kernel
theorem dX4_conducts_19 : decode cX4_conducts 19 = .ok (.goto 4, 3) := by decide +kernel
theorem dX4_conducts_22 : decode cX4_conducts 22 = .ok (.iconst 0, 1) := by decide +kernel
theorem dX4_conducts_23 : decode cX4_conducts 23 = .ok (.ireturn, 1) := by decide +kernel
theorem dX4_isOn_0 : decode cX4_isOn 0 = .ok (.aload_n 0, 1) := by decide +kernel
theorem dX4_isOn_1 : decode cX4_isOn 1 = .ok (.aload_n 0, 1) := by decide +kernel
theorem dX4_isOn_2 : decode cX4_isOn 2 = .ok (.iload_n 1, 1) := by decide +kernel
theorem dX4_isOn_3 : decode cX4_isOn 3 = .ok (.invokevirtual 83, 3) := by decide +kernel
theorem dX4_isOn_6 : decode cX4_isOn 6 = .ok (.ifCond .ne 7, 3) := by decide +kernel
theorem dX4_isOn_9 : decode cX4_isOn 9 = .ok (.iconst 1, 1) := by decide +kernel
theorem dX4_isOn_10 : decode cX4_isOn 10 = .ok (.goto 15, 3) := by decide +kernel
theorem dX4_isOn_13 : decode cX4_isOn 13 = .ok (.iload_n 2, 1) := by decide +kernel
theorem dX4_isOn_14 : decode cX4_isOn 14 = .ok (.invokestatic 103, 3) := by decide +kernel
theorem dX4_isOn_17 : decode cX4_isOn 17 = .ok (.ifCond .eq 7, 3) := by decide +kernel
theorem dX4_isOn_20 : decode cX4_isOn 20 = .ok (.iconst 0, 1) := by decide +kernel
theorem dX4_isOn_21 : decode cX4_isOn 21 = .ok (.goto 4, 3) := by decide +kernel
theorem dX4_isOn_24 : decode cX4_isOn 24 = .ok (.iconst 2, 1) := by decide +kernel
theorem dX4_isOn_25 : decode cX4_isOn 25 = .ok (.putfield 57, 3) := by decide +kernel
theorem dX4_isOn_28 : decode cX4_isOn 28 = .ok (.aload_n 0, 1) := by decide +kernel
theorem dX4_isOn_29 : decode cX4_isOn 29 = .ok (.getfield 57, 3) := by decide +kernel
theorem dX4_isOn_32 : decode cX4_isOn 32 = .ok (.ifCond .ne 16, 3) := by decide +kernel
theorem dX4_isOn_35 : decode cX4_isOn 35 = .ok (.aload_n 0, 1) := by decide +kernel
theorem dX4_isOn_36 : decode cX4_isOn 36 = .ok (.iload_n 1, 1) := by decide +kernel
theorem dX4_isOn_37 : decode cX4_isOn 37 = .ok (.iload_n 2, 1) := by decide +kernel
theorem dX4_isOn_38 : decode cX4_isOn 38 = .ok (.invokevirtual 99, 3) := by decide +kernel
theorem dX4_isOn_41 : decode cX4_isOn 41 = .ok (.ifCond .eq 7, 3) := by decide +kernel
theorem dX4_isOn_44 : decode cX4_isOn 44 = .ok (.iconst 1, 1) := by decide +kernel
theorem dX4_isOn_45 : decode cX4_isOn 45 = .ok (.goto 4, 3) := by decide +kernel
theorem dX4_isOn_48 : decode cX4_isOn 48 = .ok (.iconst 0, 1) := by decide +kernel
theorem dX4_isOn_49 : decode cX4_isOn 49 = .ok (.ireturn, 1) := by decide +kernel
theorem dX4_group_0 : decode cX4_group 0 = .ok (.iconst 1, 1) := by decide +kernel
theorem dX4_group_1 : decode cX4_group 1 = .ok (.iload_n 1, 1) := by decide +kernel
theorem dX4_group_2 : decode cX4_group 2 = .ok (.ishl, 1) := by decide +kernel
theorem dX4_group_3 : decode cX4_group 3 = .ok (.istore_n 3, 1) := by decide +kernel
theorem dX4_group_4 : decode cX4_group 4 = .ok (.iconst 0, 1) := by decide +kernel
theorem dX4_group_5 : decode cX4_group 5 = .ok (.istore 4, 2) := by decide +kernel
theorem dX4_group_7 : decode cX4_group 7 = .ok (.iload_n 3, 1) := by decide +kernel
theorem dX4_group_8 : decode cX4_group 8 = .ok (.iload 4, 2) := by decide +kernel
theorem dX4_group_10 : decode cX4_group 10 = .ok (.if_icmp .eq 84, 3) := by decide +kernel
theorem dX4_group_13 : decode cX4_group 13 = .ok (.iload_n 3, 1) := by decide +kernel
theorem dX4_group_14 : decode cX4_group 14 = .ok (.istore 4, 2) := by decide +kernel
theorem dX4_group_16 : decode cX4_group 16 = .ok (.iconst 0, 1) := by decide +kernel
theorem dX4_group_17 : decode cX4_group 17 = .ok (.istore 5, 2) := by decide +kernel
theorem dX4_group_19 : decode cX4_group 19 = .ok (.iload 5, 2) := by decide +kernel
theorem dX4_group_21 : decode cX4_group 21 = .ok (.aload_n 0, 1) := by decide +kernel
theorem dX4_group_22 : decode cX4_group 22 = .ok (.getfield 68, 3) := by decide +kernel
theorem dX4_group_25 : decode cX4_group 25 = .ok (.if_icmp .ge 66, 3) := by decide +kernel
theorem dX4_group_28 : decode cX4_group 28 = .ok (.aload_n 0, 1) := by decide +kernel
theorem dX4_group_29 : decode cX4_group 29 = .ok (.iload 5, 2) := by decide +kernel
theorem dX4_group_31 : decode cX4_group 31 = .ok (.iload_n 2, 1) := by decide +kernel
