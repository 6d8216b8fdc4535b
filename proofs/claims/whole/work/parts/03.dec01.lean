theorem dX3_feed_60 : decode cX3_feed 60 = .ok (.getfield 16, 3) := by decide +kernel
theorem dX3_feed_63 : decode cX3_feed 63 = .ok (.iload 6, 2) := by decide +kernel
theorem dX3_feed_65 : decode cX3_feed 65 = .ok (.invokevirtual 57, 3) := by decide +kernel
theorem dX3_feed_68 : decode cX3_feed 68 = .ok (.checkcast 77, 3) := by decide +kernel
theorem dX3_feed_71 : decode cX3_feed 71 = .ok (.astore 7, 2) := by decide +kernel
theorem dX3_feed_73 : decode cX3_feed 73 = .ok (.aload 7, 2) := by decide +kernel
theorem dX3_feed_75 : decode cX3_feed 75 = .ok (.iload_n 2, 1) := by decide +kernel
theorem dX3_feed_76 : decode cX3_feed 76 = .ok (.invokevirtual 132, 3) := by decide +kernel
theorem dX3_feed_79 : decode cX3_feed 79 = .ok (.ifCond .eq 15, 3) := by decide +kernel
theorem dX3_feed_82 : decode cX3_feed 82 = .ok (.lload 4, 2) := by decide +kernel
theorem dX3_feed_84 : decode cX3_feed 84 = .ok (.aload_n 0, 1) := by decide +kernel
theorem dX3_feed_85 : decode cX3_feed 85 = .ok (.aload 7, 2) := by decide +kernel
theorem dX3_feed_87 : decode cX3_feed 87 = .ok (.iload_n 1, 1) := by decide +kernel
theorem dX3_feed_88 : decode cX3_feed 88 = .ok (.invokevirtual 162, 3) := by decide +kernel
theorem dX3_feed_91 : decode cX3_feed 91 = .ok (.ladd, 1) := by decide +kernel
theorem dX3_feed_92 : decode cX3_feed 92 = .ok (.lstore 4, 2) := by decide +kernel
theorem dX3_feed_94 : decode cX3_feed 94 = .ok (.iinc 6 1, 3) := by decide +kernel
theorem dX3_feed_97 : decode cX3_feed 97 = .ok (.goto (-50), 3) := by decide +kernel
theorem dX3_feed_100 : decode cX3_feed 100 = .ok (.lload 4, 2) := by decide +kernel
theorem dX3_feed_102 : decode cX3_feed 102 = .ok (.aload_n 0, 1) := by decide +kernel
theorem dX3_feed_103 : decode cX3_feed 103 = .ok (.getfield 26, 3) := by decide +kernel
theorem dX3_feed_106 : decode cX3_feed 106 = .ok (.invokevirtual 151, 3) := by decide +kernel
theorem dX3_feed_109 : decode cX3_feed 109 = .ok (.iload_n 3, 1) := by decide +kernel
theorem dX3_feed_110 : decode cX3_feed 110 = .ok (.invokestatic 155, 3) := by decide +kernel
theorem dX3_feed_113 : decode cX3_feed 113 = .ok (.lreturn, 1) := by decide +kernel
theorem dX3_resistance_0 : decode cX3_resistance 0 = .ok (.aload_n 0, 1) := by decide +kernel
theorem dX3_resistance_1 : decode cX3_resistance 1 = .ok (.iload_n 1, 1) := by decide +kernel
theorem dX3_resistance_2 : decode cX3_resistance 2 = .ok (.invokevirtual 48, 3) := by decide +kernel
theorem dX3_resistance_5 : decode cX3_resistance 5 = .ok (.aload_n 0, 1) := by decide +kernel
theorem dX3_resistance_6 : decode cX3_resistance 6 = .ok (.iload_n 2, 1) := by decide +kernel
theorem dX3_resistance_7 : decode cX3_resistance 7 = .ok (.invokevirtual 48, 3) := by decide +kernel
theorem dX3_resistance_10 : decode cX3_resistance 10 = .ok (.iload_n 3, 1) := by decide +kernel
theorem dX3_resistance_11 : decode cX3_resistance 11 = .ok (.invokestatic 129, 3) := by decide +kernel
theorem dX3_resistance_14 : decode cX3_resistance 14 = .ok (.aload_n 0, 1) := by decide +kernel
theorem dX3_resistance_15 : decode cX3_resistance 15 = .ok (.iload_n 3, 1) := by decide +kernel
theorem dX3_resistance_16 : decode cX3_resistance 16 = .ok (.invokevirtual 135, 3) := by decide +kernel
theorem dX3_resistance_19 : decode cX3_resistance 19 = .ok (.aload_n 0, 1) := by decide +kernel
theorem dX3_resistance_20 : decode cX3_resistance 20 = .ok (.getfield 19, 3) := by decide +kernel
theorem dX3_resistance_23 : decode cX3_resistance 23 = .ok (.iload_n 1, 1) := by decide +kernel
theorem dX3_resistance_24 : decode cX3_resistance 24 = .ok (.iaload, 1) := by decide +kernel
theorem dX3_resistance_25 : decode cX3_resistance 25 = .ok (.iload_n 2, 1) := by decide +kernel
theorem dX3_resistance_26 : decode cX3_resistance 26 = .ok (.invokestatic 168, 3) := by decide +kernel
theorem dX3_resistance_29 : decode cX3_resistance 29 = .ok (.ifCond .ne 13, 3) := by decide +kernel
theorem dX3_resistance_32 : decode cX3_resistance 32 = .ok (.new 34, 3) := by decide +kernel
theorem dX3_resistance_35 : decode cX3_resistance 35 = .ok (.dup, 1) := by decide +kernel
theorem dX3_resistance_36 : decode cX3_resistance 36 = .ok (.ldc 172, 2) := by decide +kernel
theorem dX3_resistance_38 : decode cX3_resistance 38 = .ok (.invokespecial 38, 3) := by decide +kernel
theorem dX3_resistance_41 : decode cX3_resistance 41 = .ok (.athrow, 1) := by decide +kernel
theorem dX3_resistance_42 : decode cX3_resistance 42 = .ok (.aload_n 0, 1) := by decide +kernel
theorem dX3_resistance_43 : decode cX3_resistance 43 = .ok (.iload_n 1, 1) := by decide +kernel
theorem dX3_resistance_44 : decode cX3_resistance 44 = .ok (.iload_n 2, 1) := by decide +kernel
theorem dX3_resistance_45 : decode cX3_resistance 45 = .ok (.iload_n 3, 1) := by decide +kernel
theorem dX3_resistance_46 : decode cX3_resistance 46 = .ok (.invokevirtual 174, 3) := by decide +kernel
theorem dX3_resistance_49 : decode cX3_resistance 49 = .ok (.aload_n 0, 1) := by decide +kernel
theorem dX3_resistance_50 : decode cX3_resistance 50 = .ok (.getfield 26, 3) := by decide +kernel
theorem dX3_resistance_53 : decode cX3_resistance 53 = .ok (.iload_n 1, 1) := by decide +kernel
theorem dX3_resistance_54 : decode cX3_resistance 54 = .ok (.invokevirtual 147, 3) := by decide +kernel
theorem dX3_resistance_57 : decode cX3_resistance 57 = .ok (.aload_n 0, 1) := by decide +kernel
theorem dX3_resistance_58 : decode cX3_resistance 58 = .ok (.getfield 26, 3) := by decide +kernel
theorem dX3_resistance_61 : decode cX3_resistance 61 = .ok (.invokevirtual 151, 3) := by decide +kernel
theorem dX3_resistance_64 : decode cX3_resistance 64 = .ok (.iload 4, 2) := by decide +kernel
theorem dX3_resistance_66 : decode cX3_resistance 66 = .ok (.invokestatic 155, 3) := by decide +kernel
theorem dX3_resistance_69 : decode cX3_resistance 69 = .ok (.lreturn, 1) := by decide +kernel
theorem dX3_power_0 : decode cX3_power 0 = .ok (.iload_n 1, 1) := by decide +kernel
theorem dX3_power_1 : decode cX3_power 1 = .ok (.invokestatic 129, 3) := by decide +kernel
theorem dX3_power_4 : decode cX3_power 4 = .ok (.aload_n 0, 1) := by decide +kernel
theorem dX3_power_5 : decode cX3_power 5 = .ok (.iload_n 1, 1) := by decide +kernel
theorem dX3_power_6 : decode cX3_power 6 = .ok (.invokevirtual 141, 3) := by decide +kernel
theorem dX3_power_9 : decode cX3_power 9 = .ok (.dconst 0, 1) := by decide +kernel
theorem dX3_power_10 : decode cX3_power 10 = .ok (.dstore_n 2, 1) := by decide +kernel
theorem dX3_power_11 : decode cX3_power 11 = .ok (.iconst 0, 1) := by decide +kernel
theorem dX3_power_12 : decode cX3_power 12 = .ok (.istore 4, 2) := by decide +kernel
theorem dX3_power_14 : decode cX3_power 14 = .ok (.iload 4, 2) := by decide +kernel
theorem dX3_power_16 : decode cX3_power 16 = .ok (.aload_n 0, 1) := by decide +kernel
theorem dX3_power_17 : decode cX3_power 17 = .ok (.getfield 16, 3) := by decide +kernel
theorem dX3_power_20 : decode cX3_power 20 = .ok (.invokevirtual 30, 3) := by decide +kernel
theorem dX3_power_23 : decode cX3_power 23 = .ok (.if_icmp .ge 88, 3) := by decide +kernel
theorem dX3_power_26 : decode cX3_power 26 = .ok (.aload_n 0, 1) := by decide +kernel
theorem dX3_power_27 : decode cX3_power 27 = .ok (.getfield 16, 3) := by decide +kernel
theorem dX3_power_30 : decode cX3_power 30 = .ok (.iload 4, 2) := by decide +kernel
theorem dX3_power_32 : decode cX3_power 32 = .ok (.invokevirtual 57, 3) := by decide +kernel
theorem dX3_power_35 : decode cX3_power 35 = .ok (.checkcast 77, 3) := by decide +kernel
theorem dX3_power_38 : decode cX3_power 38 = .ok (.astore 5, 2) := by decide +kernel
theorem dX3_power_40 : decode cX3_power 40 = .ok (.aload 5, 2) := by decide +kernel
theorem dX3_power_42 : decode cX3_power 42 = .ok (.getfield 85, 3) := by decide +kernel
theorem dX3_power_45 : decode cX3_power 45 = .ok (.ifCond .ne 60, 3) := by decide +kernel
theorem dX3_power_48 : decode cX3_power 48 = .ok (.aload 5, 2) := by decide +kernel
theorem dX3_power_50 : decode cX3_power 50 = .ok (.iload_n 1, 1) := by decide +kernel
theorem dX3_power_51 : decode cX3_power 51 = .ok (.invokevirtual 132, 3) := by decide +kernel
theorem dX3_power_54 : decode cX3_power 54 = .ok (.ifCond .eq 51, 3) := by decide +kernel
theorem dX3_power_57 : decode cX3_power 57 = .ok (.aload_n 0, 1) := by decide +kernel
theorem dX3_power_58 : decode cX3_power 58 = .ok (.aload 5, 2) := by decide +kernel
theorem dX3_power_60 : decode cX3_power 60 = .ok (.getfield 159, 3) := by decide +kernel
theorem dX3_power_63 : decode cX3_power 63 = .ok (.invokevirtual 138, 3) := by decide +kernel
theorem dX3_power_66 : decode cX3_power 66 = .ok (.ifCond .ne 39, 3) := by decide +kernel
theorem dX3_power_69 : decode cX3_power 69 = .ok (.aload_n 0, 1) := by decide +kernel
theorem dX3_power_70 : decode cX3_power 70 = .ok (.aload 5, 2) := by decide +kernel
theorem dX3_power_72 : decode cX3_power 72 = .ok (.getfield 159, 3) := by decide +kernel
theorem dX3_power_75 : decode cX3_power 75 = .ok (.invokevirtual 178, 3) := by decide +kernel
theorem dX3_power_78 : decode cX3_power 78 = .ok (.aload_n 0, 1) := by decide +kernel
theorem dX3_power_79 : decode cX3_power 79 = .ok (.aload 5, 2) := by decide +kernel
theorem dX3_power_81 : decode cX3_power 81 = .ok (.getfield 182, 3) := by decide +kernel
theorem dX3_power_84 : decode cX3_power 84 = .ok (.invokevirtual 178, 3) := by decide +kernel
theorem dX3_power_87 : decode cX3_power 87 = .ok (.dsub, 1) := by decide +kernel
theorem dX3_power_88 : decode cX3_power 88 = .ok (.dstore 6, 2) := by decide +kernel
theorem dX3_power_90 : decode cX3_power 90 = .ok (.dload_n 2, 1) := by decide +kernel
theorem dX3_power_91 : decode cX3_power 91 = .ok (.aload 5, 2) := by decide +kernel
theorem dX3_power_93 : decode cX3_power 93 = .ok (.getfield 88, 3) := by decide +kernel
theorem dX3_power_96 : decode cX3_power 96 = .ok (.i2d, 1) := by decide +kernel
theorem dX3_power_97 : decode cX3_power 97 = .ok (.dload 6, 2) := by decide +kernel
theorem dX3_power_99 : decode cX3_power 99 = .ok (.dmul, 1) := by decide +kernel
theorem dX3_power_100 : decode cX3_power 100 = .ok (.dload 6, 2) := by decide +kernel
theorem dX3_power_102 : decode cX3_power 102 = .ok (.dmul, 1) := by decide +kernel
theorem dX3_power_103 : decode cX3_power 103 = .ok (.dadd, 1) := by decide +kernel
theorem dX3_power_104 : decode cX3_power 104 = .ok (.dstore_n 2, 1) := by decide +kernel
theorem dX3_power_105 : decode cX3_power 105 = .ok (.iinc 4 1, 3) := by decide +kernel
theorem dX3_power_108 : decode cX3_power 108 = .ok (.goto (-94), 3) := by decide +kernel
theorem dX3_power_111 : decode cX3_power 111 = .ok (.dload_n 2, 1) := by decide +kernel
theorem dX3_power_112 : decode cX3_power 112 = .ok (.dreturn, 1) := by decide +kernel
theorem dX3_nextToggle_0 : decode cX3_nextToggle 0 = .ok (.iload_n 1, 1) := by decide +kernel
theorem dX3_nextToggle_1 : decode cX3_nextToggle 1 = .ok (.invokestatic 129, 3) := by decide +kernel
theorem dX3_nextToggle_4 : decode cX3_nextToggle 4 = .ok (.aload_n 0, 1) := by decide +kernel
theorem dX3_nextToggle_5 : decode cX3_nextToggle 5 = .ok (.iload_n 1, 1) := by decide +kernel
theorem dX3_nextToggle_6 : decode cX3_nextToggle 6 = .ok (.invokevirtual 185, 3) := by decide +kernel
theorem dX3_nextToggle_9 : decode cX3_nextToggle 9 = .ok (.ireturn, 1) := by decide +kernel
theorem dX3_probe_0 : decode cX3_probe 0 = .ok (.aload_n 0, 1) := by decide +kernel
theorem dX3_probe_1 : decode cX3_probe 1 = .ok (.iload_n 1, 1) := by decide +kernel
theorem dX3_probe_2 : decode cX3_probe 2 = .ok (.invokevirtual 48, 3) := by decide +kernel
theorem dX3_probe_5 : decode cX3_probe 5 = .ok (.iload_n 2, 1) := by decide +kernel
theorem dX3_probe_6 : decode cX3_probe 6 = .ok (.invokestatic 129, 3) := by decide +kernel
theorem dX3_probe_9 : decode cX3_probe 9 = .ok (.iload_n 3, 1) := by decide +kernel
theorem dX3_probe_10 : decode cX3_probe 10 = .ok (.invokestatic 129, 3) := by decide +kernel
theorem dX3_probe_13 : decode cX3_probe 13 = .ok (.iload_n 3, 1) := by decide +kernel
theorem dX3_probe_14 : decode cX3_probe 14 = .ok (.iload_n 2, 1) := by decide +kernel
theorem dX3_probe_15 : decode cX3_probe 15 = .ok (.if_icmp .ge 13, 3) := by decide +kernel
theorem dX3_probe_18 : decode cX3_probe 18 = .ok (.new 52, 3) := by decide +kernel
theorem dX3_probe_21 : decode cX3_probe 21 = .ok (.dup, 1) := by decide +kernel
theorem dX3_probe_22 : decode cX3_probe 22 = .ok (.ldc 188, 2) := by decide +kernel
theorem dX3_probe_24 : decode cX3_probe 24 = .ok (.invokespecial 56, 3) := by decide +kernel
theorem dX3_probe_27 : decode cX3_probe 27 = .ok (.athrow, 1) := by decide +kernel
theorem dX3_probe_28 : decode cX3_probe 28 = .ok (.iconst (-1), 1) := by decide +kernel
theorem dX3_probe_29 : decode cX3_probe 29 = .ok (.istore 5, 2) := by decide +kernel
theorem dX3_probe_31 : decode cX3_probe 31 = .ok (.lconst 0, 1) := by decide +kernel
theorem dX3_probe_32 : decode cX3_probe 32 = .ok (.lstore 6, 2) := by decide +kernel
theorem dX3_probe_34 : decode cX3_probe 34 = .ok (.lconst 1, 1) := by decide +kernel
theorem dX3_probe_35 : decode cX3_probe 35 = .ok (.lstore 8, 2) := by decide +kernel
theorem dX3_probe_37 : decode cX3_probe 37 = .ok (.iload_n 2, 1) := by decide +kernel
theorem dX3_probe_38 : decode cX3_probe 38 = .ok (.istore 10, 2) := by decide +kernel
theorem dX3_probe_40 : decode cX3_probe 40 = .ok (.iconst 0, 1) := by decide +kernel
theorem dX3_probe_41 : decode cX3_probe 41 = .ok (.istore 11, 2) := by decide +kernel
theorem dX3_probe_43 : decode cX3_probe 43 = .ok (.iload 11, 2) := by decide +kernel
theorem dX3_probe_45 : decode cX3_probe 45 = .ok (.sipush 999, 3) := by decide +kernel
theorem dX3_probe_48 : decode cX3_probe 48 = .ok (.if_icmp .gt 109, 3) := by decide +kernel
theorem dX3_probe_51 : decode cX3_probe 51 = .ok (.iload 10, 2) := by decide +kernel
theorem dX3_probe_53 : decode cX3_probe 53 = .ok (.ifCond .lt 104, 3) := by decide +kernel
theorem dX3_probe_56 : decode cX3_probe 56 = .ok (.iload 10, 2) := by decide +kernel
theorem dX3_probe_58 : decode cX3_probe 58 = .ok (.iload_n 3, 1) := by decide +kernel
theorem dX3_probe_59 : decode cX3_probe 59 = .ok (.if_icmp .gt 98, 3) := by decide +kernel
theorem dX3_probe_62 : decode cX3_probe 62 = .ok (.aload_n 0, 1) := by decide +kernel
theorem dX3_probe_63 : decode cX3_probe 63 = .ok (.iload 10, 2) := by decide +kernel
theorem dX3_probe_65 : decode cX3_probe 65 = .ok (.invokevirtual 141, 3) := by decide +kernel
theorem dX3_probe_68 : decode cX3_probe 68 = .ok (.aload_n 0, 1) := by decide +kernel
theorem dX3_probe_69 : decode cX3_probe 69 = .ok (.iload_n 1, 1) := by decide +kernel
theorem dX3_probe_70 : decode cX3_probe 70 = .ok (.invokevirtual 138, 3) := by decide +kernel
theorem dX3_probe_73 : decode cX3_probe 73 = .ok (.ifCond .ne 70, 3) := by decide +kernel
theorem dX3_probe_76 : decode cX3_probe 76 = .ok (.aload_n 0, 1) := by decide +kernel
theorem dX3_probe_77 : decode cX3_probe 77 = .ok (.getfield 26, 3) := by decide +kernel
theorem dX3_probe_80 : decode cX3_probe 80 = .ok (.iload_n 1, 1) := by decide +kernel
theorem dX3_probe_81 : decode cX3_probe 81 = .ok (.invokevirtual 147, 3) := by decide +kernel
theorem dX3_probe_84 : decode cX3_probe 84 = .ok (.lstore 12, 2) := by decide +kernel
theorem dX3_probe_86 : decode cX3_probe 86 = .ok (.aload_n 0, 1) := by decide +kernel
theorem dX3_probe_87 : decode cX3_probe 87 = .ok (.getfield 26, 3) := by decide +kernel
theorem dX3_probe_90 : decode cX3_probe 90 = .ok (.invokevirtual 151, 3) := by decide +kernel
theorem dX3_probe_93 : decode cX3_probe 93 = .ok (.lstore 14, 2) := by decide +kernel
theorem dX3_probe_95 : decode cX3_probe 95 = .ok (.lload 12, 2) := by decide +kernel
theorem dX3_probe_97 : decode cX3_probe 97 = .ok (.lload 14, 2) := by decide +kernel
theorem dX3_probe_99 : decode cX3_probe 99 = .ok (.lload 6, 2) := by decide +kernel
theorem dX3_probe_101 : decode cX3_probe 101 = .ok (.lload 8, 2) := by decide +kernel
theorem dX3_probe_103 : decode cX3_probe 103 = .ok (.invokestatic 190, 3) := by decide +kernel
theorem dX3_probe_106 : decode cX3_probe 106 = .ok (.istore 16, 2) := by decide +kernel
theorem dX3_probe_108 : decode cX3_probe 108 = .ok (.iload 5, 2) := by decide +kernel
theorem dX3_probe_110 : decode cX3_probe 110 = .ok (.ifCond .lt 21, 3) := by decide +kernel
theorem dX3_probe_113 : decode cX3_probe 113 = .ok (.iload 4, 2) := by decide +kernel
theorem dX3_probe_115 : decode cX3_probe 115 = .ok (.ifCond .eq 11, 3) := by decide +kernel
theorem dX3_probe_118 : decode cX3_probe 118 = .ok (.iload 16, 2) := by decide +kernel
theorem dX3_probe_120 : decode cX3_probe 120 = .ok (.ifCond .le 23, 3) := by decide +kernel
theorem dX3_probe_123 : decode cX3_probe 123 = .ok (.goto 8, 3) := by decide +kernel
theorem dX3_probe_126 : decode cX3_probe 126 = .ok (.iload 16, 2) := by decide +kernel
theorem dX3_probe_128 : decode cX3_probe 128 = .ok (.ifCond .ge 15, 3) := by decide +kernel
theorem dX3_probe_131 : decode cX3_probe 131 = .ok (.iload 10, 2) := by decide +kernel
theorem dX3_probe_133 : decode cX3_probe 133 = .ok (.istore 5, 2) := by decide +kernel
theorem dX3_probe_135 : decode cX3_probe 135 = .ok (.lload 12, 2) := by decide +kernel
theorem dX3_probe_137 : decode cX3_probe 137 = .ok (.lstore 6, 2) := by decide +kernel
theorem dX3_probe_139 : decode cX3_probe 139 = .ok (.lload 14, 2) := by decide +kernel
theorem dX3_probe_141 : decode cX3_probe 141 = .ok (.lstore 8, 2) := by decide +kernel
theorem dX3_probe_143 : decode cX3_probe 143 = .ok (.aload_n 0, 1) := by decide +kernel
theorem dX3_probe_144 : decode cX3_probe 144 = .ok (.iload 10, 2) := by decide +kernel
theorem dX3_probe_146 : decode cX3_probe 146 = .ok (.invokevirtual 185, 3) := by decide +kernel
theorem dX3_probe_149 : decode cX3_probe 149 = .ok (.istore 10, 2) := by decide +kernel
theorem dX3_probe_151 : decode cX3_probe 151 = .ok (.iinc 11 1, 3) := by decide +kernel
theorem dX3_probe_154 : decode cX3_probe 154 = .ok (.goto (-111), 3) := by decide +kernel
theorem dX3_probe_157 : decode cX3_probe 157 = .ok (.iload 5, 2) := by decide +kernel
theorem dX3_probe_159 : decode cX3_probe 159 = .ok (.ireturn, 1) := by decide +kernel
theorem dX3_compare_0 : decode cX3_compare 0 = .ok (.aload_n 0, 1) := by decide +kernel
theorem dX3_compare_1 : decode cX3_compare 1 = .ok (.iload_n 1, 1) := by decide +kernel
theorem dX3_compare_2 : decode cX3_compare 2 = .ok (.invokevirtual 48, 3) := by decide +kernel
theorem dX3_compare_5 : decode cX3_compare 5 = .ok (.iload_n 2, 1) := by decide +kernel
theorem dX3_compare_6 : decode cX3_compare 6 = .ok (.invokestatic 129, 3) := by decide +kernel
theorem dX3_compare_9 : decode cX3_compare 9 = .ok (.iload_n 3, 1) := by decide +kernel
theorem dX3_compare_10 : decode cX3_compare 10 = .ok (.sipush (-500), 3) := by decide +kernel
theorem dX3_compare_13 : decode cX3_compare 13 = .ok (.if_icmp .lt 24, 3) := by decide +kernel
theorem dX3_compare_16 : decode cX3_compare 16 = .ok (.iload_n 3, 1) := by decide +kernel
theorem dX3_compare_17 : decode cX3_compare 17 = .ok (.sipush 500, 3) := by decide +kernel
theorem dX3_compare_20 : decode cX3_compare 20 = .ok (.if_icmp .gt 17, 3) := by decide +kernel
theorem dX3_compare_23 : decode cX3_compare 23 = .ok (.iload 4, 2) := by decide +kernel
theorem dX3_compare_25 : decode cX3_compare 25 = .ok (.iconst 1, 1) := by decide +kernel
theorem dX3_compare_26 : decode cX3_compare 26 = .ok (.if_icmp .lt 11, 3) := by decide +kernel
theorem dX3_compare_29 : decode cX3_compare 29 = .ok (.iload 4, 2) := by decide +kernel
theorem dX3_compare_31 : decode cX3_compare 31 = .ok (.sipush 500, 3) := by decide +kernel
theorem dX3_compare_34 : decode cX3_compare 34 = .ok (.if_icmp .le 13, 3) := by decide +kernel
theorem dX3_compare_37 : decode cX3_compare 37 = .ok (.new 52, 3) := by decide +kernel
theorem dX3_compare_40 : decode cX3_compare 40 = .ok (.dup, 1) := by decide +kernel
theorem dX3_compare_41 : decode cX3_compare 41 = .ok (.ldc 194, 2) := by decide +kernel
theorem dX3_compare_43 : decode cX3_compare 43 = .ok (.invokespecial 56, 3) := by decide +kernel
theorem dX3_compare_46 : decode cX3_compare 46 = .ok (.athrow, 1) := by decide +kernel
theorem dX3_compare_47 : decode cX3_compare 47 = .ok (.aload_n 0, 1) := by decide +kernel
theorem dX3_compare_48 : decode cX3_compare 48 = .ok (.iload_n 2, 1) := by decide +kernel
theorem dX3_compare_49 : decode cX3_compare 49 = .ok (.invokevirtual 141, 3) := by decide +kernel
theorem dX3_compare_52 : decode cX3_compare 52 = .ok (.aload_n 0, 1) := by decide +kernel
theorem dX3_compare_53 : decode cX3_compare 53 = .ok (.iload_n 1, 1) := by decide +kernel
theorem dX3_compare_54 : decode cX3_compare 54 = .ok (.invokevirtual 144, 3) := by decide +kernel
theorem dX3_compare_57 : decode cX3_compare 57 = .ok (.aload_n 0, 1) := by decide +kernel
theorem dX3_compare_58 : decode cX3_compare 58 = .ok (.getfield 26, 3) := by decide +kernel
theorem dX3_compare_61 : decode cX3_compare 61 = .ok (.iload_n 1, 1) := by decide +kernel
theorem dX3_compare_62 : decode cX3_compare 62 = .ok (.invokevirtual 147, 3) := by decide +kernel
theorem dX3_compare_65 : decode cX3_compare 65 = .ok (.aload_n 0, 1) := by decide +kernel
theorem dX3_compare_66 : decode cX3_compare 66 = .ok (.getfield 26, 3) := by decide +kernel
theorem dX3_compare_69 : decode cX3_compare 69 = .ok (.invokevirtual 151, 3) := by decide +kernel
theorem dX3_compare_72 : decode cX3_compare 72 = .ok (.iload_n 3, 1) := by decide +kernel
theorem dX3_compare_73 : decode cX3_compare 73 = .ok (.i2l, 1) := by decide +kernel
theorem dX3_compare_74 : decode cX3_compare 74 = .ok (.iload 4, 2) := by decide +kernel
theorem dX3_compare_76 : decode cX3_compare 76 = .ok (.i2l, 1) := by decide +kernel
theorem dX3_compare_77 : decode cX3_compare 77 = .ok (.invokestatic 190, 3) := by decide +kernel
theorem dX3_compare_80 : decode cX3_compare 80 = .ok (.ireturn, 1) := by decide +kernel
theorem dX3_levels_0 : decode cX3_levels 0 = .ok (.iload_n 1, 1) := by decide +kernel
theorem dX3_levels_1 : decode cX3_levels 1 = .ok (.invokestatic 129, 3) := by decide +kernel
theorem dX3_levels_4 : decode cX3_levels 4 = .ok (.aload_n 0, 1) := by decide +kernel
theorem dX3_levels_5 : decode cX3_levels 5 = .ok (.iload_n 1, 1) := by decide +kernel
theorem dX3_levels_6 : decode cX3_levels 6 = .ok (.invokevirtual 141, 3) := by decide +kernel
theorem dX3_levels_9 : decode cX3_levels 9 = .ok (.iconst 0, 1) := by decide +kernel
theorem dX3_levels_10 : decode cX3_levels 10 = .ok (.istore_n 2, 1) := by decide +kernel
theorem dX3_levels_11 : decode cX3_levels 11 = .ok (.iconst 0, 1) := by decide +kernel
theorem dX3_levels_12 : decode cX3_levels 12 = .ok (.istore_n 3, 1) := by decide +kernel
theorem dX3_levels_13 : decode cX3_levels 13 = .ok (.iload_n 3, 1) := by decide +kernel
theorem dX3_levels_14 : decode cX3_levels 14 = .ok (.aload_n 0, 1) := by decide +kernel
theorem dX3_levels_15 : decode cX3_levels 15 = .ok (.getfield 12, 3) := by decide +kernel
theorem dX3_levels_18 : decode cX3_levels 18 = .ok (.invokevirtual 30, 3) := by decide +kernel
theorem dX3_levels_21 : decode cX3_levels 21 = .ok (.if_icmp .ge 28, 3) := by decide +kernel
theorem dX3_levels_24 : decode cX3_levels 24 = .ok (.aload_n 0, 1) := by decide +kernel
theorem dX3_levels_25 : decode cX3_levels 25 = .ok (.iload_n 3, 1) := by decide +kernel
theorem dX3_levels_26 : decode cX3_levels 26 = .ok (.invokevirtual 138, 3) := by decide +kernel
theorem dX3_levels_29 : decode cX3_levels 29 = .ok (.ifCond .ne 14, 3) := by decide +kernel
theorem dX3_levels_32 : decode cX3_levels 32 = .ok (.aload_n 0, 1) := by decide +kernel
theorem dX3_levels_33 : decode cX3_levels 33 = .ok (.iload_n 3, 1) := by decide +kernel
theorem dX3_levels_34 : decode cX3_levels 34 = .ok (.invokevirtual 196, 3) := by decide +kernel
theorem dX3_levels_37 : decode cX3_levels 37 = .ok (.ifCond .eq 6, 3) := by decide +kernel
theorem dX3_levels_40 : decode cX3_levels 40 = .ok (.iinc 2 1, 3) := by decide +kernel
theorem dX3_levels_43 : decode cX3_levels 43 = .ok (.iinc 3 1, 3) := by decide +kernel
theorem dX3_levels_46 : decode cX3_levels 46 = .ok (.goto (-33), 3) := by decide +kernel
theorem dX3_levels_49 : decode cX3_levels 49 = .ok (.iload_n 2, 1) := by decide +kernel
theorem dX3_levels_50 : decode cX3_levels 50 = .ok (.ireturn, 1) := by decide +kernel
theorem dX3_digest_0 : decode cX3_digest 0 = .ok (.aload_n 0, 1) := by decide +kernel
theorem dX3_digest_1 : decode cX3_digest 1 = .ok (.ldc2_w 199, 3) := by decide +kernel
theorem dX3_digest_4 : decode cX3_digest 4 = .ok (.invokevirtual 201, 3) := by decide +kernel
theorem dX3_digest_7 : decode cX3_digest 7 = .ok (.lstore_n 1, 1) := by decide +kernel
theorem dX3_digest_8 : decode cX3_digest 8 = .ok (.aload_n 0, 1) := by decide +kernel
theorem dX3_digest_9 : decode cX3_digest 9 = .ok (.lload_n 1, 1) := by decide +kernel
theorem dX3_digest_10 : decode cX3_digest 10 = .ok (.iconst 0, 1) := by decide +kernel
theorem dX3_digest_11 : decode cX3_digest 11 = .ok (.invokevirtual 205, 3) := by decide +kernel
theorem dX3_digest_14 : decode cX3_digest 14 = .ok (.lstore_n 1, 1) := by decide +kernel
theorem dX3_digest_15 : decode cX3_digest 15 = .ok (.aload_n 0, 1) := by decide +kernel
theorem dX3_digest_16 : decode cX3_digest 16 = .ok (.iconst 0, 1) := by decide +kernel
theorem dX3_digest_17 : decode cX3_digest 17 = .ok (.invokevirtual 185, 3) := by decide +kernel
theorem dX3_digest_20 : decode cX3_digest 20 = .ok (.istore_n 3, 1) := by decide +kernel
theorem dX3_digest_21 : decode cX3_digest 21 = .ok (.iload_n 3, 1) := by decide +kernel
theorem dX3_digest_22 : decode cX3_digest 22 = .ok (.ifCond .ge 7, 3) := by decide +kernel
theorem dX3_digest_25 : decode cX3_digest 25 = .ok (.lload_n 1, 1) := by decide +kernel
theorem dX3_digest_26 : decode cX3_digest 26 = .ok (.goto 9, 3) := by decide +kernel
theorem dX3_digest_29 : decode cX3_digest 29 = .ok (.aload_n 0, 1) := by decide +kernel
theorem dX3_digest_30 : decode cX3_digest 30 = .ok (.lload_n 1, 1) := by decide +kernel
theorem dX3_digest_31 : decode cX3_digest 31 = .ok (.iload_n 3, 1) := by decide +kernel
theorem dX3_digest_32 : decode cX3_digest 32 = .ok (.invokevirtual 205, 3) := by decide +kernel
theorem dX3_digest_35 : decode cX3_digest 35 = .ok (.lreturn, 1) := by decide +kernel
theorem dX3_checkNode_0 : decode cX3_checkNode 0 = .ok (.iload_n 1, 1) := by decide +kernel
theorem dX3_checkNode_1 : decode cX3_checkNode 1 = .ok (.ifCond .lt 14, 3) := by decide +kernel
theorem dX3_checkNode_4 : decode cX3_checkNode 4 = .ok (.iload_n 1, 1) := by decide +kernel
theorem dX3_checkNode_5 : decode cX3_checkNode 5 = .ok (.aload_n 0, 1) := by decide +kernel
theorem dX3_checkNode_6 : decode cX3_checkNode 6 = .ok (.getfield 12, 3) := by decide +kernel
theorem dX3_checkNode_9 : decode cX3_checkNode 9 = .ok (.invokevirtual 30, 3) := by decide +kernel
theorem dX3_checkNode_12 : decode cX3_checkNode 12 = .ok (.if_icmp .lt 13, 3) := by decide +kernel
theorem dX3_checkNode_15 : decode cX3_checkNode 15 = .ok (.new 110, 3) := by decide +kernel
theorem dX3_checkNode_18 : decode cX3_checkNode 18 = .ok (.dup, 1) := by decide +kernel
theorem dX3_checkNode_19 : decode cX3_checkNode 19 = .ok (.ldc 209, 2) := by decide +kernel
theorem dX3_checkNode_21 : decode cX3_checkNode 21 = .ok (.invokespecial 114, 3) := by decide +kernel
theorem dX3_checkNode_24 : decode cX3_checkNode 24 = .ok (.athrow, 1) := by decide +kernel
theorem dX3_checkNode_25 : decode cX3_checkNode 25 = .ok (.return_, 1) := by decide +kernel
theorem dX3_checkElement_0 : decode cX3_checkElement 0 = .ok (.iload_n 1, 1) := by decide +kernel
theorem dX3_checkElement_1 : decode cX3_checkElement 1 = .ok (.ifCond .lt 14, 3) := by decide +kernel
theorem dX3_checkElement_4 : decode cX3_checkElement 4 = .ok (.iload_n 1, 1) := by decide +kernel
theorem dX3_checkElement_5 : decode cX3_checkElement 5 = .ok (.aload_n 0, 1) := by decide +kernel
theorem dX3_checkElement_6 : decode cX3_checkElement 6 = .ok (.getfield 16, 3) := by decide +kernel
theorem dX3_checkElement_9 : decode cX3_checkElement 9 = .ok (.invokevirtual 30, 3) := by decide +kernel
theorem dX3_checkElement_12 : decode cX3_checkElement 12 = .ok (.if_icmp .lt 13, 3) := by decide +kernel
theorem dX3_checkElement_15 : decode cX3_checkElement 15 = .ok (.new 110, 3) := by decide +kernel
theorem dX3_checkElement_18 : decode cX3_checkElement 18 = .ok (.dup, 1) := by decide +kernel
theorem dX3_checkElement_19 : decode cX3_checkElement 19 = .ok (.ldc 211, 2) := by decide +kernel
theorem dX3_checkElement_21 : decode cX3_checkElement 21 = .ok (.invokespecial 114, 3) := by decide +kernel
theorem dX3_checkElement_24 : decode cX3_checkElement 24 = .ok (.athrow, 1) := by decide +kernel
theorem dX3_checkElement_25 : decode cX3_checkElement 25 = .ok (.return_, 1) := by decide +kernel
theorem dX3_checkTime_0 : decode cX3_checkTime 0 = .ok (.iload_n 0, 1) := by decide +kernel
theorem dX3_checkTime_1 : decode cX3_checkTime 1 = .ok (.ifCond .lt 10, 3) := by decide +kernel
theorem dX3_checkTime_4 : decode cX3_checkTime 4 = .ok (.iload_n 0, 1) := by decide +kernel
theorem dX3_checkTime_5 : decode cX3_checkTime 5 = .ok (.sipush 999, 3) := by decide +kernel
theorem dX3_checkTime_8 : decode cX3_checkTime 8 = .ok (.if_icmp .le 13, 3) := by decide +kernel
theorem dX3_checkTime_11 : decode cX3_checkTime 11 = .ok (.new 52, 3) := by decide +kernel
theorem dX3_checkTime_14 : decode cX3_checkTime 14 = .ok (.dup, 1) := by decide +kernel
theorem dX3_checkTime_15 : decode cX3_checkTime 15 = .ok (.ldc 213, 2) := by decide +kernel
theorem dX3_checkTime_17 : decode cX3_checkTime 17 = .ok (.invokespecial 56, 3) := by decide +kernel
theorem dX3_checkTime_20 : decode cX3_checkTime 20 = .ok (.athrow, 1) := by decide +kernel
theorem dX3_checkTime_21 : decode cX3_checkTime 21 = .ok (.return_, 1) := by decide +kernel
theorem dX3_checkSize_0 : decode cX3_checkSize 0 = .ok (.iload_n 0, 1) := by decide +kernel
theorem dX3_checkSize_1 : decode cX3_checkSize 1 = .ok (.ifCond .eq 8, 3) := by decide +kernel
theorem dX3_checkSize_4 : decode cX3_checkSize 4 = .ok (.bipush (-99), 2) := by decide +kernel
theorem dX3_checkSize_6 : decode cX3_checkSize 6 = .ok (.goto 4, 3) := by decide +kernel
theorem dX3_checkSize_9 : decode cX3_checkSize 9 = .ok (.iconst 1, 1) := by decide +kernel
theorem dX3_checkSize_10 : decode cX3_checkSize 10 = .ok (.istore_n 2, 1) := by decide +kernel
theorem dX3_checkSize_11 : decode cX3_checkSize 11 = .ok (.iload_n 0, 1) := by decide +kernel
theorem dX3_checkSize_12 : decode cX3_checkSize 12 = .ok (.ifCond .eq 8, 3) := by decide +kernel
theorem dX3_checkSize_15 : decode cX3_checkSize 15 = .ok (.bipush 99, 2) := by decide +kernel
theorem dX3_checkSize_17 : decode cX3_checkSize 17 = .ok (.goto 5, 3) := by decide +kernel
theorem dX3_checkSize_20 : decode cX3_checkSize 20 = .ok (.bipush 9, 2) := by decide +kernel
theorem dX3_checkSize_22 : decode cX3_checkSize 22 = .ok (.istore_n 3, 1) := by decide +kernel
theorem dX3_checkSize_23 : decode cX3_checkSize 23 = .ok (.iload_n 1, 1) := by decide +kernel
theorem dX3_checkSize_24 : decode cX3_checkSize 24 = .ok (.iload_n 2, 1) := by decide +kernel
theorem dX3_checkSize_25 : decode cX3_checkSize 25 = .ok (.if_icmp .lt 8, 3) := by decide +kernel
theorem dX3_checkSize_28 : decode cX3_checkSize 28 = .ok (.iload_n 1, 1) := by decide +kernel
theorem dX3_checkSize_29 : decode cX3_checkSize 29 = .ok (.iload_n 3, 1) := by decide +kernel
theorem dX3_checkSize_30 : decode cX3_checkSize 30 = .ok (.if_icmp .le 13, 3) := by decide +kernel
theorem dX3_checkSize_33 : decode cX3_checkSize 33 = .ok (.new 52, 3) := by decide +kernel
theorem dX3_checkSize_36 : decode cX3_checkSize 36 = .ok (.dup, 1) := by decide +kernel
theorem dX3_checkSize_37 : decode cX3_checkSize 37 = .ok (.ldc 215, 2) := by decide +kernel
theorem dX3_checkSize_39 : decode cX3_checkSize 39 = .ok (.invokespecial 56, 3) := by decide +kernel
theorem dX3_checkSize_42 : decode cX3_checkSize 42 = .ok (.athrow, 1) := by decide +kernel
theorem dX3_checkSize_43 : decode cX3_checkSize 43 = .ok (.return_, 1) := by decide +kernel
theorem dX3_checkGrounded_0 : decode cX3_checkGrounded 0 = .ok (.aload_n 0, 1) := by decide +kernel
theorem dX3_checkGrounded_1 : decode cX3_checkGrounded 1 = .ok (.iload_n 1, 1) := by decide +kernel
theorem dX3_checkGrounded_2 : decode cX3_checkGrounded 2 = .ok (.invokevirtual 138, 3) := by decide +kernel
theorem dX3_checkGrounded_5 : decode cX3_checkGrounded 5 = .ok (.ifCond .eq 13, 3) := by decide +kernel
theorem dX3_checkGrounded_8 : decode cX3_checkGrounded 8 = .ok (.new 34, 3) := by decide +kernel
theorem dX3_checkGrounded_11 : decode cX3_checkGrounded 11 = .ok (.dup, 1) := by decide +kernel
theorem dX3_checkGrounded_12 : decode cX3_checkGrounded 12 = .ok (.ldc 217, 2) := by decide +kernel
theorem dX3_checkGrounded_14 : decode cX3_checkGrounded 14 = .ok (.invokespecial 38, 3) := by decide +kernel
theorem dX3_checkGrounded_17 : decode cX3_checkGrounded 17 = .ok (.athrow, 1) := by decide +kernel
theorem dX3_checkGrounded_18 : decode cX3_checkGrounded 18 = .ok (.return_, 1) := by decide +kernel
theorem dX3_group_0 : decode cX3_group 0 = .ok (.iconst 0, 1) := by decide +kernel
theorem dX3_group_1 : decode cX3_group 1 = .ok (.istore_n 2, 1) := by decide +kernel
theorem dX3_group_2 : decode cX3_group 2 = .ok (.iload_n 2, 1) := by decide +kernel
theorem dX3_group_3 : decode cX3_group 3 = .ok (.bipush 8, 2) := by decide +kernel
theorem dX3_group_5 : decode cX3_group 5 = .ok (.if_icmp .ge 18, 3) := by decide +kernel
theorem dX3_group_8 : decode cX3_group 8 = .ok (.aload_n 0, 1) := by decide +kernel
theorem dX3_group_9 : decode cX3_group 9 = .ok (.getfield 19, 3) := by decide +kernel
theorem dX3_group_12 : decode cX3_group 12 = .ok (.iload_n 2, 1) := by decide +kernel
theorem dX3_group_13 : decode cX3_group 13 = .ok (.iconst 1, 1) := by decide +kernel
theorem dX3_group_14 : decode cX3_group 14 = .ok (.iload_n 2, 1) := by decide +kernel
theorem dX3_group_15 : decode cX3_group 15 = .ok (.ishl, 1) := by decide +kernel
theorem dX3_group_16 : decode cX3_group 16 = .ok (.iastore, 1) := by decide +kernel
theorem dX3_group_17 : decode cX3_group 17 = .ok (.iinc 2 1, 3) := by decide +kernel
theorem dX3_group_20 : decode cX3_group 20 = .ok (.goto (-18), 3) := by decide +kernel
theorem dX3_group_23 : decode cX3_group 23 = .ok (.iconst 0, 1) := by decide +kernel
theorem dX3_group_24 : decode cX3_group 24 = .ok (.istore_n 2, 1) := by decide +kernel
theorem dX3_group_25 : decode cX3_group 25 = .ok (.iload_n 2, 1) := by decide +kernel
theorem dX3_group_26 : decode cX3_group 26 = .ok (.aload_n 0, 1) := by decide +kernel
theorem dX3_group_27 : decode cX3_group 27 = .ok (.getfield 16, 3) := by decide +kernel
theorem dX3_group_30 : decode cX3_group 30 = .ok (.invokevirtual 30, 3) := by decide +kernel
theorem dX3_group_33 : decode cX3_group 33 = .ok (.if_icmp .ge 59, 3) := by decide +kernel
theorem dX3_group_36 : decode cX3_group 36 = .ok (.aload_n 0, 1) := by decide +kernel
theorem dX3_group_37 : decode cX3_group 37 = .ok (.getfield 16, 3) := by decide +kernel
theorem dX3_group_40 : decode cX3_group 40 = .ok (.iload_n 2, 1) := by decide +kernel
theorem dX3_group_41 : decode cX3_group 41 = .ok (.invokevirtual 57, 3) := by decide +kernel
theorem dX3_group_44 : decode cX3_group 44 = .ok (.checkcast 77, 3) := by decide +kernel
theorem dX3_group_47 : decode cX3_group 47 = .ok (.astore_n 3, 1) := by decide +kernel
theorem dX3_group_48 : decode cX3_group 48 = .ok (.aload_n 3, 1) := by decide +kernel
theorem dX3_group_49 : decode cX3_group 49 = .ok (.getfield 85, 3) := by decide +kernel
theorem dX3_group_52 : decode cX3_group 52 = .ok (.ifCond .ne 34, 3) := by decide +kernel
theorem dX3_group_55 : decode cX3_group 55 = .ok (.aload_n 3, 1) := by decide +kernel
theorem dX3_group_56 : decode cX3_group 56 = .ok (.iload_n 1, 1) := by decide +kernel
theorem dX3_group_57 : decode cX3_group 57 = .ok (.invokevirtual 132, 3) := by decide +kernel
theorem dX3_group_60 : decode cX3_group 60 = .ok (.ifCond .eq 26, 3) := by decide +kernel
theorem dX3_group_63 : decode cX3_group 63 = .ok (.aload_n 0, 1) := by decide +kernel
theorem dX3_group_64 : decode cX3_group 64 = .ok (.aload_n 0, 1) := by decide +kernel
theorem dX3_group_65 : decode cX3_group 65 = .ok (.getfield 19, 3) := by decide +kernel
theorem dX3_group_68 : decode cX3_group 68 = .ok (.aload_n 3, 1) := by decide +kernel
theorem dX3_group_69 : decode cX3_group 69 = .ok (.getfield 159, 3) := by decide +kernel
theorem dX3_group_72 : decode cX3_group 72 = .ok (.iaload, 1) := by decide +kernel
theorem dX3_group_73 : decode cX3_group 73 = .ok (.aload_n 0, 1) := by decide +kernel
theorem dX3_group_74 : decode cX3_group 74 = .ok (.getfield 19, 3) := by decide +kernel
theorem dX3_group_77 : decode cX3_group 77 = .ok (.aload_n 3, 1) := by decide +kernel
theorem dX3_group_78 : decode cX3_group 78 = .ok (.getfield 182, 3) := by decide +kernel
theorem dX3_group_81 : decode cX3_group 81 = .ok (.iaload, 1) := by decide +kernel
theorem dX3_group_82 : decode cX3_group 82 = .ok (.ior, 1) := by decide +kernel
theorem dX3_group_83 : decode cX3_group 83 = .ok (.invokevirtual 219, 3) := by decide +kernel
theorem dX3_group_86 : decode cX3_group 86 = .ok (.iinc 2 1, 3) := by decide +kernel
theorem dX3_group_89 : decode cX3_group 89 = .ok (.goto (-64), 3) := by decide +kernel
theorem dX3_group_92 : decode cX3_group 92 = .ok (.return_, 1) := by decide +kernel
theorem dX3_join_0 : decode cX3_join 0 = .ok (.iconst 0, 1) := by decide +kernel
theorem dX3_join_1 : decode cX3_join 1 = .ok (.istore_n 2, 1) := by decide +kernel
theorem dX3_join_2 : decode cX3_join 2 = .ok (.iload_n 2, 1) := by decide +kernel
theorem dX3_join_3 : decode cX3_join 3 = .ok (.bipush 8, 2) := by decide +kernel
theorem dX3_join_5 : decode cX3_join 5 = .ok (.if_icmp .ge 24, 3) := by decide +kernel
theorem dX3_join_8 : decode cX3_join 8 = .ok (.iload_n 1, 1) := by decide +kernel
theorem dX3_join_9 : decode cX3_join 9 = .ok (.iload_n 2, 1) := by decide +kernel
theorem dX3_join_10 : decode cX3_join 10 = .ok (.invokestatic 168, 3) := by decide +kernel
theorem dX3_join_13 : decode cX3_join 13 = .ok (.ifCond .eq 10, 3) := by decide +kernel
theorem dX3_join_16 : decode cX3_join 16 = .ok (.aload_n 0, 1) := by decide +kernel
theorem dX3_join_17 : decode cX3_join 17 = .ok (.getfield 19, 3) := by decide +kernel
theorem dX3_join_20 : decode cX3_join 20 = .ok (.iload_n 2, 1) := by decide +kernel
theorem dX3_join_21 : decode cX3_join 21 = .ok (.iload_n 1, 1) := by decide +kernel
theorem dX3_join_22 : decode cX3_join 22 = .ok (.iastore, 1) := by decide +kernel
theorem dX3_join_23 : decode cX3_join 23 = .ok (.iinc 2 1, 3) := by decide +kernel
theorem dX3_join_26 : decode cX3_join 26 = .ok (.goto (-24), 3) := by decide +kernel
theorem dX3_join_29 : decode cX3_join 29 = .ok (.return_, 1) := by decide +kernel
theorem dX3_isAfloat_0 : decode cX3_isAfloat 0 = .ok (.iconst 0, 1) := by decide +kernel
theorem dX3_isAfloat_1 : decode cX3_isAfloat 1 = .ok (.istore_n 2, 1) := by decide +kernel
theorem dX3_isAfloat_2 : decode cX3_isAfloat 2 = .ok (.iload_n 2, 1) := by decide +kernel
theorem dX3_isAfloat_3 : decode cX3_isAfloat 3 = .ok (.aload_n 0, 1) := by decide +kernel
theorem dX3_isAfloat_4 : decode cX3_isAfloat 4 = .ok (.getfield 12, 3) := by decide +kernel
theorem dX3_isAfloat_7 : decode cX3_isAfloat 7 = .ok (.invokevirtual 30, 3) := by decide +kernel
theorem dX3_isAfloat_10 : decode cX3_isAfloat 10 = .ok (.if_icmp .ge 41, 3) := by decide +kernel
theorem dX3_isAfloat_13 : decode cX3_isAfloat 13 = .ok (.aload_n 0, 1) := by decide +kernel
theorem dX3_isAfloat_14 : decode cX3_isAfloat 14 = .ok (.getfield 12, 3) := by decide +kernel
theorem dX3_isAfloat_17 : decode cX3_isAfloat 17 = .ok (.iload_n 2, 1) := by decide +kernel
theorem dX3_isAfloat_18 : decode cX3_isAfloat 18 = .ok (.invokevirtual 57, 3) := by decide +kernel
theorem dX3_isAfloat_21 : decode cX3_isAfloat 21 = .ok (.checkcast 41, 3) := by decide +kernel
theorem dX3_isAfloat_24 : decode cX3_isAfloat 24 = .ok (.getfield 61, 3) := by decide +kernel
theorem dX3_isAfloat_27 : decode cX3_isAfloat 27 = .ok (.ifCond .eq 18, 3) := by decide +kernel
theorem dX3_isAfloat_30 : decode cX3_isAfloat 30 = .ok (.aload_n 0, 1) := by decide +kernel
theorem dX3_isAfloat_31 : decode cX3_isAfloat 31 = .ok (.getfield 19, 3) := by decide +kernel
theorem dX3_isAfloat_34 : decode cX3_isAfloat 34 = .ok (.iload_n 1, 1) := by decide +kernel
theorem dX3_isAfloat_35 : decode cX3_isAfloat 35 = .ok (.iaload, 1) := by decide +kernel
theorem dX3_isAfloat_36 : decode cX3_isAfloat 36 = .ok (.iload_n 2, 1) := by decide +kernel
theorem dX3_isAfloat_37 : decode cX3_isAfloat 37 = .ok (.invokestatic 168, 3) := by decide +kernel
theorem dX3_isAfloat_40 : decode cX3_isAfloat 40 = .ok (.ifCond .eq 5, 3) := by decide +kernel
theorem dX3_isAfloat_43 : decode cX3_isAfloat 43 = .ok (.iconst 0, 1) := by decide +kernel
theorem dX3_isAfloat_44 : decode cX3_isAfloat 44 = .ok (.ireturn, 1) := by decide +kernel
theorem dX3_isAfloat_45 : decode cX3_isAfloat 45 = .ok (.iinc 2 1, 3) := by decide +kernel
theorem dX3_isAfloat_48 : decode cX3_isAfloat 48 = .ok (.goto (-46), 3) := by decide +kernel
theorem dX3_isAfloat_51 : decode cX3_isAfloat 51 = .ok (.iconst 1, 1) := by decide +kernel
theorem dX3_isAfloat_52 : decode cX3_isAfloat 52 = .ok (.ireturn, 1) := by decide +kernel
theorem dX3_contains_0 : decode cX3_contains 0 = .ok (.iload_n 0, 1) := by decide +kernel
theorem dX3_contains_1 : decode cX3_contains 1 = .ok (.iload_n 1, 1) := by decide +kernel
theorem dX3_contains_2 : decode cX3_contains 2 = .ok (.ishr, 1) := by decide +kernel
theorem dX3_contains_3 : decode cX3_contains 3 = .ok (.iconst 1, 1) := by decide +kernel
theorem dX3_contains_4 : decode cX3_contains 4 = .ok (.iand, 1) := by decide +kernel
theorem dX3_contains_5 : decode cX3_contains 5 = .ok (.ifCond .eq 7, 3) := by decide +kernel
theorem dX3_contains_8 : decode cX3_contains 8 = .ok (.iconst 1, 1) := by decide +kernel
theorem dX3_contains_9 : decode cX3_contains 9 = .ok (.goto 4, 3) := by decide +kernel
theorem dX3_contains_12 : decode cX3_contains 12 = .ok (.iconst 0, 1) := by decide +kernel
theorem dX3_contains_13 : decode cX3_contains 13 = .ok (.ireturn, 1) := by decide +kernel
theorem dX3_settle_0 : decode cX3_settle 0 = .ok (.aload_n 0, 1) := by decide +kernel
theorem dX3_settle_1 : decode cX3_settle 1 = .ok (.iload_n 1, 1) := by decide +kernel
theorem dX3_settle_2 : decode cX3_settle 2 = .ok (.invokevirtual 135, 3) := by decide +kernel
theorem dX3_settle_5 : decode cX3_settle 5 = .ok (.aload_n 0, 1) := by decide +kernel
theorem dX3_settle_6 : decode cX3_settle 6 = .ok (.getfield 26, 3) := by decide +kernel
theorem dX3_settle_9 : decode cX3_settle 9 = .ok (.invokevirtual 222, 3) := by decide +kernel
theorem dX3_settle_12 : decode cX3_settle 12 = .ok (.iconst 0, 1) := by decide +kernel
theorem dX3_settle_13 : decode cX3_settle 13 = .ok (.istore_n 2, 1) := by decide +kernel
theorem dX3_settle_14 : decode cX3_settle 14 = .ok (.iload_n 2, 1) := by decide +kernel
theorem dX3_settle_15 : decode cX3_settle 15 = .ok (.aload_n 0, 1) := by decide +kernel
theorem dX3_settle_16 : decode cX3_settle 16 = .ok (.getfield 12, 3) := by decide +kernel
theorem dX3_settle_19 : decode cX3_settle 19 = .ok (.invokevirtual 30, 3) := by decide +kernel
theorem dX3_settle_22 : decode cX3_settle 22 = .ok (.if_icmp .ge 60, 3) := by decide +kernel
theorem dX3_settle_25 : decode cX3_settle 25 = .ok (.aload_n 0, 1) := by decide +kernel
theorem dX3_settle_26 : decode cX3_settle 26 = .ok (.getfield 12, 3) := by decide +kernel
theorem dX3_settle_29 : decode cX3_settle 29 = .ok (.iload_n 2, 1) := by decide +kernel
theorem dX3_settle_30 : decode cX3_settle 30 = .ok (.invokevirtual 57, 3) := by decide +kernel
theorem dX3_settle_33 : decode cX3_settle 33 = .ok (.checkcast 41, 3) := by decide +kernel
theorem dX3_settle_36 : decode cX3_settle 36 = .ok (.astore_n 3, 1) := by decide +kernel
theorem dX3_settle_37 : decode cX3_settle 37 = .ok (.aload_n 3, 1) := by decide +kernel
theorem dX3_settle_38 : decode cX3_settle 38 = .ok (.getfield 61, 3) := by decide +kernel
theorem dX3_settle_41 : decode cX3_settle 41 = .ok (.ifCond .eq 19, 3) := by decide +kernel
theorem dX3_settle_44 : decode cX3_settle 44 = .ok (.aload_n 0, 1) := by decide +kernel
theorem dX3_settle_45 : decode cX3_settle 45 = .ok (.getfield 26, 3) := by decide +kernel
theorem dX3_settle_48 : decode cX3_settle 48 = .ok (.iload_n 2, 1) := by decide +kernel
theorem dX3_settle_49 : decode cX3_settle 49 = .ok (.aload_n 3, 1) := by decide +kernel
theorem dX3_settle_50 : decode cX3_settle 50 = .ok (.getfield 65, 3) := by decide +kernel
theorem dX3_settle_53 : decode cX3_settle 53 = .ok (.i2l, 1) := by decide +kernel
theorem dX3_settle_54 : decode cX3_settle 54 = .ok (.invokevirtual 225, 3) := by decide +kernel
theorem dX3_settle_57 : decode cX3_settle 57 = .ok (.goto 19, 3) := by decide +kernel
theorem dX3_settle_60 : decode cX3_settle 60 = .ok (.aload_n 0, 1) := by decide +kernel
theorem dX3_settle_61 : decode cX3_settle 61 = .ok (.iload_n 2, 1) := by decide +kernel
theorem dX3_settle_62 : decode cX3_settle 62 = .ok (.invokevirtual 138, 3) := by decide +kernel
theorem dX3_settle_65 : decode cX3_settle 65 = .ok (.ifCond .ne 11, 3) := by decide +kernel
theorem dX3_settle_68 : decode cX3_settle 68 = .ok (.aload_n 0, 1) := by decide +kernel
theorem dX3_settle_69 : decode cX3_settle 69 = .ok (.getfield 26, 3) := by decide +kernel
theorem dX3_settle_72 : decode cX3_settle 72 = .ok (.iload_n 2, 1) := by decide +kernel
theorem dX3_settle_73 : decode cX3_settle 73 = .ok (.invokevirtual 229, 3) := by decide +kernel
theorem dX3_settle_76 : decode cX3_settle 76 = .ok (.iinc 2 1, 3) := by decide +kernel
theorem dX3_settle_79 : decode cX3_settle 79 = .ok (.goto (-65), 3) := by decide +kernel
theorem dX3_settle_82 : decode cX3_settle 82 = .ok (.iconst 0, 1) := by decide +kernel
theorem dX3_settle_83 : decode cX3_settle 83 = .ok (.istore_n 2, 1) := by decide +kernel
theorem dX3_settle_84 : decode cX3_settle 84 = .ok (.iload_n 2, 1) := by decide +kernel
theorem dX3_settle_85 : decode cX3_settle 85 = .ok (.aload_n 0, 1) := by decide +kernel
theorem dX3_settle_86 : decode cX3_settle 86 = .ok (.getfield 16, 3) := by decide +kernel
theorem dX3_settle_89 : decode cX3_settle 89 = .ok (.invokevirtual 30, 3) := by decide +kernel
theorem dX3_settle_92 : decode cX3_settle 92 = .ok (.if_icmp .ge 69, 3) := by decide +kernel
theorem dX3_settle_95 : decode cX3_settle 95 = .ok (.aload_n 0, 1) := by decide +kernel
theorem dX3_settle_96 : decode cX3_settle 96 = .ok (.getfield 16, 3) := by decide +kernel
theorem dX3_settle_99 : decode cX3_settle 99 = .ok (.iload_n 2, 1) := by decide +kernel
theorem dX3_settle_100 : decode cX3_settle 100 = .ok (.invokevirtual 57, 3) := by decide +kernel
theorem dX3_settle_103 : decode cX3_settle 103 = .ok (.checkcast 77, 3) := by decide +kernel
theorem dX3_settle_106 : decode cX3_settle 106 = .ok (.astore_n 3, 1) := by decide +kernel
theorem dX3_settle_107 : decode cX3_settle 107 = .ok (.aload_n 3, 1) := by decide +kernel
theorem dX3_settle_108 : decode cX3_settle 108 = .ok (.getfield 85, 3) := by decide +kernel
theorem dX3_settle_111 : decode cX3_settle 111 = .ok (.ifCond .eq 44, 3) := by decide +kernel
theorem dX3_settle_114 : decode cX3_settle 114 = .ok (.aload_n 3, 1) := by decide +kernel
theorem dX3_settle_115 : decode cX3_settle 115 = .ok (.iload_n 1, 1) := by decide +kernel
theorem dX3_settle_116 : decode cX3_settle 116 = .ok (.invokevirtual 132, 3) := by decide +kernel
theorem dX3_settle_119 : decode cX3_settle 119 = .ok (.ifCond .eq 36, 3) := by decide +kernel
theorem dX3_settle_122 : decode cX3_settle 122 = .ok (.aload_n 0, 1) := by decide +kernel
theorem dX3_settle_123 : decode cX3_settle 123 = .ok (.getfield 26, 3) := by decide +kernel
theorem dX3_settle_126 : decode cX3_settle 126 = .ok (.aload_n 3, 1) := by decide +kernel
theorem dX3_settle_127 : decode cX3_settle 127 = .ok (.getfield 159, 3) := by decide +kernel
theorem dX3_settle_130 : decode cX3_settle 130 = .ok (.aload_n 3, 1) := by decide +kernel
theorem dX3_settle_131 : decode cX3_settle 131 = .ok (.getfield 88, 3) := by decide +kernel
theorem dX3_settle_134 : decode cX3_settle 134 = .ok (.ineg, 1) := by decide +kernel
theorem dX3_settle_135 : decode cX3_settle 135 = .ok (.i2l, 1) := by decide +kernel
theorem dX3_settle_136 : decode cX3_settle 136 = .ok (.invokevirtual 232, 3) := by decide +kernel
theorem dX3_settle_139 : decode cX3_settle 139 = .ok (.aload_n 0, 1) := by decide +kernel
theorem dX3_settle_140 : decode cX3_settle 140 = .ok (.getfield 26, 3) := by decide +kernel
theorem dX3_settle_143 : decode cX3_settle 143 = .ok (.aload_n 3, 1) := by decide +kernel
theorem dX3_settle_144 : decode cX3_settle 144 = .ok (.getfield 182, 3) := by decide +kernel
theorem dX3_settle_147 : decode cX3_settle 147 = .ok (.aload_n 3, 1) := by decide +kernel
theorem dX3_settle_148 : decode cX3_settle 148 = .ok (.getfield 88, 3) := by decide +kernel
theorem dX3_settle_151 : decode cX3_settle 151 = .ok (.i2l, 1) := by decide +kernel
theorem dX3_settle_152 : decode cX3_settle 152 = .ok (.invokevirtual 232, 3) := by decide +kernel
theorem dX3_settle_155 : decode cX3_settle 155 = .ok (.iinc 2 1, 3) := by decide +kernel
theorem dX3_settle_158 : decode cX3_settle 158 = .ok (.goto (-74), 3) := by decide +kernel
theorem dX3_settle_161 : decode cX3_settle 161 = .ok (.aload_n 0, 1) := by decide +kernel
theorem dX3_settle_162 : decode cX3_settle 162 = .ok (.iload_n 1, 1) := by decide +kernel
theorem dX3_settle_163 : decode cX3_settle 163 = .ok (.invokevirtual 235, 3) := by decide +kernel
theorem dX3_settle_166 : decode cX3_settle 166 = .ok (.aload_n 0, 1) := by decide +kernel
theorem dX3_settle_167 : decode cX3_settle 167 = .ok (.getfield 26, 3) := by decide +kernel
theorem dX3_settle_170 : decode cX3_settle 170 = .ok (.invokevirtual 238, 3) := by decide +kernel
theorem dX3_settle_173 : decode cX3_settle 173 = .ok (.return_, 1) := by decide +kernel
theorem dX3_drive_0 : decode cX3_drive 0 = .ok (.aload_n 0, 1) := by decide +kernel
theorem dX3_drive_1 : decode cX3_drive 1 = .ok (.getfield 26, 3) := by decide +kernel
theorem dX3_drive_4 : decode cX3_drive 4 = .ok (.invokevirtual 222, 3) := by decide +kernel
theorem dX3_drive_7 : decode cX3_drive 7 = .ok (.iconst 0, 1) := by decide +kernel
theorem dX3_drive_8 : decode cX3_drive 8 = .ok (.istore 4, 2) := by decide +kernel
theorem dX3_drive_10 : decode cX3_drive 10 = .ok (.iload 4, 2) := by decide +kernel
theorem dX3_drive_12 : decode cX3_drive 12 = .ok (.aload_n 0, 1) := by decide +kernel
theorem dX3_drive_13 : decode cX3_drive 13 = .ok (.getfield 12, 3) := by decide +kernel
theorem dX3_drive_16 : decode cX3_drive 16 = .ok (.invokevirtual 30, 3) := by decide +kernel
theorem dX3_drive_19 : decode cX3_drive 19 = .ok (.if_icmp .ge 38, 3) := by decide +kernel
theorem dX3_drive_22 : decode cX3_drive 22 = .ok (.iload 4, 2) := by decide +kernel
theorem dX3_drive_24 : decode cX3_drive 24 = .ok (.iload_n 2, 1) := by decide +kernel
theorem dX3_drive_25 : decode cX3_drive 25 = .ok (.if_icmp .eq 26, 3) := by decide +kernel
theorem dX3_drive_28 : decode cX3_drive 28 = .ok (.aload_n 0, 1) := by decide +kernel
theorem dX3_drive_29 : decode cX3_drive 29 = .ok (.getfield 19, 3) := by decide +kernel
theorem dX3_drive_32 : decode cX3_drive 32 = .ok (.iload_n 2, 1) := by decide +kernel
theorem dX3_drive_33 : decode cX3_drive 33 = .ok (.iaload, 1) := by decide +kernel
theorem dX3_drive_34 : decode cX3_drive 34 = .ok (.iload 4, 2) := by decide +kernel
theorem dX3_drive_36 : decode cX3_drive 36 = .ok (.invokestatic 168, 3) := by decide +kernel
theorem dX3_drive_39 : decode cX3_drive 39 = .ok (.ifCond .eq 12, 3) := by decide +kernel
theorem dX3_drive_42 : decode cX3_drive 42 = .ok (.aload_n 0, 1) := by decide +kernel
theorem dX3_drive_43 : decode cX3_drive 43 = .ok (.getfield 26, 3) := by decide +kernel
theorem dX3_drive_46 : decode cX3_drive 46 = .ok (.iload 4, 2) := by decide +kernel
theorem dX3_drive_48 : decode cX3_drive 48 = .ok (.invokevirtual 229, 3) := by decide +kernel
theorem dX3_drive_51 : decode cX3_drive 51 = .ok (.iinc 4 1, 3) := by decide +kernel
theorem dX3_drive_54 : decode cX3_drive 54 = .ok (.goto (-44), 3) := by decide +kernel
theorem dX3_drive_57 : decode cX3_drive 57 = .ok (.aload_n 0, 1) := by decide +kernel
theorem dX3_drive_58 : decode cX3_drive 58 = .ok (.getfield 26, 3) := by decide +kernel
theorem dX3_drive_61 : decode cX3_drive 61 = .ok (.iload_n 1, 1) := by decide +kernel
theorem dX3_drive_62 : decode cX3_drive 62 = .ok (.lconst 1, 1) := by decide +kernel
theorem dX3_drive_63 : decode cX3_drive 63 = .ok (.invokevirtual 232, 3) := by decide +kernel
theorem dX3_drive_66 : decode cX3_drive 66 = .ok (.aload_n 0, 1) := by decide +kernel
theorem dX3_drive_67 : decode cX3_drive 67 = .ok (.iload_n 3, 1) := by decide +kernel
theorem dX3_drive_68 : decode cX3_drive 68 = .ok (.invokevirtual 235, 3) := by decide +kernel
theorem dX3_drive_71 : decode cX3_drive 71 = .ok (.aload_n 0, 1) := by decide +kernel
theorem dX3_drive_72 : decode cX3_drive 72 = .ok (.getfield 26, 3) := by decide +kernel
theorem dX3_drive_75 : decode cX3_drive 75 = .ok (.invokevirtual 238, 3) := by decide +kernel
theorem dX3_drive_78 : decode cX3_drive 78 = .ok (.return_, 1) := by decide +kernel
theorem dX3_conduct_0 : decode cX3_conduct 0 = .ok (.iconst 0, 1) := by decide +kernel
theorem dX3_conduct_1 : decode cX3_conduct 1 = .ok (.istore_n 2, 1) := by decide +kernel
theorem dX3_conduct_2 : decode cX3_conduct 2 = .ok (.iload_n 2, 1) := by decide +kernel
theorem dX3_conduct_3 : decode cX3_conduct 3 = .ok (.aload_n 0, 1) := by decide +kernel
theorem dX3_conduct_4 : decode cX3_conduct 4 = .ok (.getfield 16, 3) := by decide +kernel
theorem dX3_conduct_7 : decode cX3_conduct 7 = .ok (.invokevirtual 30, 3) := by decide +kernel
theorem dX3_conduct_10 : decode cX3_conduct 10 = .ok (.if_icmp .ge 56, 3) := by decide +kernel
theorem dX3_conduct_13 : decode cX3_conduct 13 = .ok (.aload_n 0, 1) := by decide +kernel
theorem dX3_conduct_14 : decode cX3_conduct 14 = .ok (.getfield 16, 3) := by decide +kernel
theorem dX3_conduct_17 : decode cX3_conduct 17 = .ok (.iload_n 2, 1) := by decide +kernel
theorem dX3_conduct_18 : decode cX3_conduct 18 = .ok (.invokevirtual 57, 3) := by decide +kernel
theorem dX3_conduct_21 : decode cX3_conduct 21 = .ok (.checkcast 77, 3) := by decide +kernel
theorem dX3_conduct_24 : decode cX3_conduct 24 = .ok (.astore_n 3, 1) := by decide +kernel
theorem dX3_conduct_25 : decode cX3_conduct 25 = .ok (.aload_n 3, 1) := by decide +kernel
theorem dX3_conduct_26 : decode cX3_conduct 26 = .ok (.getfield 85, 3) := by decide +kernel
theorem dX3_conduct_29 : decode cX3_conduct 29 = .ok (.ifCond .ne 31, 3) := by decide +kernel
theorem dX3_conduct_32 : decode cX3_conduct 32 = .ok (.aload_n 3, 1) := by decide +kernel
theorem dX3_conduct_33 : decode cX3_conduct 33 = .ok (.iload_n 1, 1) := by decide +kernel
theorem dX3_conduct_34 : decode cX3_conduct 34 = .ok (.invokevirtual 132, 3) := by decide +kernel
theorem dX3_conduct_37 : decode cX3_conduct 37 = .ok (.ifCond .eq 23, 3) := by decide +kernel
theorem dX3_conduct_40 : decode cX3_conduct 40 = .ok (.aload_n 0, 1) := by decide +kernel
theorem dX3_conduct_41 : decode cX3_conduct 41 = .ok (.getfield 26, 3) := by decide +kernel
theorem dX3_conduct_44 : decode cX3_conduct 44 = .ok (.aload_n 3, 1) := by decide +kernel
theorem dX3_conduct_45 : decode cX3_conduct 45 = .ok (.getfield 159, 3) := by decide +kernel
theorem dX3_conduct_48 : decode cX3_conduct 48 = .ok (.aload_n 3, 1) := by decide +kernel
theorem dX3_conduct_49 : decode cX3_conduct 49 = .ok (.getfield 182, 3) := by decide +kernel
theorem dX3_conduct_52 : decode cX3_conduct 52 = .ok (.aload_n 3, 1) := by decide +kernel
theorem dX3_conduct_53 : decode cX3_conduct 53 = .ok (.getfield 88, 3) := by decide +kernel
theorem dX3_conduct_56 : decode cX3_conduct 56 = .ok (.i2l, 1) := by decide +kernel
theorem dX3_conduct_57 : decode cX3_conduct 57 = .ok (.invokevirtual 241, 3) := by decide +kernel
theorem dX3_conduct_60 : decode cX3_conduct 60 = .ok (.iinc 2 1, 3) := by decide +kernel
theorem dX3_conduct_63 : decode cX3_conduct 63 = .ok (.goto (-61), 3) := by decide +kernel
theorem dX3_conduct_66 : decode cX3_conduct 66 = .ok (.return_, 1) := by decide +kernel
theorem dX3_flowOut_0 : decode cX3_flowOut 0 = .ok (.iload_n 2, 1) := by decide +kernel
theorem dX3_flowOut_1 : decode cX3_flowOut 1 = .ok (.aload_n 1, 1) := by decide +kernel
theorem dX3_flowOut_2 : decode cX3_flowOut 2 = .ok (.getfield 159, 3) := by decide +kernel
theorem dX3_flowOut_5 : decode cX3_flowOut 5 = .ok (.if_icmp .eq 13, 3) := by decide +kernel
theorem dX3_flowOut_8 : decode cX3_flowOut 8 = .ok (.iload_n 2, 1) := by decide +kernel
theorem dX3_flowOut_9 : decode cX3_flowOut 9 = .ok (.aload_n 1, 1) := by decide +kernel
theorem dX3_flowOut_10 : decode cX3_flowOut 10 = .ok (.getfield 182, 3) := by decide +kernel
theorem dX3_flowOut_13 : decode cX3_flowOut 13 = .ok (.if_icmp .eq 5, 3) := by decide +kernel
theorem dX3_flowOut_16 : decode cX3_flowOut 16 = .ok (.lconst 0, 1) := by decide +kernel
theorem dX3_flowOut_17 : decode cX3_flowOut 17 = .ok (.lreturn, 1) := by decide +kernel
theorem dX3_flowOut_18 : decode cX3_flowOut 18 = .ok (.aload_n 1, 1) := by decide +kernel
theorem dX3_flowOut_19 : decode cX3_flowOut 19 = .ok (.getfield 85, 3) := by decide +kernel
theorem dX3_flowOut_22 : decode cX3_flowOut 22 = .ok (.ifCond .eq 19, 3) := by decide +kernel
theorem dX3_flowOut_25 : decode cX3_flowOut 25 = .ok (.aload_n 1, 1) := by decide +kernel
theorem dX3_flowOut_26 : decode cX3_flowOut 26 = .ok (.getfield 88, 3) := by decide +kernel
theorem dX3_flowOut_29 : decode cX3_flowOut 29 = .ok (.i2l, 1) := by decide +kernel
theorem dX3_flowOut_30 : decode cX3_flowOut 30 = .ok (.aload_n 0, 1) := by decide +kernel
theorem dX3_flowOut_31 : decode cX3_flowOut 31 = .ok (.getfield 26, 3) := by decide +kernel
theorem dX3_flowOut_34 : decode cX3_flowOut 34 = .ok (.invokevirtual 151, 3) := by decide +kernel
theorem dX3_flowOut_37 : decode cX3_flowOut 37 = .ok (.lmul, 1) := by decide +kernel
theorem dX3_flowOut_38 : decode cX3_flowOut 38 = .ok (.goto 32, 3) := by decide +kernel
theorem dX3_flowOut_41 : decode cX3_flowOut 41 = .ok (.aload_n 1, 1) := by decide +kernel
theorem dX3_flowOut_42 : decode cX3_flowOut 42 = .ok (.getfield 88, 3) := by decide +kernel
theorem dX3_flowOut_45 : decode cX3_flowOut 45 = .ok (.i2l, 1) := by decide +kernel
theorem dX3_flowOut_46 : decode cX3_flowOut 46 = .ok (.aload_n 0, 1) := by decide +kernel
theorem dX3_flowOut_47 : decode cX3_flowOut 47 = .ok (.getfield 26, 3) := by decide +kernel
theorem dX3_flowOut_50 : decode cX3_flowOut 50 = .ok (.aload_n 1, 1) := by decide +kernel
theorem dX3_flowOut_51 : decode cX3_flowOut 51 = .ok (.getfield 159, 3) := by decide +kernel
theorem dX3_flowOut_54 : decode cX3_flowOut 54 = .ok (.invokevirtual 147, 3) := by decide +kernel
theorem dX3_flowOut_57 : decode cX3_flowOut 57 = .ok (.aload_n 0, 1) := by decide +kernel
theorem dX3_flowOut_58 : decode cX3_flowOut 58 = .ok (.getfield 26, 3) := by decide +kernel
theorem dX3_flowOut_61 : decode cX3_flowOut 61 = .ok (.aload_n 1, 1) := by decide +kernel
theorem dX3_flowOut_62 : decode cX3_flowOut 62 = .ok (.getfield 182, 3) := by decide +kernel
theorem dX3_flowOut_65 : decode cX3_flowOut 65 = .ok (.invokevirtual 147, 3) := by decide +kernel
theorem dX3_flowOut_68 : decode cX3_flowOut 68 = .ok (.lsub, 1) := by decide +kernel
theorem dX3_flowOut_69 : decode cX3_flowOut 69 = .ok (.lmul, 1) := by decide +kernel
theorem dX3_flowOut_70 : decode cX3_flowOut 70 = .ok (.lstore_n 3, 1) := by decide +kernel
theorem dX3_flowOut_71 : decode cX3_flowOut 71 = .ok (.iload_n 2, 1) := by decide +kernel
theorem dX3_flowOut_72 : decode cX3_flowOut 72 = .ok (.aload_n 1, 1) := by decide +kernel
theorem dX3_flowOut_73 : decode cX3_flowOut 73 = .ok (.getfield 159, 3) := by decide +kernel
theorem dX3_flowOut_76 : decode cX3_flowOut 76 = .ok (.if_icmp .ne 7, 3) := by decide +kernel
theorem dX3_flowOut_79 : decode cX3_flowOut 79 = .ok (.lload_n 3, 1) := by decide +kernel
theorem dX3_flowOut_80 : decode cX3_flowOut 80 = .ok (.goto 5, 3) := by decide +kernel
theorem dX3_flowOut_83 : decode cX3_flowOut 83 = .ok (.lload_n 3, 1) := by decide +kernel
theorem dX3_flowOut_84 : decode cX3_flowOut 84 = .ok (.lneg, 1) := by decide +kernel
theorem dX3_flowOut_85 : decode cX3_flowOut 85 = .ok (.lreturn, 1) := by decide +kernel
theorem dX3_quotientAt_0 : decode cX3_quotientAt 0 = .ok (.aload_n 0, 1) := by decide +kernel
theorem dX3_quotientAt_1 : decode cX3_quotientAt 1 = .ok (.getfield 26, 3) := by decide +kernel
theorem dX3_quotientAt_4 : decode cX3_quotientAt 4 = .ok (.iload_n 1, 1) := by decide +kernel
theorem dX3_quotientAt_5 : decode cX3_quotientAt 5 = .ok (.invokevirtual 147, 3) := by decide +kernel
theorem dX3_quotientAt_8 : decode cX3_quotientAt 8 = .ok (.aload_n 0, 1) := by decide +kernel
theorem dX3_quotientAt_9 : decode cX3_quotientAt 9 = .ok (.getfield 26, 3) := by decide +kernel
theorem dX3_quotientAt_12 : decode cX3_quotientAt 12 = .ok (.invokevirtual 151, 3) := by decide +kernel
theorem dX3_quotientAt_15 : decode cX3_quotientAt 15 = .ok (.iconst 1, 1) := by decide +kernel
theorem dX3_quotientAt_16 : decode cX3_quotientAt 16 = .ok (.invokestatic 155, 3) := by decide +kernel
theorem dX3_quotientAt_19 : decode cX3_quotientAt 19 = .ok (.l2d, 1) := by decide +kernel
theorem dX3_quotientAt_20 : decode cX3_quotientAt 20 = .ok (.dstore_n 2, 1) := by decide +kernel
theorem dX3_quotientAt_21 : decode cX3_quotientAt 21 = .ok (.aload_n 0, 1) := by decide +kernel
theorem dX3_quotientAt_22 : decode cX3_quotientAt 22 = .ok (.getfield 26, 3) := by decide +kernel
theorem dX3_quotientAt_25 : decode cX3_quotientAt 25 = .ok (.iload_n 1, 1) := by decide +kernel
theorem dX3_quotientAt_26 : decode cX3_quotientAt 26 = .ok (.invokevirtual 147, 3) := by decide +kernel
theorem dX3_quotientAt_29 : decode cX3_quotientAt 29 = .ok (.aload_n 0, 1) := by decide +kernel
theorem dX3_quotientAt_30 : decode cX3_quotientAt 30 = .ok (.getfield 26, 3) := by decide +kernel
theorem dX3_quotientAt_33 : decode cX3_quotientAt 33 = .ok (.invokevirtual 151, 3) := by decide +kernel
theorem dX3_quotientAt_36 : decode cX3_quotientAt 36 = .ok (.iconst 0, 1) := by decide +kernel
theorem dX3_quotientAt_37 : decode cX3_quotientAt 37 = .ok (.invokestatic 155, 3) := by decide +kernel
theorem dX3_quotientAt_40 : decode cX3_quotientAt 40 = .ok (.l2d, 1) := by decide +kernel
theorem dX3_quotientAt_41 : decode cX3_quotientAt 41 = .ok (.dstore 4, 2) := by decide +kernel
theorem dX3_quotientAt_43 : decode cX3_quotientAt 43 = .ok (.dload 4, 2) := by decide +kernel
theorem dX3_quotientAt_45 : decode cX3_quotientAt 45 = .ok (.dconst 0, 1) := by decide +kernel
theorem dX3_quotientAt_46 : decode cX3_quotientAt 46 = .ok (.dcmp .l, 1) := by decide +kernel
theorem dX3_quotientAt_47 : decode cX3_quotientAt 47 = .ok (.ifCond .le 10, 3) := by decide +kernel
theorem dX3_quotientAt_50 : decode cX3_quotientAt 50 = .ok (.dload_n 2, 1) := by decide +kernel
theorem dX3_quotientAt_51 : decode cX3_quotientAt 51 = .ok (.dload 4, 2) := by decide +kernel
theorem dX3_quotientAt_53 : decode cX3_quotientAt 53 = .ok (.ddiv, 1) := by decide +kernel
theorem dX3_quotientAt_54 : decode cX3_quotientAt 54 = .ok (.goto 4, 3) := by decide +kernel
theorem dX3_quotientAt_57 : decode cX3_quotientAt 57 = .ok (.dconst 0, 1) := by decide +kernel
theorem dX3_quotientAt_58 : decode cX3_quotientAt 58 = .ok (.dreturn, 1) := by decide +kernel
theorem dX3_isFirstOfLevel_0 : decode cX3_isFirstOfLevel 0 = .ok (.iconst 0, 1) := by decide +kernel
theorem dX3_isFirstOfLevel_1 : decode cX3_isFirstOfLevel 1 = .ok (.istore_n 2, 1) := by decide +kernel
theorem dX3_isFirstOfLevel_2 : decode cX3_isFirstOfLevel 2 = .ok (.iload_n 2, 1) := by decide +kernel
theorem dX3_isFirstOfLevel_3 : decode cX3_isFirstOfLevel 3 = .ok (.iload_n 1, 1) := by decide +kernel
theorem dX3_isFirstOfLevel_4 : decode cX3_isFirstOfLevel 4 = .ok (.if_icmp .ge 39, 3) := by decide +kernel
theorem dX3_isFirstOfLevel_7 : decode cX3_isFirstOfLevel 7 = .ok (.aload_n 0, 1) := by decide +kernel
theorem dX3_isFirstOfLevel_8 : decode cX3_isFirstOfLevel 8 = .ok (.iload_n 2, 1) := by decide +kernel
theorem dX3_isFirstOfLevel_9 : decode cX3_isFirstOfLevel 9 = .ok (.invokevirtual 138, 3) := by decide +kernel
theorem dX3_isFirstOfLevel_12 : decode cX3_isFirstOfLevel 12 = .ok (.ifCond .ne 25, 3) := by decide +kernel
theorem dX3_isFirstOfLevel_15 : decode cX3_isFirstOfLevel 15 = .ok (.aload_n 0, 1) := by decide +kernel
theorem dX3_isFirstOfLevel_16 : decode cX3_isFirstOfLevel 16 = .ok (.getfield 26, 3) := by decide +kernel
theorem dX3_isFirstOfLevel_19 : decode cX3_isFirstOfLevel 19 = .ok (.iload_n 2, 1) := by decide +kernel
theorem dX3_isFirstOfLevel_20 : decode cX3_isFirstOfLevel 20 = .ok (.invokevirtual 147, 3) := by decide +kernel
theorem dX3_isFirstOfLevel_23 : decode cX3_isFirstOfLevel 23 = .ok (.aload_n 0, 1) := by decide +kernel
theorem dX3_isFirstOfLevel_24 : decode cX3_isFirstOfLevel 24 = .ok (.getfield 26, 3) := by decide +kernel
theorem dX3_isFirstOfLevel_27 : decode cX3_isFirstOfLevel 27 = .ok (.iload_n 1, 1) := by decide +kernel
theorem dX3_isFirstOfLevel_28 : decode cX3_isFirstOfLevel 28 = .ok (.invokevirtual 147, 3) := by decide +kernel
theorem dX3_isFirstOfLevel_31 : decode cX3_isFirstOfLevel 31 = .ok (.lcmp, 1) := by decide +kernel
theorem dX3_isFirstOfLevel_32 : decode cX3_isFirstOfLevel 32 = .ok (.ifCond .ne 5, 3) := by decide +kernel
theorem dX3_isFirstOfLevel_35 : decode cX3_isFirstOfLevel 35 = .ok (.iconst 0, 1) := by decide +kernel
theorem dX3_isFirstOfLevel_36 : decode cX3_isFirstOfLevel 36 = .ok (.ireturn, 1) := by decide +kernel
theorem dX3_isFirstOfLevel_37 : decode cX3_isFirstOfLevel 37 = .ok (.iinc 2 1, 3) := by decide +kernel
theorem dX3_isFirstOfLevel_40 : decode cX3_isFirstOfLevel 40 = .ok (.goto (-38), 3) := by decide +kernel
theorem dX3_isFirstOfLevel_43 : decode cX3_isFirstOfLevel 43 = .ok (.iconst 1, 1) := by decide +kernel
theorem dX3_isFirstOfLevel_44 : decode cX3_isFirstOfLevel 44 = .ok (.ireturn, 1) := by decide +kernel
theorem dX3_firstToggleBehind_0 : decode cX3_firstToggleBehind 0 = .ok (.iconst (-1), 1) := by decide +kernel
theorem dX3_firstToggleBehind_1 : decode cX3_firstToggleBehind 1 = .ok (.istore_n 2, 1) := by decide +kernel
theorem dX3_firstToggleBehind_2 : decode cX3_firstToggleBehind 2 = .ok (.iconst 0, 1) := by decide +kernel
theorem dX3_firstToggleBehind_3 : decode cX3_firstToggleBehind 3 = .ok (.istore_n 3, 1) := by decide +kernel
theorem dX3_firstToggleBehind_4 : decode cX3_firstToggleBehind 4 = .ok (.iload_n 3, 1) := by decide +kernel
theorem dX3_firstToggleBehind_5 : decode cX3_firstToggleBehind 5 = .ok (.aload_n 0, 1) := by decide +kernel
theorem dX3_firstToggleBehind_6 : decode cX3_firstToggleBehind 6 = .ok (.getfield 16, 3) := by decide +kernel
theorem dX3_firstToggleBehind_9 : decode cX3_firstToggleBehind 9 = .ok (.invokevirtual 30, 3) := by decide +kernel
theorem dX3_firstToggleBehind_12 : decode cX3_firstToggleBehind 12 = .ok (.if_icmp .ge 44, 3) := by decide +kernel
theorem dX3_firstToggleBehind_15 : decode cX3_firstToggleBehind 15 = .ok (.aload_n 0, 1) := by decide +kernel
theorem dX3_firstToggleBehind_16 : decode cX3_firstToggleBehind 16 = .ok (.getfield 16, 3) := by decide +kernel
theorem dX3_firstToggleBehind_19 : decode cX3_firstToggleBehind 19 = .ok (.iload_n 3, 1) := by decide +kernel
theorem dX3_firstToggleBehind_20 : decode cX3_firstToggleBehind 20 = .ok (.invokevirtual 57, 3) := by decide +kernel
theorem dX3_firstToggleBehind_23 : decode cX3_firstToggleBehind 23 = .ok (.checkcast 77, 3) := by decide +kernel
theorem dX3_firstToggleBehind_26 : decode cX3_firstToggleBehind 26 = .ok (.iload_n 1, 1) := by decide +kernel
theorem dX3_firstToggleBehind_27 : decode cX3_firstToggleBehind 27 = .ok (.invokevirtual 245, 3) := by decide +kernel
theorem dX3_firstToggleBehind_30 : decode cX3_firstToggleBehind 30 = .ok (.istore 4, 2) := by decide +kernel
theorem dX3_firstToggleBehind_32 : decode cX3_firstToggleBehind 32 = .ok (.iload 4, 2) := by decide +kernel
theorem dX3_firstToggleBehind_34 : decode cX3_firstToggleBehind 34 = .ok (.ifCond .lt 16, 3) := by decide +kernel
theorem dX3_firstToggleBehind_37 : decode cX3_firstToggleBehind 37 = .ok (.iload_n 2, 1) := by decide +kernel
theorem dX3_firstToggleBehind_38 : decode cX3_firstToggleBehind 38 = .ok (.ifCond .lt 9, 3) := by decide +kernel
theorem dX3_firstToggleBehind_41 : decode cX3_firstToggleBehind 41 = .ok (.iload 4, 2) := by decide +kernel
theorem dX3_firstToggleBehind_43 : decode cX3_firstToggleBehind 43 = .ok (.iload_n 2, 1) := by decide +kernel
theorem dX3_firstToggleBehind_44 : decode cX3_firstToggleBehind 44 = .ok (.if_icmp .ge 6, 3) := by decide +kernel
theorem dX3_firstToggleBehind_47 : decode cX3_firstToggleBehind 47 = .ok (.iload 4, 2) := by decide +kernel
theorem dX3_firstToggleBehind_49 : decode cX3_firstToggleBehind 49 = .ok (.istore_n 2, 1) := by decide +kernel
theorem dX3_firstToggleBehind_50 : decode cX3_firstToggleBehind 50 = .ok (.iinc 3 1, 3) := by decide +kernel
theorem dX3_firstToggleBehind_53 : decode cX3_firstToggleBehind 53 = .ok (.goto (-49), 3) := by decide +kernel
theorem dX3_firstToggleBehind_56 : decode cX3_firstToggleBehind 56 = .ok (.iload_n 2, 1) := by decide +kernel
theorem dX3_firstToggleBehind_57 : decode cX3_firstToggleBehind 57 = .ok (.ireturn, 1) := by decide +kernel
theorem dX3_countOf_0 : decode cX3_countOf 0 = .ok (.iload_n 1, 1) := by decide +kernel
theorem dX3_countOf_1 : decode cX3_countOf 1 = .ok (.tableswitch 48 0 2 #[27, 35, 43], 27) := by decide +kernel
theorem dX3_countOf_28 : decode cX3_countOf 28 = .ok (.aload_n 0, 1) := by decide +kernel
theorem dX3_countOf_29 : decode cX3_countOf 29 = .ok (.getfield 12, 3) := by decide +kernel
theorem dX3_countOf_32 : decode cX3_countOf 32 = .ok (.invokevirtual 30, 3) := by decide +kernel
theorem dX3_countOf_35 : decode cX3_countOf 35 = .ok (.ireturn, 1) := by decide +kernel
theorem dX3_countOf_36 : decode cX3_countOf 36 = .ok (.aload_n 0, 1) := by decide +kernel
theorem dX3_countOf_37 : decode cX3_countOf 37 = .ok (.getfield 16, 3) := by decide +kernel
theorem dX3_countOf_40 : decode cX3_countOf 40 = .ok (.invokevirtual 30, 3) := by decide +kernel
theorem dX3_countOf_43 : decode cX3_countOf 43 = .ok (.ireturn, 1) := by decide +kernel
theorem dX3_countOf_44 : decode cX3_countOf 44 = .ok (.aload_n 0, 1) := by decide +kernel
theorem dX3_countOf_45 : decode cX3_countOf 45 = .ok (.invokevirtual 248, 3) := by decide +kernel
theorem dX3_countOf_48 : decode cX3_countOf 48 = .ok (.ireturn, 1) := by decide +kernel
theorem dX3_countOf_49 : decode cX3_countOf 49 = .ok (.aload_n 0, 1) := by decide +kernel
theorem dX3_countOf_50 : decode cX3_countOf 50 = .ok (.invokevirtual 251, 3) := by decide +kernel
theorem dX3_countOf_53 : decode cX3_countOf 53 = .ok (.ireturn, 1) := by decide +kernel
theorem dX3_countRails_0 : decode cX3_countRails 0 = .ok (.iconst 0, 1) := by decide +kernel
theorem dX3_countRails_1 : decode cX3_countRails 1 = .ok (.istore_n 1, 1) := by decide +kernel
theorem dX3_countRails_2 : decode cX3_countRails 2 = .ok (.iconst 0, 1) := by decide +kernel
theorem dX3_countRails_3 : decode cX3_countRails 3 = .ok (.istore_n 2, 1) := by decide +kernel
theorem dX3_countRails_4 : decode cX3_countRails 4 = .ok (.iload_n 2, 1) := by decide +kernel
theorem dX3_countRails_5 : decode cX3_countRails 5 = .ok (.aload_n 0, 1) := by decide +kernel
theorem dX3_countRails_6 : decode cX3_countRails 6 = .ok (.getfield 12, 3) := by decide +kernel
theorem dX3_countRails_9 : decode cX3_countRails 9 = .ok (.invokevirtual 30, 3) := by decide +kernel
theorem dX3_countRails_12 : decode cX3_countRails 12 = .ok (.if_icmp .ge 29, 3) := by decide +kernel
theorem dX3_countRails_15 : decode cX3_countRails 15 = .ok (.aload_n 0, 1) := by decide +kernel
theorem dX3_countRails_16 : decode cX3_countRails 16 = .ok (.getfield 12, 3) := by decide +kernel
theorem dX3_countRails_19 : decode cX3_countRails 19 = .ok (.iload_n 2, 1) := by decide +kernel
theorem dX3_countRails_20 : decode cX3_countRails 20 = .ok (.invokevirtual 57, 3) := by decide +kernel
theorem dX3_countRails_23 : decode cX3_countRails 23 = .ok (.checkcast 41, 3) := by decide +kernel
theorem dX3_countRails_26 : decode cX3_countRails 26 = .ok (.getfield 61, 3) := by decide +kernel
theorem dX3_countRails_29 : decode cX3_countRails 29 = .ok (.ifCond .eq 6, 3) := by decide +kernel
theorem dX3_countRails_32 : decode cX3_countRails 32 = .ok (.iinc 1 1, 3) := by decide +kernel
theorem dX3_countRails_35 : decode cX3_countRails 35 = .ok (.iinc 2 1, 3) := by decide +kernel
theorem dX3_countRails_38 : decode cX3_countRails 38 = .ok (.goto (-34), 3) := by decide +kernel
theorem dX3_countRails_41 : decode cX3_countRails 41 = .ok (.iload_n 1, 1) := by decide +kernel
theorem dX3_countRails_42 : decode cX3_countRails 42 = .ok (.ireturn, 1) := by decide +kernel
theorem dX3_countToggles_0 : decode cX3_countToggles 0 = .ok (.iconst 0, 1) := by decide +kernel
theorem dX3_countToggles_1 : decode cX3_countToggles 1 = .ok (.istore_n 1, 1) := by decide +kernel
theorem dX3_countToggles_2 : decode cX3_countToggles 2 = .ok (.iconst 0, 1) := by decide +kernel
theorem dX3_countToggles_3 : decode cX3_countToggles 3 = .ok (.istore_n 2, 1) := by decide +kernel
theorem dX3_countToggles_4 : decode cX3_countToggles 4 = .ok (.iload_n 2, 1) := by decide +kernel
theorem dX3_countToggles_5 : decode cX3_countToggles 5 = .ok (.aload_n 0, 1) := by decide +kernel
theorem dX3_countToggles_6 : decode cX3_countToggles 6 = .ok (.getfield 16, 3) := by decide +kernel
theorem dX3_countToggles_9 : decode cX3_countToggles 9 = .ok (.invokevirtual 30, 3) := by decide +kernel
theorem dX3_countToggles_12 : decode cX3_countToggles 12 = .ok (.if_icmp .ge 26, 3) := by decide +kernel
theorem dX3_countToggles_15 : decode cX3_countToggles 15 = .ok (.iload_n 1, 1) := by decide +kernel
theorem dX3_countToggles_16 : decode cX3_countToggles 16 = .ok (.aload_n 0, 1) := by decide +kernel
theorem dX3_countToggles_17 : decode cX3_countToggles 17 = .ok (.getfield 16, 3) := by decide +kernel
theorem dX3_countToggles_20 : decode cX3_countToggles 20 = .ok (.iload_n 2, 1) := by decide +kernel
theorem dX3_countToggles_21 : decode cX3_countToggles 21 = .ok (.invokevirtual 57, 3) := by decide +kernel
theorem dX3_countToggles_24 : decode cX3_countToggles 24 = .ok (.checkcast 77, 3) := by decide +kernel
theorem dX3_countToggles_27 : decode cX3_countToggles 27 = .ok (.getfield 102, 3) := by decide +kernel
theorem dX3_countToggles_30 : decode cX3_countToggles 30 = .ok (.iadd, 1) := by decide +kernel
theorem dX3_countToggles_31 : decode cX3_countToggles 31 = .ok (.istore_n 1, 1) := by decide +kernel
theorem dX3_countToggles_32 : decode cX3_countToggles 32 = .ok (.iinc 2 1, 3) := by decide +kernel
theorem dX3_countToggles_35 : decode cX3_countToggles 35 = .ok (.goto (-31), 3) := by decide +kernel
theorem dX3_countToggles_38 : decode cX3_countToggles 38 = .ok (.iload_n 1, 1) := by decide +kernel
theorem dX3_countToggles_39 : decode cX3_countToggles 39 = .ok (.ireturn, 1) := by decide +kernel
theorem dX3_digestCircuit_0 : decode cX3_digestCircuit 0 = .ok (.lload_n 1, 1) := by decide +kernel
theorem dX3_digestCircuit_1 : decode cX3_digestCircuit 1 = .ok (.lstore_n 3, 1) := by decide +kernel
theorem dX3_digestCircuit_2 : decode cX3_digestCircuit 2 = .ok (.iconst 0, 1) := by decide +kernel
theorem dX3_digestCircuit_3 : decode cX3_digestCircuit 3 = .ok (.istore 5, 2) := by decide +kernel
theorem dX3_digestCircuit_5 : decode cX3_digestCircuit 5 = .ok (.iload 5, 2) := by decide +kernel
theorem dX3_digestCircuit_7 : decode cX3_digestCircuit 7 = .ok (.iconst 4, 1) := by decide +kernel
theorem dX3_digestCircuit_8 : decode cX3_digestCircuit 8 = .ok (.if_icmp .ge 21, 3) := by decide +kernel
theorem dX3_digestCircuit_11 : decode cX3_digestCircuit 11 = .ok (.lload_n 3, 1) := by decide +kernel
theorem dX3_digestCircuit_12 : decode cX3_digestCircuit 12 = .ok (.aload_n 0, 1) := by decide +kernel
theorem dX3_digestCircuit_13 : decode cX3_digestCircuit 13 = .ok (.iload 5, 2) := by decide +kernel
theorem dX3_digestCircuit_15 : decode cX3_digestCircuit 15 = .ok (.invokevirtual 115, 3) := by decide +kernel
theorem dX3_digestCircuit_18 : decode cX3_digestCircuit 18 = .ok (.i2l, 1) := by decide +kernel
theorem dX3_digestCircuit_19 : decode cX3_digestCircuit 19 = .ok (.invokestatic 254, 3) := by decide +kernel
theorem dX3_digestCircuit_22 : decode cX3_digestCircuit 22 = .ok (.lstore_n 3, 1) := by decide +kernel
theorem dX3_digestCircuit_23 : decode cX3_digestCircuit 23 = .ok (.iinc 5 1, 3) := by decide +kernel
theorem dX3_digestCircuit_26 : decode cX3_digestCircuit 26 = .ok (.goto (-21), 3) := by decide +kernel
theorem dX3_digestCircuit_29 : decode cX3_digestCircuit 29 = .ok (.iconst 0, 1) := by decide +kernel
theorem dX3_digestCircuit_30 : decode cX3_digestCircuit 30 = .ok (.istore 5, 2) := by decide +kernel
theorem dX3_digestCircuit_32 : decode cX3_digestCircuit 32 = .ok (.iload 5, 2) := by decide +kernel
theorem dX3_digestCircuit_34 : decode cX3_digestCircuit 34 = .ok (.aload_n 0, 1) := by decide +kernel
theorem dX3_digestCircuit_35 : decode cX3_digestCircuit 35 = .ok (.getfield 12, 3) := by decide +kernel
theorem dX3_digestCircuit_38 : decode cX3_digestCircuit 38 = .ok (.invokevirtual 30, 3) := by decide +kernel
theorem dX3_digestCircuit_41 : decode cX3_digestCircuit 41 = .ok (.if_icmp .ge 37, 3) := by decide +kernel
theorem dX3_digestCircuit_44 : decode cX3_digestCircuit 44 = .ok (.lload_n 3, 1) := by decide +kernel
theorem dX3_digestCircuit_45 : decode cX3_digestCircuit 45 = .ok (.aload_n 0, 1) := by decide +kernel
theorem dX3_digestCircuit_46 : decode cX3_digestCircuit 46 = .ok (.getfield 12, 3) := by decide +kernel
theorem dX3_digestCircuit_49 : decode cX3_digestCircuit 49 = .ok (.iload 5, 2) := by decide +kernel
theorem dX3_digestCircuit_51 : decode cX3_digestCircuit 51 = .ok (.invokevirtual 57, 3) := by decide +kernel
theorem dX3_digestCircuit_54 : decode cX3_digestCircuit 54 = .ok (.checkcast 41, 3) := by decide +kernel
theorem dX3_digestCircuit_57 : decode cX3_digestCircuit 57 = .ok (.getfield 61, 3) := by decide +kernel
theorem dX3_digestCircuit_60 : decode cX3_digestCircuit 60 = .ok (.ifCond .eq 7, 3) := by decide +kernel
theorem dX3_digestCircuit_63 : decode cX3_digestCircuit 63 = .ok (.lconst 1, 1) := by decide +kernel
theorem dX3_digestCircuit_64 : decode cX3_digestCircuit 64 = .ok (.goto 4, 3) := by decide +kernel
theorem dX3_digestCircuit_67 : decode cX3_digestCircuit 67 = .ok (.lconst 0, 1) := by decide +kernel
theorem dX3_digestCircuit_68 : decode cX3_digestCircuit 68 = .ok (.invokestatic 254, 3) := by decide +kernel
theorem dX3_digestCircuit_71 : decode cX3_digestCircuit 71 = .ok (.lstore_n 3, 1) := by decide +kernel
theorem dX3_digestCircuit_72 : decode cX3_digestCircuit 72 = .ok (.iinc 5 1, 3) := by decide +kernel
theorem dX3_digestCircuit_75 : decode cX3_digestCircuit 75 = .ok (.goto (-43), 3) := by decide +kernel
theorem dX3_digestCircuit_78 : decode cX3_digestCircuit 78 = .ok (.iconst 0, 1) := by decide +kernel
theorem dX3_digestCircuit_79 : decode cX3_digestCircuit 79 = .ok (.istore 5, 2) := by decide +kernel
theorem dX3_digestCircuit_81 : decode cX3_digestCircuit 81 = .ok (.iload 5, 2) := by decide +kernel
theorem dX3_digestCircuit_83 : decode cX3_digestCircuit 83 = .ok (.aload_n 0, 1) := by decide +kernel
theorem dX3_digestCircuit_84 : decode cX3_digestCircuit 84 = .ok (.getfield 16, 3) := by decide +kernel
theorem dX3_digestCircuit_87 : decode cX3_digestCircuit 87 = .ok (.invokevirtual 30, 3) := by decide +kernel
theorem dX3_digestCircuit_90 : decode cX3_digestCircuit 90 = .ok (.if_icmp .ge 26, 3) := by decide +kernel
theorem dX3_digestCircuit_93 : decode cX3_digestCircuit 93 = .ok (.lload_n 3, 1) := by decide +kernel
theorem dX3_digestCircuit_94 : decode cX3_digestCircuit 94 = .ok (.aload_n 0, 1) := by decide +kernel
theorem dX3_digestCircuit_95 : decode cX3_digestCircuit 95 = .ok (.getfield 16, 3) := by decide +kernel
theorem dX3_digestCircuit_98 : decode cX3_digestCircuit 98 = .ok (.iload 5, 2) := by decide +kernel
theorem dX3_digestCircuit_100 : decode cX3_digestCircuit 100 = .ok (.invokevirtual 57, 3) := by decide +kernel
theorem dX3_digestCircuit_103 : decode cX3_digestCircuit 103 = .ok (.checkcast 77, 3) := by decide +kernel
theorem dX3_digestCircuit_106 : decode cX3_digestCircuit 106 = .ok (.invokestatic 258, 3) := by decide +kernel
theorem dX3_digestCircuit_109 : decode cX3_digestCircuit 109 = .ok (.lstore_n 3, 1) := by decide +kernel
theorem dX3_digestCircuit_110 : decode cX3_digestCircuit 110 = .ok (.iinc 5 1, 3) := by decide +kernel
theorem dX3_digestCircuit_113 : decode cX3_digestCircuit 113 = .ok (.goto (-32), 3) := by decide +kernel
theorem dX3_digestCircuit_116 : decode cX3_digestCircuit 116 = .ok (.lload_n 3, 1) := by decide +kernel
theorem dX3_digestCircuit_117 : decode cX3_digestCircuit 117 = .ok (.lreturn, 1) := by decide +kernel
theorem dX3_digestElement_0 : decode cX3_digestElement 0 = .ok (.lload_n 0, 1) := by decide +kernel
theorem dX3_digestElement_1 : decode cX3_digestElement 1 = .ok (.lstore_n 3, 1) := by decide +kernel
theorem dX3_digestElement_2 : decode cX3_digestElement 2 = .ok (.iconst 0, 1) := by decide +kernel
theorem dX3_digestElement_3 : decode cX3_digestElement 3 = .ok (.istore 5, 2) := by decide +kernel
theorem dX3_digestElement_5 : decode cX3_digestElement 5 = .ok (.iload 5, 2) := by decide +kernel
theorem dX3_digestElement_7 : decode cX3_digestElement 7 = .ok (.bipush 6, 2) := by decide +kernel
theorem dX3_digestElement_9 : decode cX3_digestElement 9 = .ok (.if_icmp .ge 21, 3) := by decide +kernel
theorem dX3_digestElement_12 : decode cX3_digestElement 12 = .ok (.lload_n 3, 1) := by decide +kernel
theorem dX3_digestElement_13 : decode cX3_digestElement 13 = .ok (.aload_n 2, 1) := by decide +kernel
theorem dX3_digestElement_14 : decode cX3_digestElement 14 = .ok (.iload 5, 2) := by decide +kernel
theorem dX3_digestElement_16 : decode cX3_digestElement 16 = .ok (.invokevirtual 121, 3) := by decide +kernel
theorem dX3_digestElement_19 : decode cX3_digestElement 19 = .ok (.i2l, 1) := by decide +kernel
theorem dX3_digestElement_20 : decode cX3_digestElement 20 = .ok (.invokestatic 254, 3) := by decide +kernel
theorem dX3_digestElement_23 : decode cX3_digestElement 23 = .ok (.lstore_n 3, 1) := by decide +kernel
theorem dX3_digestElement_24 : decode cX3_digestElement 24 = .ok (.iinc 5 1, 3) := by decide +kernel
theorem dX3_digestElement_27 : decode cX3_digestElement 27 = .ok (.goto (-22), 3) := by decide +kernel
theorem dX3_digestElement_30 : decode cX3_digestElement 30 = .ok (.iconst 0, 1) := by decide +kernel
theorem dX3_digestElement_31 : decode cX3_digestElement 31 = .ok (.istore 5, 2) := by decide +kernel
theorem dX3_digestElement_33 : decode cX3_digestElement 33 = .ok (.iload 5, 2) := by decide +kernel
theorem dX3_digestElement_35 : decode cX3_digestElement 35 = .ok (.aload_n 2, 1) := by decide +kernel
theorem dX3_digestElement_36 : decode cX3_digestElement 36 = .ok (.getfield 102, 3) := by decide +kernel
theorem dX3_digestElement_39 : decode cX3_digestElement 39 = .ok (.if_icmp .ge 21, 3) := by decide +kernel
theorem dX3_digestElement_42 : decode cX3_digestElement 42 = .ok (.lload_n 3, 1) := by decide +kernel
theorem dX3_digestElement_43 : decode cX3_digestElement 43 = .ok (.aload_n 2, 1) := by decide +kernel
theorem dX3_digestElement_44 : decode cX3_digestElement 44 = .ok (.iload 5, 2) := by decide +kernel
theorem dX3_digestElement_46 : decode cX3_digestElement 46 = .ok (.invokevirtual 126, 3) := by decide +kernel
