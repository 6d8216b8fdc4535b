theorem dX3_probe_128 : decode cX3_probe 128 = .ok (.ifCond .ge 15, 3) := by decide +kernel
theorem dX3_probe_131 : decode cX3_probe 131 = .ok (.iload 10, 2) := by decide +kernel
theorem dX3_probe_133 : decode cX3_probe 133 = .ok (.istore 5, 2) := by decide +kernel
theorem dX3_probe_135 : decode cX3_probe 135 = .ok (.lload 12, 2) := by decide +kernel
theorem dX3_probe_137 : decode cX3_probe 137 = .ok (.lstore 6, 2) := by decide +kernel
theorem dX3_probe_139 : decode cX3_probe 139 = .ok (.lload 14, 2) := by decide +kernel
theorem dX3_probe_141 : decode cX3_probe 141 = .ok (.lstore 8, 2) := by decide +kernel
theorem dX3_probe_143 : decode cX3_probe 143 = .ok (.aload_n 0, 1) := by decide +kernel
theorem dX3_probe_144 : decode cX3_probe 144 = .ok (.iload 10, 2) := by decide +kernel
theorem dX3_probe_146 : decode cX3_probe 146 = .ok (.invokevirtual 185, 3) := by decide +kernel
theorem dX3_probe_149 : decode cX3_probe 149 = .ok (.istore 10, 2) := by decide +kernel
theorem dX3_probe_151 : decode cX3_probe 151 = .ok (.iinc 11 1, 3) := by decide +kernel
theorem dX3_probe_154 : decode cX3_probe 154 = .ok (.goto (-111), 3) := by decide +kernel
theorem dX3_probe_157 : decode cX3_probe 157 = .ok (.iload 5, 2) := by decide +kernel
theorem dX3_probe_159 : decode cX3_probe 159 = .ok (.ireturn, 1) := by decide +kernel
theorem dX3_compare_0 : decode cX3_compare 0 = .ok (.aload_n 0, 1) := by decide +kernel
theorem dX3_compare_1 : decode cX3_compare 1 = .ok (.iload_n 1, 1) := by decide +kernel
theorem dX3_compare_2 : decode cX3_compare 2 = .ok (.invokevirtual 48, 3) := by decide +kernel
theorem dX3_compare_5 : decode cX3_compare 5 = .ok (.iload_n 2, 1) := by decide +kernel
theorem dX3_compare_6 : decode cX3_compare 6 = .ok (.invokestatic 129, 3) := by decide +kernel
theorem dX3_compare_9 : decode cX3_compare 9 = .ok (.iload_n 3, 1) := by decide +kernel
theorem dX3_compare_10 : decode cX3_compare 10 = .ok (.sipush (-500), 3) := by decide +kernel
theorem dX3_compare_13 : decode cX3_compare 13 = .ok (.if_icmp .lt 24, 3) := by decide +kernel
theorem dX3_compare_16 : decode cX3_compare 16 = .ok (.iload_n 3, 1) := by decide +kernel
theorem dX3_compare_17 : decode cX3_compare 17 = .ok (.sipush 500, 3) := by decide +kernel
theorem dX3_compare_20 : decode cX3_compare 20 = .ok (.if_icmp .gt 17, 3) := by decide +kernel
theorem dX3_compare_23 : decode cX3_compare 23 = .ok (.iload 4, 2) := by decide +kernel
theorem dX3_compare_25 : decode cX3_compare 25 = .ok (.iconst 1, 1) := by decide +kernel
theorem dX3_compare_26 : decode cX3_compare 26 = .ok (.if_icmp .lt 11, 3) := by decide +kernel
theorem dX3_compare_29 : decode cX3_compare 29 = .ok (.iload 4, 2) := by decide +kernel
theorem dX3_compare_31 : decode cX3_compare 31 = .ok (.sipush 500, 3) := by decide +kernel
theorem dX3_compare_34 : decode cX3_compare 34 = .ok (.if_icmp .le 13, 3) := by decide +kernel
theorem dX3_compare_37 : decode cX3_compare 37 = .ok (.new 52, 3) := by decide +kernel
theorem dX3_compare_40 : decode cX3_compare 40 = .ok (.dup, 1) := by decide +kernel
theorem dX3_compare_41 : decode cX3_compare 41 = .ok (.ldc 194, 2) := by decide +kernel
theorem dX3_compare_43 : decode cX3_compare 43 = .ok (.invokespecial 56, 3) := by decide +kernel
theorem dX3_compare_46 : decode cX3_compare 46 = .ok (.athrow, 1) := by decide +kernel
theorem dX3_compare_47 : decode cX3_compare 47 = .ok (.aload_n 0, 1) := by decide +kernel
theorem dX3_compare_48 : decode cX3_compare 48 = .ok (.iload_n 2, 1) := by decide +kernel
theorem dX3_compare_49 : decode cX3_compare 49 = .ok (.invokevirtual 141, 3) := by decide +kernel
theorem dX3_compare_52 : decode cX3_compare 52 = .ok (.aload_n 0, 1) := by decide +kernel
theorem dX3_compare_53 : decode cX3_compare 53 = .ok (.iload_n 1, 1) := by decide +kernel
theorem dX3_compare_54 : decode cX3_compare 54 = .ok (.invokevirtual 144, 3) := by decide +kernel
theorem dX3_compare_57 : decode cX3_compare 57 = .ok (.aload_n 0, 1) := by decide +kernel
theorem dX3_compare_58 : decode cX3_compare 58 = .ok (.getfield 26, 3) := by decide +kernel
theorem dX3_compare_61 : decode cX3_compare 61 = .ok (.iload_n 1, 1) := by decide +kernel
theorem dX3_compare_62 : decode cX3_compare 62 = .ok (.invokevirtual 147, 3) := by decide +kernel
theorem dX3_compare_65 : decode cX3_compare 65 = .ok (.aload_n 0, 1) := by decide +kernel
theorem dX3_compare_66 : decode cX3_compare 66 = .ok (.getfield 26, 3) := by decide +kernel
theorem dX3_compare_69 : decode cX3_compare 69 = .ok (.invokevirtual 151, 3) := by decide +kernel
theorem dX3_compare_72 : decode cX3_compare 72 = .ok (.iload_n 3, 1) := by decide +kernel
theorem dX3_compare_73 : decode cX3_compare 73 = .ok (.i2l, 1) := by decide +kernel
theorem dX3_compare_74 : decode cX3_compare 74 = .ok (.iload 4, 2) := by decide +kernel
theorem dX3_compare_76 : decode cX3_compare 76 = .ok (.i2l, 1) := by decide +kernel
theorem dX3_compare_77 : decode cX3_compare 77 = .ok (.invokestatic 190, 3) := by decide +kernel
theorem dX3_compare_80 : decode cX3_compare 80 = .ok (.ireturn, 1) := by decide +kernel
theorem dX3_checkNode_0 : decode cX3_checkNode 0 = .ok (.iload_n 1, 1) := by decide +kernel
theorem dX3_checkNode_1 : decode cX3_checkNode 1 = .ok (.ifCond .lt 14, 3) := by decide +kernel
theorem dX3_checkNode_4 : decode cX3_checkNode 4 = .ok (.iload_n 1, 1) := by decide +kernel
theorem dX3_checkNode_5 : decode cX3_checkNode 5 = .ok (.aload_n 0, 1) := by decide +kernel
theorem dX3_checkNode_6 : decode cX3_checkNode 6 = .ok (.getfield 12, 3) := by decide +kernel
theorem dX3_checkNode_9 : decode cX3_checkNode 9 = .ok (.invokevirtual 30, 3) := by decide +kernel
theorem dX3_checkNode_12 : decode cX3_checkNode 12 = .ok (.if_icmp .lt 13, 3) := by decide +kernel
theorem dX3_checkNode_15 : decode cX3_checkNode 15 = .ok (.new 110, 3) := by decide +kernel
theorem dX3_checkNode_18 : decode cX3_checkNode 18 = .ok (.dup, 1) := by decide +kernel
theorem dX3_checkNode_19 : decode cX3_checkNode 19 = .ok (.ldc 209, 2) := by decide +kernel
theorem dX3_checkNode_21 : decode cX3_checkNode 21 = .ok (.invokespecial 114, 3) := by decide +kernel
theorem dX3_checkNode_24 : decode cX3_checkNode 24 = .ok (.athrow, 1) := by decide +kernel
theorem dX3_checkNode_25 : decode cX3_checkNode 25 = .ok (.return_, 1) := by decide +kernel
theorem dX3_checkElement_0 : decode cX3_checkElement 0 = .ok (.iload_n 1, 1) := by decide +kernel
theorem dX3_checkElement_1 : decode cX3_checkElement 1 = .ok (.ifCond .lt 14, 3) := by decide +kernel
theorem dX3_checkElement_4 : decode cX3_checkElement 4 = .ok (.iload_n 1, 1) := by decide +kernel
theorem dX3_checkElement_5 : decode cX3_checkElement 5 = .ok (.aload_n 0, 1) := by decide +kernel
theorem dX3_checkElement_6 : decode cX3_checkElement 6 = .ok (.getfield 16, 3) := by decide +kernel
theorem dX3_checkElement_9 : decode cX3_checkElement 9 = .ok (.invokevirtual 30, 3) := by decide +kernel
theorem dX3_checkElement_12 : decode cX3_checkElement 12 = .ok (.if_icmp .lt 13, 3) := by decide +kernel
theorem dX3_checkElement_15 : decode cX3_checkElement 15 = .ok (.new 110, 3) := by decide +kernel
theorem dX3_checkElement_18 : decode cX3_checkElement 18 = .ok (.dup, 1) := by decide +kernel
theorem dX3_checkElement_19 : decode cX3_checkElement 19 = .ok (.ldc 211, 2) := by decide +kernel
theorem dX3_checkElement_21 : decode cX3_checkElement 21 = .ok (.invokespecial 114, 3) := by decide +kernel
theorem dX3_checkElement_24 : decode cX3_checkElement 24 = .ok (.athrow, 1) := by decide +kernel
theorem dX3_checkElement_25 : decode cX3_checkElement 25 = .ok (.return_, 1) := by decide +kernel
theorem dX3_checkTime_0 : decode cX3_checkTime 0 = .ok (.iload_n 0, 1) := by decide +kernel
theorem dX3_checkTime_1 : decode cX3_checkTime 1 = .ok (.ifCond .lt 10, 3) := by decide +kernel
theorem dX3_checkTime_4 : decode cX3_checkTime 4 = .ok (.iload_n 0, 1) := by decide +kernel
theorem dX3_checkTime_5 : decode cX3_checkTime 5 = .ok (.sipush 999, 3) := by decide +kernel
theorem dX3_checkTime_8 : decode cX3_checkTime 8 = .ok (.if_icmp .le 13, 3) := by decide +kernel
theorem dX3_checkTime_11 : decode cX3_checkTime 11 = .ok (.new 52, 3) := by decide +kernel
theorem dX3_checkTime_14 : decode cX3_checkTime 14 = .ok (.dup, 1) := by decide +kernel
theorem dX3_checkTime_15 : decode cX3_checkTime 15 = .ok (.ldc 213, 2) := by decide +kernel
theorem dX3_checkTime_17 : decode cX3_checkTime 17 = .ok (.invokespecial 56, 3) := by decide +kernel
theorem dX3_checkTime_20 : decode cX3_checkTime 20 = .ok (.athrow, 1) := by decide +kernel
theorem dX3_checkTime_21 : decode cX3_checkTime 21 = .ok (.return_, 1) := by decide +kernel
theorem dX3_checkSize_0 : decode cX3_checkSize 0 = .ok (.iload_n 0, 1) := by decide +kernel
theorem dX3_checkSize_1 : decode cX3_checkSize 1 = .ok (.ifCond .eq 8, 3) := by decide +kernel
theorem dX3_checkSize_4 : decode cX3_checkSize 4 = .ok (.bipush (-99), 2) := by decide +kernel
theorem dX3_checkSize_6 : decode cX3_checkSize 6 = .ok (.goto 4, 3) := by decide +kernel
theorem dX3_checkSize_9 : decode cX3_checkSize 9 = .ok (.iconst 1, 1) := by decide +kernel
theorem dX3_checkSize_10 : decode cX3_checkSize 10 = .ok (.istore_n 2, 1) := by decide +kernel
theorem dX3_checkSize_11 : decode cX3_checkSize 11 = .ok (.iload_n 0, 1) := by decide +kernel
theorem dX3_checkSize_12 : decode cX3_checkSize 12 = .ok (.ifCond .eq 8, 3) := by decide +kernel
theorem dX3_checkSize_15 : decode cX3_checkSize 15 = .ok (.bipush 99, 2) := by decide +kernel
theorem dX3_checkSize_17 : decode cX3_checkSize 17 = .ok (.goto 5, 3) := by decide +kernel
theorem dX3_checkSize_20 : decode cX3_checkSize 20 = .ok (.bipush 9, 2) := by decide +kernel
theorem dX3_checkSize_22 : decode cX3_checkSize 22 = .ok (.istore_n 3, 1) := by decide +kernel
theorem dX3_checkSize_23 : decode cX3_checkSize 23 = .ok (.iload_n 1, 1) := by decide +kernel
theorem dX3_checkSize_24 : decode cX3_checkSize 24 = .ok (.iload_n 2, 1) := by decide +kernel
theorem dX3_checkSize_25 : decode cX3_checkSize 25 = .ok (.if_icmp .lt 8, 3) := by decide +kernel
theorem dX3_checkSize_28 : decode cX3_checkSize 28 = .ok (.iload_n 1, 1) := by decide +kernel
theorem dX3_checkSize_29 : decode cX3_checkSize 29 = .ok (.iload_n 3, 1) := by decide +kernel
theorem dX3_checkSize_30 : decode cX3_checkSize 30 = .ok (.if_icmp .le 13, 3) := by decide +kernel
theorem dX3_checkSize_33 : decode cX3_checkSize 33 = .ok (.new 52, 3) := by decide +kernel
theorem dX3_checkSize_36 : decode cX3_checkSize 36 = .ok (.dup, 1) := by decide +kernel
theorem dX3_checkSize_37 : decode cX3_checkSize 37 = .ok (.ldc 215, 2) := by decide +kernel
theorem dX3_checkSize_39 : decode cX3_checkSize 39 = .ok (.invokespecial 56, 3) := by decide +kernel
theorem dX3_checkSize_42 : decode cX3_checkSize 42 = .ok (.athrow, 1) := by decide +kernel
theorem dX3_checkSize_43 : decode cX3_checkSize 43 = .ok (.return_, 1) := by decide +kernel
theorem dX3_checkGrounded_0 : decode cX3_checkGrounded 0 = .ok (.aload_n 0, 1) := by decide +kernel
theorem dX3_checkGrounded_1 : decode cX3_checkGrounded 1 = .ok (.iload_n 1, 1) := by decide +kernel
theorem dX3_checkGrounded_2 : decode cX3_checkGrounded 2 = .ok (.invokevirtual 138, 3) := by decide +kernel
theorem dX3_checkGrounded_5 : decode cX3_checkGrounded 5 = .ok (.ifCond .eq 13, 3) := by decide +kernel
theorem dX3_checkGrounded_8 : decode cX3_checkGrounded 8 = .ok (.new 34, 3) := by decide +kernel
theorem dX3_checkGrounded_11 : decode cX3_checkGrounded 11 = .ok (.dup, 1) := by decide +kernel
theorem dX3_checkGrounded_12 : decode cX3_checkGrounded 12 = .ok (.ldc 217, 2) := by decide +kernel
theorem dX3_checkGrounded_14 : decode cX3_checkGrounded 14 = .ok (.invokespecial 38, 3) := by decide +kernel
theorem dX3_checkGrounded_17 : decode cX3_checkGrounded 17 = .ok (.athrow, 1) := by decide +kernel
theorem dX3_checkGrounded_18 : decode cX3_checkGrounded 18 = .ok (.return_, 1) := by decide +kernel
theorem dX3_group_0 : decode cX3_group 0 = .ok (.iconst 0, 1) := by decide +kernel
theorem dX3_group_1 : decode cX3_group 1 = .ok (.istore_n 2, 1) := by decide +kernel
theorem dX3_group_2 : decode cX3_group 2 = .ok (.iload_n 2, 1) := by decide +kernel
theorem dX3_group_3 : decode cX3_group 3 = .ok (.bipush 8, 2) := by decide +kernel
theorem dX3_group_5 : decode cX3_group 5 = .ok (.if_icmp .ge 18, 3) := by decide +kernel
theorem dX3_group_8 : decode cX3_group 8 = .ok (.aload_n 0, 1) := by decide +kernel
theorem dX3_group_9 : decode cX3_group 9 = .ok (.getfield 19, 3) := by decide +kernel
theorem dX3_group_12 : decode cX3_group 12 = .ok (.iload_n 2, 1) := by decide +kernel
theorem dX3_group_13 : decode cX3_group 13 = .ok (.iconst 1, 1) := by decide +kernel
theorem dX3_group_14 : decode cX3_group 14 = .ok (.iload_n 2, 1) := by decide +kernel
theorem dX3_group_15 : decode cX3_group 15 = .ok (.ishl, 1) := by decide +kernel
theorem dX3_group_16 : decode cX3_group 16 = .ok (.iastore, 1) := by decide +kernel
theorem dX3_group_17 : decode cX3_group 17 = .ok (.iinc 2 1, 3) := by decide +kernel
theorem dX3_group_20 : decode cX3_group 20 = .ok (.goto (-18), 3) := by decide +kernel
theorem dX3_group_23 : decode cX3_group 23 = .ok (.iconst 0, 1) := by decide +kernel
theorem dX3_group_24 : decode cX3_group 24 = .ok (.istore_n 2, 1) := by decide +kernel
theorem dX3_group_25 : decode cX3_group 25 = .ok (.iload_n 2, 1) := by decide +kernel
theorem dX3_group_26 : decode cX3_group 26 = .ok (.aload_n 0, 1) := by decide +kernel
theorem dX3_group_27 : decode cX3_group 27 = .ok (.getfield 16, 3) := by decide +kernel
theorem dX3_group_30 : decode cX3_group 30 = .ok (.invokevirtual 30, 3) := by decide +kernel
theorem dX3_group_33 : decode cX3_group 33 = .ok (.if_icmp .ge 59, 3) := by decide +kernel
theorem dX3_group_36 : decode cX3_group 36 = .ok (.aload_n 0, 1) := by decide +kernel
theorem dX3_group_37 : decode cX3_group 37 = .ok (.getfield 16, 3) := by decide +kernel
theorem dX3_group_40 : decode cX3_group 40 = .ok (.iload_n 2, 1) := by decide +kernel
theorem dX3_group_41 : decode cX3_group 41 = .ok (.invokevirtual 57, 3) := by decide +kernel
theorem dX3_group_44 : decode cX3_group 44 = .ok (.checkcast 77, 3) := by decide +kernel
theorem dX3_group_47 : decode cX3_group 47 = .ok (.astore_n 3, 1) := by decide +kernel
theorem dX3_group_48 : decode cX3_group 48 = .ok (.aload_n 3, 1) := by decide +kernel
theorem dX3_group_49 : decode cX3_group 49 = .ok (.getfield 85, 3) := by decide +kernel
theorem dX3_group_52 : decode cX3_group 52 = .ok (.ifCond .ne 34, 3) := by decide +kernel
theorem dX3_group_55 : decode cX3_group 55 = .ok (.aload_n 3, 1) := by decide +kernel
theorem dX3_group_56 : decode cX3_group 56 = .ok (.iload_n 1, 1) := by decide +kernel
theorem dX3_group_57 : decode cX3_group 57 = .ok (.invokevirtual 132, 3) := by decide +kernel
theorem dX3_group_60 : decode cX3_group 60 = .ok (.ifCond .eq 26, 3) := by decide +kernel
theorem dX3_group_63 : decode cX3_group 63 = .ok (.aload_n 0, 1) := by decide +kernel
theorem dX3_group_64 : decode cX3_group 64 = .ok (.aload_n 0, 1) := by decide +kernel
theorem dX3_group_65 : decode cX3_group 65 = .ok (.getfield 19, 3) := by decide +kernel
theorem dX3_group_68 : decode cX3_group 68 = .ok (.aload_n 3, 1) := by decide +kernel
theorem dX3_group_69 : decode cX3_group 69 = .ok (.getfield 159, 3) := by decide +kernel
theorem dX3_group_72 : decode cX3_group 72 = .ok (.iaload, 1) := by decide +kernel
theorem dX3_group_73 : decode cX3_group 73 = .ok (.aload_n 0, 1) := by decide +kernel
theorem dX3_group_74 : decode cX3_group 74 = .ok (.getfield 19, 3) := by decide +kernel
theorem dX3_group_77 : decode cX3_group 77 = .ok (.aload_n 3, 1) := by decide +kernel
theorem dX3_group_78 : decode cX3_group 78 = .ok (.getfield 182, 3) := by decide +kernel
theorem dX3_group_81 : decode cX3_group 81 = .ok (.iaload, 1) := by decide +kernel
theorem dX3_group_82 : decode cX3_group 82 = .ok (.ior, 1) := by decide +kernel
theorem dX3_group_83 : decode cX3_group 83 = .ok (.invokevirtual 219, 3) := by decide +kernel
theorem dX3_group_86 : decode cX3_group 86 = .ok (.iinc 2 1, 3) := by decide +kernel
theorem dX3_group_89 : decode cX3_group 89 = .ok (.goto (-64), 3) := by decide +kernel
theorem dX3_group_92 : decode cX3_group 92 = .ok (.return_, 1) := by decide +kernel
theorem dX3_join_0 : decode cX3_join 0 = .ok (.iconst 0, 1) := by decide +kernel
theorem dX3_join_1 : decode cX3_join 1 = .ok (.istore_n 2, 1) := by decide +kernel
theorem dX3_join_2 : decode cX3_join 2 = .ok (.iload_n 2, 1) := by decide +kernel
theorem dX3_join_3 : decode cX3_join 3 = .ok (.bipush 8, 2) := by decide +kernel
theorem dX3_join_5 : decode cX3_join 5 = .ok (.if_icmp .ge 24, 3) := by decide +kernel
theorem dX3_join_8 : decode cX3_join 8 = .ok (.iload_n 1, 1) := by decide +kernel
theorem dX3_join_9 : decode cX3_join 9 = .ok (.iload_n 2, 1) := by decide +kernel
theorem dX3_join_10 : decode cX3_join 10 = .ok (.invokestatic 168, 3) := by decide +kernel
theorem dX3_join_13 : decode cX3_join 13 = .ok (.ifCond .eq 10, 3) := by decide +kernel
theorem dX3_join_16 : decode cX3_join 16 = .ok (.aload_n 0, 1) := by decide +kernel
theorem dX3_join_17 : decode cX3_join 17 = .ok (.getfield 19, 3) := by decide +kernel
theorem dX3_join_20 : decode cX3_join 20 = .ok (.iload_n 2, 1) := by decide +kernel
theorem dX3_join_21 : decode cX3_join 21 = .ok (.iload_n 1, 1) := by decide +kernel
theorem dX3_join_22 : decode cX3_join 22 = .ok (.iastore, 1) := by decide +kernel
theorem dX3_join_23 : decode cX3_join 23 = .ok (.iinc 2 1, 3) := by decide +kernel
theorem dX3_join_26 : decode cX3_join 26 = .ok (.goto (-24), 3) := by decide +kernel
theorem dX3_join_29 : decode cX3_join 29 = .ok (.return_, 1) := by decide +kernel
theorem dX3_isAfloat_0 : decode cX3_isAfloat 0 = .ok (.iconst 0, 1) := by decide +kernel
theorem dX3_isAfloat_1 : decode cX3_isAfloat 1 = .ok (.istore_n 2, 1) := by decide +kernel
theorem dX3_isAfloat_2 : decode cX3_isAfloat 2 = .ok (.iload_n 2, 1) := by decide +kernel
theorem dX3_isAfloat_3 : decode cX3_isAfloat 3 = .ok (.aload_n 0, 1) := by decide +kernel
theorem dX3_isAfloat_4 : decode cX3_isAfloat 4 = .ok (.getfield 12, 3) := by decide +kernel
theorem dX3_isAfloat_7 : decode cX3_isAfloat 7 = .ok (.invokevirtual 30, 3) := by decide +kernel
theorem dX3_isAfloat_10 : decode cX3_isAfloat 10 = .ok (.if_icmp .ge 41, 3) := by decide +kernel
theorem dX3_isAfloat_13 : decode cX3_isAfloat 13 = .ok (.aload_n 0, 1) := by decide +kernel
theorem dX3_isAfloat_14 : decode cX3_isAfloat 14 = .ok (.getfield 12, 3) := by decide +kernel
theorem dX3_isAfloat_17 : decode cX3_isAfloat 17 = .ok (.iload_n 2, 1) := by decide +kernel
theorem dX3_isAfloat_18 : decode cX3_isAfloat 18 = .ok (.invokevirtual 57, 3) := by decide +kernel
theorem dX3_isAfloat_21 : decode cX3_isAfloat 21 = .ok (.checkcast 41, 3) := by decide +kernel
theorem dX3_isAfloat_24 : decode cX3_isAfloat 24 = .ok (.getfield 61, 3) := by decide +kernel
theorem dX3_isAfloat_27 : decode cX3_isAfloat 27 = .ok (.ifCond .eq 18, 3) := by decide +kernel
theorem dX3_isAfloat_30 : decode cX3_isAfloat 30 = .ok (.aload_n 0, 1) := by decide +kernel
theorem dX3_isAfloat_31 : decode cX3_isAfloat 31 = .ok (.getfield 19, 3) := by decide +kernel
theorem dX3_isAfloat_34 : decode cX3_isAfloat 34 = .ok (.iload_n 1, 1) := by decide +kernel
theorem dX3_isAfloat_35 : decode cX3_isAfloat 35 = .ok (.iaload, 1) := by decide +kernel
theorem dX3_isAfloat_36 : decode cX3_isAfloat 36 = .ok (.iload_n 2, 1) := by decide +kernel
theorem dX3_isAfloat_37 : decode cX3_isAfloat 37 = .ok (.invokestatic 168, 3) := by decide +kernel
theorem dX3_isAfloat_40 : decode cX3_isAfloat 40 = .ok (.ifCond .eq 5, 3) := by decide +kernel
theorem dX3_isAfloat_43 : decode cX3_isAfloat 43 = .ok (.iconst 0, 1) := by decide +kernel
theorem dX3_isAfloat_44 : decode cX3_isAfloat 44 = .ok (.ireturn, 1) := by decide +kernel
theorem dX3_isAfloat_45 : decode cX3_isAfloat 45 = .ok (.iinc 2 1, 3) := by decide +kernel
theorem dX3_isAfloat_48 : decode cX3_isAfloat 48 = .ok (.goto (-46), 3) := by decide +kernel
theorem dX3_isAfloat_51 : decode cX3_isAfloat 51 = .ok (.iconst 1, 1) := by decide +kernel
theorem dX3_isAfloat_52 : decode cX3_isAfloat 52 = .ok (.ireturn, 1) := by decide +kernel
theorem dX3_contains_0 : decode cX3_contains 0 = .ok (.iload_n 0, 1) := by decide +kernel
theorem dX3_contains_1 : decode cX3_contains 1 = .ok (.iload_n 1, 1) := by decide +kernel
theorem dX3_contains_2 : decode cX3_contains 2 = .ok (.ishr, 1) := by decide +kernel
theorem dX3_contains_3 : decode cX3_contains 3 = .ok (.iconst 1, 1) := by decide +kernel
theorem dX3_contains_4 : decode cX3_contains 4 = .ok (.iand, 1) := by decide +kernel
theorem dX3_contains_5 : decode cX3_contains 5 = .ok (.ifCond .eq 7, 3) := by decide +kernel
theorem dX3_contains_8 : decode cX3_contains 8 = .ok (.iconst 1, 1) := by decide +kernel
theorem dX3_contains_9 : decode cX3_contains 9 = .ok (.goto 4, 3) := by decide +kernel
theorem dX3_contains_12 : decode cX3_contains 12 = .ok (.iconst 0, 1) := by decide +kernel
theorem dX3_contains_13 : decode cX3_contains 13 = .ok (.ireturn, 1) := by decide +kernel
theorem dX3_settle_0 : decode cX3_settle 0 = .ok (.aload_n 0, 1) := by decide +kernel
theorem dX3_settle_1 : decode cX3_settle 1 = .ok (.iload_n 1, 1) := by decide +kernel
theorem dX3_settle_2 : decode cX3_settle 2 = .ok (.invokevirtual 135, 3) := by decide +kernel
theorem dX3_settle_5 : decode cX3_settle 5 = .ok (.aload_n 0, 1) := by decide +kernel
theorem dX3_settle_6 : decode cX3_settle 6 = .ok (.getfield 26, 3) := by decide +kernel
theorem dX3_settle_9 : decode cX3_settle 9 = .ok (.invokevirtual 222, 3) := by decide +kernel
theorem dX3_settle_12 : decode cX3_settle 12 = .ok (.iconst 0, 1) := by decide +kernel
theorem dX3_settle_13 : decode cX3_settle 13 = .ok (.istore_n 2, 1) := by decide +kernel
theorem dX3_settle_14 : decode cX3_settle 14 = .ok (.iload_n 2, 1) := by decide +kernel
theorem dX3_settle_15 : decode cX3_settle 15 = .ok (.aload_n 0, 1) := by decide +kernel
theorem dX3_settle_16 : decode cX3_settle 16 = .ok (.getfield 12, 3) := by decide +kernel
theorem dX3_settle_19 : decode cX3_settle 19 = .ok (.invokevirtual 30, 3) := by decide +kernel
theorem dX3_settle_22 : decode cX3_settle 22 = .ok (.if_icmp .ge 60, 3) := by decide +kernel
theorem dX3_settle_25 : decode cX3_settle 25 = .ok (.aload_n 0, 1) := by decide +kernel
theorem dX3_settle_26 : decode cX3_settle 26 = .ok (.getfield 12, 3) := by decide +kernel
theorem dX3_settle_29 : decode cX3_settle 29 = .ok (.iload_n 2, 1) := by decide +kernel
theorem dX3_settle_30 : decode cX3_settle 30 = .ok (.invokevirtual 57, 3) := by decide +kernel
theorem dX3_settle_33 : decode cX3_settle 33 = .ok (.checkcast 41, 3) := by decide +kernel
theorem dX3_settle_36 : decode cX3_settle 36 = .ok (.astore_n 3, 1) := by decide +kernel
theorem dX3_settle_37 : decode cX3_settle 37 = .ok (.aload_n 3, 1) := by decide +kernel
theorem dX3_settle_38 : decode cX3_settle 38 = .ok (.getfield 61, 3) := by decide +kernel
theorem dX3_settle_41 : decode cX3_settle 41 = .ok (.ifCond .eq 19, 3) := by decide +kernel
theorem dX3_settle_44 : decode cX3_settle 44 = .ok (.aload_n 0, 1) := by decide +kernel
theorem dX3_settle_45 : decode cX3_settle 45 = .ok (.getfield 26, 3) := by decide +kernel
theorem dX3_settle_48 : decode cX3_settle 48 = .ok (.iload_n 2, 1) := by decide +kernel
theorem dX3_settle_49 : decode cX3_settle 49 = .ok (.aload_n 3, 1) := by decide +kernel
theorem dX3_settle_50 : decode cX3_settle 50 = .ok (.getfield 65, 3) := by decide +kernel
theorem dX3_settle_53 : decode cX3_settle 53 = .ok (.i2l, 1) := by decide +kernel
theorem dX3_settle_54 : decode cX3_settle 54 = .ok (.invokevirtual 225, 3) := by decide +kernel
theorem dX3_settle_57 : decode cX3_settle 57 = .ok (.goto 19, 3) := by decide +kernel
theorem dX3_settle_60 : decode cX3_settle 60 = .ok (.aload_n 0, 1) := by decide +kernel
theorem dX3_settle_61 : decode cX3_settle 61 = .ok (.iload_n 2, 1) := by decide +kernel
theorem dX3_settle_62 : decode cX3_settle 62 = .ok (.invokevirtual 138, 3) := by decide +kernel
theorem dX3_settle_65 : decode cX3_settle 65 = .ok (.ifCond .ne 11, 3) := by decide +kernel
theorem dX3_settle_68 : decode cX3_settle 68 = .ok (.aload_n 0, 1) := by decide +kernel
theorem dX3_settle_69 : decode cX3_settle 69 = .ok (.getfield 26, 3) := by decide +kernel
theorem dX3_settle_72 : decode cX3_settle 72 = .ok (.iload_n 2, 1) := by decide +kernel
theorem dX3_settle_73 : decode cX3_settle 73 = .ok (.invokevirtual 229, 3) := by decide +kernel
theorem dX3_settle_76 : decode cX3_settle 76 = .ok (.iinc 2 1, 3) := by decide +kernel
theorem dX3_settle_79 : decode cX3_settle 79 = .ok (.goto (-65), 3) := by decide +kernel
theorem dX3_settle_82 : decode cX3_settle 82 = .ok (.iconst 0, 1) := by decide +kernel
theorem dX3_settle_83 : decode cX3_settle 83 = .ok (.istore_n 2, 1) := by decide +kernel
theorem dX3_settle_84 : decode cX3_settle 84 = .ok (.iload_n 2, 1) := by decide +kernel
theorem dX3_settle_85 : decode cX3_settle 85 = .ok (.aload_n 0, 1) := by decide +kernel
theorem dX3_settle_86 : decode cX3_settle 86 = .ok (.getfield 16, 3) := by decide +kernel
theorem dX3_settle_89 : decode cX3_settle 89 = .ok (.invokevirtual 30, 3) := by decide +kernel
theorem dX3_settle_92 : decode cX3_settle 92 = .ok (.if_icmp .ge 69, 3) := by decide +kernel
theorem dX3_settle_95 : decode cX3_settle 95 = .ok (.aload_n 0, 1) := by decide +kernel
theorem dX3_settle_96 : decode cX3_settle 96 = .ok (.getfield 16, 3) := by decide +kernel
theorem dX3_settle_99 : decode cX3_settle 99 = .ok (.iload_n 2, 1) := by decide +kernel
theorem dX3_settle_100 : decode cX3_settle 100 = .ok (.invokevirtual 57, 3) := by decide +kernel
theorem dX3_settle_103 : decode cX3_settle 103 = .ok (.checkcast 77, 3) := by decide +kernel
theorem dX3_settle_106 : decode cX3_settle 106 = .ok (.astore_n 3, 1) := by decide +kernel
theorem dX3_settle_107 : decode cX3_settle 107 = .ok (.aload_n 3, 1) := by decide +kernel
theorem dX3_settle_108 : decode cX3_settle 108 = .ok (.getfield 85, 3) := by decide +kernel
theorem dX3_settle_111 : decode cX3_settle 111 = .ok (.ifCond .eq 44, 3) := by decide +kernel
theorem dX3_settle_114 : decode cX3_settle 114 = .ok (.aload_n 3, 1) := by decide +kernel
theorem dX3_settle_115 : decode cX3_settle 115 = .ok (.iload_n 1, 1) := by decide +kernel
theorem dX3_settle_116 : decode cX3_settle 116 = .ok (.invokevirtual 132, 3) := by decide +kernel
theorem dX3_settle_119 : decode cX3_settle 119 = .ok (.ifCond .eq 36, 3) := by decide +kernel
theorem dX3_settle_122 : decode cX3_settle 122 = .ok (.aload_n 0, 1) := by decide +kernel
theorem dX3_settle_123 : decode cX3_settle 123 = .ok (.getfield 26, 3) := by decide +kernel
theorem dX3_settle_126 : decode cX3_settle 126 = .ok (.aload_n 3, 1) := by decide +kernel
theorem dX3_settle_127 : decode cX3_settle 127 = .ok (.getfield 159, 3) := by decide +kernel
theorem dX3_settle_130 : decode cX3_settle 130 = .ok (.aload_n 3, 1) := by decide +kernel
theorem dX3_settle_131 : decode cX3_settle 131 = .ok (.getfield 88, 3) := by decide +kernel
theorem dX3_settle_134 : decode cX3_settle 134 = .ok (.ineg, 1) := by decide +kernel
theorem dX3_settle_135 : decode cX3_settle 135 = .ok (.i2l, 1) := by decide +kernel
theorem dX3_settle_136 : decode cX3_settle 136 = .ok (.invokevirtual 232, 3) := by decide +kernel
theorem dX3_settle_139 : decode cX3_settle 139 = .ok (.aload_n 0, 1) := by decide +kernel
theorem dX3_settle_140 : decode cX3_settle 140 = .ok (.getfield 26, 3) := by decide +kernel
theorem dX3_settle_143 : decode cX3_settle 143 = .ok (.aload_n 3, 1) := by decide +kernel
theorem dX3_settle_144 : decode cX3_settle 144 = .ok (.getfield 182, 3) := by decide +kernel
theorem dX3_settle_147 : decode cX3_settle 147 = .ok (.aload_n 3, 1) := by decide +kernel
theorem dX3_settle_148 : decode cX3_settle 148 = .ok (.getfield 88, 3) := by decide +kernel
theorem dX3_settle_151 : decode cX3_settle 151 = .ok (.i2l, 1) := by decide +kernel
theorem dX3_settle_152 : decode cX3_settle 152 = .ok (.invokevirtual 232, 3) := by decide +kernel
theorem dX3_settle_155 : decode cX3_settle 155 = .ok (.iinc 2 1, 3) := by decide +kernel
theorem dX3_settle_158 : decode cX3_settle 158 = .ok (.goto (-74), 3) := by decide +kernel
theorem dX3_settle_161 : decode cX3_settle 161 = .ok (.aload_n 0, 1) := by decide +kernel
theorem dX3_settle_162 : decode cX3_settle 162 = .ok (.iload_n 1, 1) := by decide +kernel
theorem dX3_settle_163 : decode cX3_settle 163 = .ok (.invokevirtual 235, 3) := by decide +kernel
theorem dX3_settle_166 : decode cX3_settle 166 = .ok (.aload_n 0, 1) := by decide +kernel
theorem dX3_settle_167 : decode cX3_settle 167 = .ok (.getfield 26, 3) := by decide +kernel
theorem dX3_settle_170 : decode cX3_settle 170 = .ok (.invokevirtual 238, 3) := by decide +kernel
theorem dX3_settle_173 : decode cX3_settle 173 = .ok (.return_, 1) := by decide +kernel
theorem dX3_drive_0 : decode cX3_drive 0 = .ok (.aload_n 0, 1) := by decide +kernel
theorem dX3_drive_1 : decode cX3_drive 1 = .ok (.getfield 26, 3) := by decide +kernel
theorem dX3_drive_4 : decode cX3_drive 4 = .ok (.invokevirtual 222, 3) := by decide +kernel
theorem dX3_drive_7 : decode cX3_drive 7 = .ok (.iconst 0, 1) := by decide +kernel
theorem dX3_drive_8 : decode cX3_drive 8 = .ok (.istore 4, 2) := by decide +kernel
theorem dX3_drive_10 : decode cX3_drive 10 = .ok (.iload 4, 2) := by decide +kernel
theorem dX3_drive_12 : decode cX3_drive 12 = .ok (.aload_n 0, 1) := by decide +kernel
theorem dX3_drive_13 : decode cX3_drive 13 = .ok (.getfield 12, 3) := by decide +kernel
theorem dX3_drive_16 : decode cX3_drive 16 = .ok (.invokevirtual 30, 3) := by decide +kernel
theorem dX3_drive_19 : decode cX3_drive 19 = .ok (.if_icmp .ge 38, 3) := by decide +kernel
theorem dX3_drive_22 : decode cX3_drive 22 = .ok (.iload 4, 2) := by decide +kernel
theorem dX3_drive_24 : decode cX3_drive 24 = .ok (.iload_n 2, 1) := by decide +kernel
theorem dX3_drive_25 : decode cX3_drive 25 = .ok (.if_icmp .eq 26, 3) := by decide +kernel
theorem dX3_drive_28 : decode cX3_drive 28 = .ok (.aload_n 0, 1) := by decide +kernel
theorem dX3_drive_29 : decode cX3_drive 29 = .ok (.getfield 19, 3) := by decide +kernel
theorem dX3_drive_32 : decode cX3_drive 32 = .ok (.iload_n 2, 1) := by decide +kernel
theorem dX3_drive_33 : decode cX3_drive 33 = .ok (.iaload, 1) := by decide +kernel
theorem dX3_drive_34 : decode cX3_drive 34 = .ok (.iload 4, 2) := by decide +kernel
theorem dX3_drive_36 : decode cX3_drive 36 = .ok (.invokestatic 168, 3) := by decide +kernel
theorem dX3_drive_39 : decode cX3_drive 39 = .ok (.ifCond .eq 12, 3) := by decide +kernel
theorem dX3_drive_42 : decode cX3_drive 42 = .ok (.aload_n 0, 1) := by decide +kernel
theorem dX3_drive_43 : decode cX3_drive 43 = .ok (.getfield 26, 3) := by decide +kernel
theorem dX3_drive_46 : decode cX3_drive 46 = .ok (.iload 4, 2) := by decide +kernel
theorem dX3_drive_48 : decode cX3_drive 48 = .ok (.invokevirtual 229, 3) := by decide +kernel
theorem dX3_drive_51 : decode cX3_drive 51 = .ok (.iinc 4 1, 3) := by decide +kernel
theorem dX3_drive_54 : decode cX3_drive 54 = .ok (.goto (-44), 3) := by decide +kernel
theorem dX3_drive_57 : decode cX3_drive 57 = .ok (.aload_n 0, 1) := by decide +kernel
theorem dX3_drive_58 : decode cX3_drive 58 = .ok (.getfield 26, 3) := by decide +kernel
theorem dX3_drive_61 : decode cX3_drive 61 = .ok (.iload_n 1, 1) := by decide +kernel
theorem dX3_drive_62 : decode cX3_drive 62 = .ok (.lconst 1, 1) := by decide +kernel
theorem dX3_drive_63 : decode cX3_drive 63 = .ok (.invokevirtual 232, 3) := by decide +kernel
theorem dX3_drive_66 : decode cX3_drive 66 = .ok (.aload_n 0, 1) := by decide +kernel
theorem dX3_drive_67 : decode cX3_drive 67 = .ok (.iload_n 3, 1) := by decide +kernel
theorem dX3_drive_68 : decode cX3_drive 68 = .ok (.invokevirtual 235, 3) := by decide +kernel
theorem dX3_drive_71 : decode cX3_drive 71 = .ok (.aload_n 0, 1) := by decide +kernel
theorem dX3_drive_72 : decode cX3_drive 72 = .ok (.getfield 26, 3) := by decide +kernel
theorem dX3_drive_75 : decode cX3_drive 75 = .ok (.invokevirtual 238, 3) := by decide +kernel
theorem dX3_drive_78 : decode cX3_drive 78 = .ok (.return_, 1) := by decide +kernel
theorem dX3_conduct_0 : decode cX3_conduct 0 = .ok (.iconst 0, 1) := by decide +kernel
theorem dX3_conduct_1 : decode cX3_conduct 1 = .ok (.istore_n 2, 1) := by decide +kernel
theorem dX3_conduct_2 : decode cX3_conduct 2 = .ok (.iload_n 2, 1) := by decide +kernel
theorem dX3_conduct_3 : decode cX3_conduct 3 = .ok (.aload_n 0, 1) := by decide +kernel
theorem dX3_conduct_4 : decode cX3_conduct 4 = .ok (.getfield 16, 3) := by decide +kernel
theorem dX3_conduct_7 : decode cX3_conduct 7 = .ok (.invokevirtual 30, 3) := by decide +kernel
theorem dX3_conduct_10 : decode cX3_conduct 10 = .ok (.if_icmp .ge 56, 3) := by decide +kernel
theorem dX3_conduct_13 : decode cX3_conduct 13 = .ok (.aload_n 0, 1) := by decide +kernel
theorem dX3_conduct_14 : decode cX3_conduct 14 = .ok (.getfield 16, 3) := by decide +kernel
theorem dX3_conduct_17 : decode cX3_conduct 17 = .ok (.iload_n 2, 1) := by decide +kernel
theorem dX3_conduct_18 : decode cX3_conduct 18 = .ok (.invokevirtual 57, 3) := by decide +kernel
theorem dX3_conduct_21 : decode cX3_conduct 21 = .ok (.checkcast 77, 3) := by decide +kernel
theorem dX3_conduct_24 : decode cX3_conduct 24 = .ok (.astore_n 3, 1) := by decide +kernel
theorem dX3_conduct_25 : decode cX3_conduct 25 = .ok (.aload_n 3, 1) := by decide +kernel
theorem dX3_conduct_26 : decode cX3_conduct 26 = .ok (.getfield 85, 3) := by decide +kernel
theorem dX3_conduct_29 : decode cX3_conduct 29 = .ok (.ifCond .ne 31, 3) := by decide +kernel
theorem dX3_conduct_32 : decode cX3_conduct 32 = .ok (.aload_n 3, 1) := by decide +kernel
theorem dX3_conduct_33 : decode cX3_conduct 33 = .ok (.iload_n 1, 1) := by decide +kernel
theorem dX3_conduct_34 : decode cX3_conduct 34 = .ok (.invokevirtual 132, 3) := by decide +kernel
theorem dX3_conduct_37 : decode cX3_conduct 37 = .ok (.ifCond .eq 23, 3) := by decide +kernel
theorem dX3_conduct_40 : decode cX3_conduct 40 = .ok (.aload_n 0, 1) := by decide +kernel
theorem dX3_conduct_41 : decode cX3_conduct 41 = .ok (.getfield 26, 3) := by decide +kernel
theorem dX3_conduct_44 : decode cX3_conduct 44 = .ok (.aload_n 3, 1) := by decide +kernel
theorem dX3_conduct_45 : decode cX3_conduct 45 = .ok (.getfield 159, 3) := by decide +kernel
theorem dX3_conduct_48 : decode cX3_conduct 48 = .ok (.aload_n 3, 1) := by decide +kernel
theorem dX3_conduct_49 : decode cX3_conduct 49 = .ok (.getfield 182, 3) := by decide +kernel
theorem dX3_conduct_52 : decode cX3_conduct 52 = .ok (.aload_n 3, 1) := by decide +kernel
theorem dX3_conduct_53 : decode cX3_conduct 53 = .ok (.getfield 88, 3) := by decide +kernel
theorem dX3_conduct_56 : decode cX3_conduct 56 = .ok (.i2l, 1) := by decide +kernel
theorem dX3_conduct_57 : decode cX3_conduct 57 = .ok (.invokevirtual 241, 3) := by decide +kernel
theorem dX3_conduct_60 : decode cX3_conduct 60 = .ok (.iinc 2 1, 3) := by decide +kernel
theorem dX3_conduct_63 : decode cX3_conduct 63 = .ok (.goto (-61), 3) := by decide +kernel
theorem dX3_conduct_66 : decode cX3_conduct 66 = .ok (.return_, 1) := by decide +kernel
theorem dX3_flowOut_0 : decode cX3_flowOut 0 = .ok (.iload_n 2, 1) := by decide +kernel
theorem dX3_flowOut_1 : decode cX3_flowOut 1 = .ok (.aload_n 1, 1) := by decide +kernel
theorem dX3_flowOut_2 : decode cX3_flowOut 2 = .ok (.getfield 159, 3) := by decide +kernel
theorem dX3_flowOut_5 : decode cX3_flowOut 5 = .ok (.if_icmp .eq 13, 3) := by decide +kernel
theorem dX3_flowOut_8 : decode cX3_flowOut 8 = .ok (.iload_n 2, 1) := by decide +kernel
theorem dX3_flowOut_9 : decode cX3_flowOut 9 = .ok (.aload_n 1, 1) := by decide +kernel
theorem dX3_flowOut_10 : decode cX3_flowOut 10 = .ok (.getfield 182, 3) := by decide +kernel
theorem dX3_flowOut_13 : decode cX3_flowOut 13 = .ok (.if_icmp .eq 5, 3) := by decide +kernel
theorem dX3_flowOut_16 : decode cX3_flowOut 16 = .ok (.lconst 0, 1) := by decide +kernel
theorem dX3_flowOut_17 : decode cX3_flowOut 17 = .ok (.lreturn, 1) := by decide +kernel
theorem dX3_flowOut_18 : decode cX3_flowOut 18 = .ok (.aload_n 1, 1) := by decide +kernel
theorem dX3_flowOut_19 : decode cX3_flowOut 19 = .ok (.getfield 85, 3) := by decide +kernel
theorem dX3_flowOut_22 : decode cX3_flowOut 22 = .ok (.ifCond .eq 19, 3) := by decide +kernel
theorem dX3_flowOut_25 : decode cX3_flowOut 25 = .ok (.aload_n 1, 1) := by decide +kernel
theorem dX3_flowOut_26 : decode cX3_flowOut 26 = .ok (.getfield 88, 3) := by decide +kernel
theorem dX3_flowOut_29 : decode cX3_flowOut 29 = .ok (.i2l, 1) := by decide +kernel
theorem dX3_flowOut_30 : decode cX3_flowOut 30 = .ok (.aload_n 0, 1) := by decide +kernel
theorem dX3_flowOut_31 : decode cX3_flowOut 31 = .ok (.getfield 26, 3) := by decide +kernel
theorem dX3_flowOut_34 : decode cX3_flowOut 34 = .ok (.invokevirtual 151, 3) := by decide +kernel
theorem dX3_flowOut_37 : decode cX3_flowOut 37 = .ok (.lmul, 1) := by decide +kernel
theorem dX3_flowOut_38 : decode cX3_flowOut 38 = .ok (.goto 32, 3) := by decide +kernel
theorem dX3_flowOut_41 : decode cX3_flowOut 41 = .ok (.aload_n 1, 1) := by decide +kernel
theorem dX3_flowOut_42 : decode cX3_flowOut 42 = .ok (.getfield 88, 3) := by decide +kernel
theorem dX3_flowOut_45 : decode cX3_flowOut 45 = .ok (.i2l, 1) := by decide +kernel
theorem dX3_flowOut_46 : decode cX3_flowOut 46 = .ok (.aload_n 0, 1) := by decide +kernel
theorem dX3_flowOut_47 : decode cX3_flowOut 47 = .ok (.getfield 26, 3) := by decide +kernel
theorem dX3_flowOut_50 : decode cX3_flowOut 50 = .ok (.aload_n 1, 1) := by decide +kernel
theorem dX3_flowOut_51 : decode cX3_flowOut 51 = .ok (.getfield 159, 3) := by decide +kernel
theorem dX3_flowOut_54 : decode cX3_flowOut 54 = .ok (.invokevirtual 147, 3) := by decide +kernel
theorem dX3_flowOut_57 : decode cX3_flowOut 57 = .ok (.aload_n 0, 1) := by decide +kernel
theorem dX3_flowOut_58 : decode cX3_flowOut 58 = .ok (.getfield 26, 3) := by decide +kernel
theorem dX3_flowOut_61 : decode cX3_flowOut 61 = .ok (.aload_n 1, 1) := by decide +kernel
theorem dX3_flowOut_62 : decode cX3_flowOut 62 = .ok (.getfield 182, 3) := by decide +kernel
theorem dX3_flowOut_65 : decode cX3_flowOut 65 = .ok (.invokevirtual 147, 3) := by decide +kernel
theorem dX3_flowOut_68 : decode cX3_flowOut 68 = .ok (.lsub, 1) := by decide +kernel
theorem dX3_flowOut_69 : decode cX3_flowOut 69 = .ok (.lmul, 1) := by decide +kernel
theorem dX3_flowOut_70 : decode cX3_flowOut 70 = .ok (.lstore_n 3, 1) := by decide +kernel
theorem dX3_flowOut_71 : decode cX3_flowOut 71 = .ok (.iload_n 2, 1) := by decide +kernel
theorem dX3_flowOut_72 : decode cX3_flowOut 72 = .ok (.aload_n 1, 1) := by decide +kernel
theorem dX3_flowOut_73 : decode cX3_flowOut 73 = .ok (.getfield 159, 3) := by decide +kernel
theorem dX3_flowOut_76 : decode cX3_flowOut 76 = .ok (.if_icmp .ne 7, 3) := by decide +kernel
theorem dX3_flowOut_79 : decode cX3_flowOut 79 = .ok (.lload_n 3, 1) := by decide +kernel
theorem dX3_flowOut_80 : decode cX3_flowOut 80 = .ok (.goto 5, 3) := by decide +kernel
theorem dX3_flowOut_83 : decode cX3_flowOut 83 = .ok (.lload_n 3, 1) := by decide +kernel
theorem dX3_flowOut_84 : decode cX3_flowOut 84 = .ok (.lneg, 1) := by decide +kernel
theorem dX3_flowOut_85 : decode cX3_flowOut 85 = .ok (.lreturn, 1) := by decide +kernel
theorem dX3_quotientAt_0 : decode cX3_quotientAt 0 = .ok (.aload_n 0, 1) := by decide +kernel
theorem dX3_quotientAt_1 : decode cX3_quotientAt 1 = .ok (.getfield 26, 3) := by decide +kernel
theorem dX3_quotientAt_4 : decode cX3_quotientAt 4 = .ok (.iload_n 1, 1) := by decide +kernel
theorem dX3_quotientAt_5 : decode cX3_quotientAt 5 = .ok (.invokevirtual 147, 3) := by decide +kernel
theorem dX3_quotientAt_8 : decode cX3_quotientAt 8 = .ok (.aload_n 0, 1) := by decide +kernel
theorem dX3_quotientAt_9 : decode cX3_quotientAt 9 = .ok (.getfield 26, 3) := by decide +kernel
theorem dX3_quotientAt_12 : decode cX3_quotientAt 12 = .ok (.invokevirtual 151, 3) := by decide +kernel
theorem dX3_quotientAt_15 : decode cX3_quotientAt 15 = .ok (.iconst 1, 1) := by decide +kernel
theorem dX3_quotientAt_16 : decode cX3_quotientAt 16 = .ok (.invokestatic 155, 3) := by decide +kernel
theorem dX3_quotientAt_19 : decode cX3_quotientAt 19 = .ok (.l2d, 1) := by decide +kernel
theorem dX3_quotientAt_20 : decode cX3_quotientAt 20 = .ok (.dstore_n 2, 1) := by decide +kernel
theorem dX3_quotientAt_21 : decode cX3_quotientAt 21 = .ok (.aload_n 0, 1) := by decide +kernel
theorem dX3_quotientAt_22 : decode cX3_quotientAt 22 = .ok (.getfield 26, 3) := by decide +kernel
theorem dX3_quotientAt_25 : decode cX3_quotientAt 25 = .ok (.iload_n 1, 1) := by decide +kernel
theorem dX3_quotientAt_26 : decode cX3_quotientAt 26 = .ok (.invokevirtual 147, 3) := by decide +kernel
theorem dX3_quotientAt_29 : decode cX3_quotientAt 29 = .ok (.aload_n 0, 1) := by decide +kernel
theorem dX3_quotientAt_30 : decode cX3_quotientAt 30 = .ok (.getfield 26, 3) := by decide +kernel
theorem dX3_quotientAt_33 : decode cX3_quotientAt 33 = .ok (.invokevirtual 151, 3) := by decide +kernel
theorem dX3_quotientAt_36 : decode cX3_quotientAt 36 = .ok (.iconst 0, 1) := by decide +kernel
theorem dX3_quotientAt_37 : decode cX3_quotientAt 37 = .ok (.invokestatic 155, 3) := by decide +kernel
theorem dX3_quotientAt_40 : decode cX3_quotientAt 40 = .ok (.l2d, 1) := by decide +kernel
theorem dX3_quotientAt_41 : decode cX3_quotientAt 41 = .ok (.dstore 4, 2) := by decide +kernel
theorem dX3_quotientAt_43 : decode cX3_quotientAt 43 = .ok (.dload 4, 2) := by decide +kernel
theorem dX3_quotientAt_45 : decode cX3_quotientAt 45 = .ok (.dconst 0, 1) := by decide +kernel
theorem dX3_quotientAt_46 : decode cX3_quotientAt 46 = .ok (.dcmp .l, 1) := by decide +kernel
theorem dX3_quotientAt_47 : decode cX3_quotientAt 47 = .ok (.ifCond .le 10, 3) := by decide +kernel
theorem dX3_quotientAt_50 : decode cX3_quotientAt 50 = .ok (.dload_n 2, 1) := by decide +kernel
theorem dX3_quotientAt_51 : decode cX3_quotientAt 51 = .ok (.dload 4, 2) := by decide +kernel
theorem dX3_quotientAt_53 : decode cX3_quotientAt 53 = .ok (.ddiv, 1) := by decide +kernel
theorem dX3_quotientAt_54 : decode cX3_quotientAt 54 = .ok (.goto 4, 3) := by decide +kernel
theorem dX3_quotientAt_57 : decode cX3_quotientAt 57 = .ok (.dconst 0, 1) := by decide +kernel
theorem dX3_quotientAt_58 : decode cX3_quotientAt 58 = .ok (.dreturn, 1) := by decide +kernel
theorem dX3_firstToggleBehind_0 : decode cX3_firstToggleBehind 0 = .ok (.iconst (-1), 1) := by decide +kernel
theorem dX3_firstToggleBehind_1 : decode cX3_firstToggleBehind 1 = .ok (.istore_n 2, 1) := by decide +kernel
theorem dX3_firstToggleBehind_2 : decode cX3_firstToggleBehind 2 = .ok (.iconst 0, 1) := by decide +kernel
theorem dX3_firstToggleBehind_3 : decode cX3_firstToggleBehind 3 = .ok (.istore_n 3, 1) := by decide +kernel
theorem dX3_firstToggleBehind_4 : decode cX3_firstToggleBehind 4 = .ok (.iload_n 3, 1) := by decide +kernel
theorem dX3_firstToggleBehind_5 : decode cX3_firstToggleBehind 5 = .ok (.aload_n 0, 1) := by decide +kernel
theorem dX3_firstToggleBehind_6 : decode cX3_firstToggleBehind 6 = .ok (.getfield 16, 3) := by decide +kernel
theorem dX3_firstToggleBehind_9 : decode cX3_firstToggleBehind 9 = .ok (.invokevirtual 30, 3) := by decide +kernel
theorem dX3_firstToggleBehind_12 : decode cX3_firstToggleBehind 12 = .ok (.if_icmp .ge 44, 3) := by decide +kernel
theorem dX3_firstToggleBehind_15 : decode cX3_firstToggleBehind 15 = .ok (.aload_n 0, 1) := by decide +kernel
theorem dX3_firstToggleBehind_16 : decode cX3_firstToggleBehind 16 = .ok (.getfield 16, 3) := by decide +kernel
theorem dX3_firstToggleBehind_19 : decode cX3_firstToggleBehind 19 = .ok (.iload_n 3, 1) := by decide +kernel
theorem dX3_firstToggleBehind_20 : decode cX3_firstToggleBehind 20 = .ok (.invokevirtual 57, 3) := by decide +kernel
theorem dX3_firstToggleBehind_23 : decode cX3_firstToggleBehind 23 = .ok (.checkcast 77, 3) := by decide +kernel
theorem dX3_firstToggleBehind_26 : decode cX3_firstToggleBehind 26 = .ok (.iload_n 1, 1) := by decide +kernel
theorem dX3_firstToggleBehind_27 : decode cX3_firstToggleBehind 27 = .ok (.invokevirtual 245, 3) := by decide +kernel
theorem dX3_firstToggleBehind_30 : decode cX3_firstToggleBehind 30 = .ok (.istore 4, 2) := by decide +kernel
theorem dX3_firstToggleBehind_32 : decode cX3_firstToggleBehind 32 = .ok (.iload 4, 2) := by decide +kernel
theorem dX3_firstToggleBehind_34 : decode cX3_firstToggleBehind 34 = .ok (.ifCond .lt 16, 3) := by decide +kernel
theorem dX3_firstToggleBehind_37 : decode cX3_firstToggleBehind 37 = .ok (.iload_n 2, 1) := by decide +kernel
theorem dX3_firstToggleBehind_38 : decode cX3_firstToggleBehind 38 = .ok (.ifCond .lt 9, 3) := by decide +kernel
theorem dX3_firstToggleBehind_41 : decode cX3_firstToggleBehind 41 = .ok (.iload 4, 2) := by decide +kernel
theorem dX3_firstToggleBehind_43 : decode cX3_firstToggleBehind 43 = .ok (.iload_n 2, 1) := by decide +kernel
theorem dX3_firstToggleBehind_44 : decode cX3_firstToggleBehind 44 = .ok (.if_icmp .ge 6, 3) := by decide +kernel
theorem dX3_firstToggleBehind_47 : decode cX3_firstToggleBehind 47 = .ok (.iload 4, 2) := by decide +kernel
theorem dX3_firstToggleBehind_49 : decode cX3_firstToggleBehind 49 = .ok (.istore_n 2, 1) := by decide +kernel
theorem dX3_firstToggleBehind_50 : decode cX3_firstToggleBehind 50 = .ok (.iinc 3 1, 3) := by decide +kernel
theorem dX3_firstToggleBehind_53 : decode cX3_firstToggleBehind 53 = .ok (.goto (-49), 3) := by decide +kernel
theorem dX3_firstToggleBehind_56 : decode cX3_firstToggleBehind 56 = .ok (.iload_n 2, 1) := by decide +kernel
theorem dX3_firstToggleBehind_57 : decode cX3_firstToggleBehind 57 = .ok (.ireturn, 1) := by decide +kernel
theorem dX3_partOf_0 : decode cX3_partOf 0 = .ok (.iload 4, 2) := by decide +kernel
theorem dX3_partOf_2 : decode cX3_partOf 2 = .ok (.ifCond .eq 7, 3) := by decide +kernel
theorem dX3_partOf_5 : decode cX3_partOf 5 = .ok (.lload_n 0, 1) := by decide +kernel
theorem dX3_partOf_6 : decode cX3_partOf 6 = .ok (.goto 4, 3) := by decide +kernel
theorem dX3_partOf_9 : decode cX3_partOf 9 = .ok (.lload_n 2, 1) := by decide +kernel
theorem dX3_partOf_10 : decode cX3_partOf 10 = .ok (.lstore 5, 2) := by decide +kernel
theorem dX3_partOf_12 : decode cX3_partOf 12 = .ok (.lload_n 0, 1) := by decide +kernel
theorem dX3_partOf_13 : decode cX3_partOf 13 = .ok (.invokestatic 266, 3) := by decide +kernel
theorem dX3_partOf_16 : decode cX3_partOf 16 = .ok (.lload_n 2, 1) := by decide +kernel
theorem dX3_partOf_17 : decode cX3_partOf 17 = .ok (.invokestatic 271, 3) := by decide +kernel
theorem dX3_partOf_20 : decode cX3_partOf 20 = .ok (.lstore 7, 2) := by decide +kernel
theorem dX3_partOf_22 : decode cX3_partOf 22 = .ok (.lload 7, 2) := by decide +kernel
theorem dX3_partOf_24 : decode cX3_partOf 24 = .ok (.lconst 1, 1) := by decide +kernel
theorem dX3_partOf_25 : decode cX3_partOf 25 = .ok (.lcmp, 1) := by decide +kernel
theorem dX3_partOf_26 : decode cX3_partOf 26 = .ok (.ifCond .le 11, 3) := by decide +kernel
theorem dX3_partOf_29 : decode cX3_partOf 29 = .ok (.lload 5, 2) := by decide +kernel
theorem dX3_partOf_31 : decode cX3_partOf 31 = .ok (.lload 7, 2) := by decide +kernel
theorem dX3_partOf_33 : decode cX3_partOf 33 = .ok (.ldiv, 1) := by decide +kernel
theorem dX3_partOf_34 : decode cX3_partOf 34 = .ok (.goto 5, 3) := by decide +kernel
theorem dX3_partOf_37 : decode cX3_partOf 37 = .ok (.lload 5, 2) := by decide +kernel
theorem dX3_partOf_39 : decode cX3_partOf 39 = .ok (.lreturn, 1) := by decide +kernel
theorem dX3_commonDivisor_0 : decode cX3_commonDivisor 0 = .ok (.lload_n 0, 1) := by decide +kernel
theorem dX3_commonDivisor_1 : decode cX3_commonDivisor 1 = .ok (.lstore 4, 2) := by decide +kernel
theorem dX3_commonDivisor_3 : decode cX3_commonDivisor 3 = .ok (.lload_n 2, 1) := by decide +kernel
theorem dX3_commonDivisor_4 : decode cX3_commonDivisor 4 = .ok (.lstore 6, 2) := by decide +kernel
theorem dX3_commonDivisor_6 : decode cX3_commonDivisor 6 = .ok (.iconst 0, 1) := by decide +kernel
theorem dX3_commonDivisor_7 : decode cX3_commonDivisor 7 = .ok (.istore 8, 2) := by decide +kernel
theorem dX3_commonDivisor_9 : decode cX3_commonDivisor 9 = .ok (.iload 8, 2) := by decide +kernel
theorem dX3_commonDivisor_11 : decode cX3_commonDivisor 11 = .ok (.sipush 200, 3) := by decide +kernel
theorem dX3_commonDivisor_14 : decode cX3_commonDivisor 14 = .ok (.if_icmp .ge 31, 3) := by decide +kernel
theorem dX3_commonDivisor_17 : decode cX3_commonDivisor 17 = .ok (.lload 6, 2) := by decide +kernel
theorem dX3_commonDivisor_19 : decode cX3_commonDivisor 19 = .ok (.lconst 0, 1) := by decide +kernel
theorem dX3_commonDivisor_20 : decode cX3_commonDivisor 20 = .ok (.lcmp, 1) := by decide +kernel
theorem dX3_commonDivisor_21 : decode cX3_commonDivisor 21 = .ok (.ifCond .eq 24, 3) := by decide +kernel
theorem dX3_commonDivisor_24 : decode cX3_commonDivisor 24 = .ok (.lload 4, 2) := by decide +kernel
theorem dX3_commonDivisor_26 : decode cX3_commonDivisor 26 = .ok (.lload 6, 2) := by decide +kernel
theorem dX3_commonDivisor_28 : decode cX3_commonDivisor 28 = .ok (.lrem, 1) := by decide +kernel
theorem dX3_commonDivisor_29 : decode cX3_commonDivisor 29 = .ok (.lstore 9, 2) := by decide +kernel
theorem dX3_commonDivisor_31 : decode cX3_commonDivisor 31 = .ok (.lload 6, 2) := by decide +kernel
theorem dX3_commonDivisor_33 : decode cX3_commonDivisor 33 = .ok (.lstore 4, 2) := by decide +kernel
theorem dX3_commonDivisor_35 : decode cX3_commonDivisor 35 = .ok (.lload 9, 2) := by decide +kernel
theorem dX3_commonDivisor_37 : decode cX3_commonDivisor 37 = .ok (.lstore 6, 2) := by decide +kernel
theorem dX3_commonDivisor_39 : decode cX3_commonDivisor 39 = .ok (.iinc 8 1, 3) := by decide +kernel
theorem dX3_commonDivisor_42 : decode cX3_commonDivisor 42 = .ok (.goto (-33), 3) := by decide +kernel
theorem dX3_commonDivisor_45 : decode cX3_commonDivisor 45 = .ok (.lload 4, 2) := by decide +kernel
theorem dX3_commonDivisor_47 : decode cX3_commonDivisor 47 = .ok (.lreturn, 1) := by decide +kernel
theorem dX3_compareFractions_0 : decode cX3_compareFractions 0 = .ok (.lload_n 0, 1) := by decide +kernel
theorem dX3_compareFractions_1 : decode cX3_compareFractions 1 = .ok (.lstore 8, 2) := by decide +kernel
theorem dX3_compareFractions_3 : decode cX3_compareFractions 3 = .ok (.lload_n 2, 1) := by decide +kernel
theorem dX3_compareFractions_4 : decode cX3_compareFractions 4 = .ok (.lstore 10, 2) := by decide +kernel
theorem dX3_compareFractions_6 : decode cX3_compareFractions 6 = .ok (.lload 4, 2) := by decide +kernel
theorem dX3_compareFractions_8 : decode cX3_compareFractions 8 = .ok (.lstore 12, 2) := by decide +kernel
theorem dX3_compareFractions_10 : decode cX3_compareFractions 10 = .ok (.lload 6, 2) := by decide +kernel
theorem dX3_compareFractions_12 : decode cX3_compareFractions 12 = .ok (.lstore 14, 2) := by decide +kernel
theorem dX3_compareFractions_14 : decode cX3_compareFractions 14 = .ok (.iconst 1, 1) := by decide +kernel
theorem dX3_compareFractions_15 : decode cX3_compareFractions 15 = .ok (.istore 16, 2) := by decide +kernel
theorem dX3_compareFractions_17 : decode cX3_compareFractions 17 = .ok (.iconst 0, 1) := by decide +kernel
theorem dX3_compareFractions_18 : decode cX3_compareFractions 18 = .ok (.istore 17, 2) := by decide +kernel
theorem dX3_compareFractions_20 : decode cX3_compareFractions 20 = .ok (.iload 17, 2) := by decide +kernel
theorem dX3_compareFractions_22 : decode cX3_compareFractions 22 = .ok (.sipush 200, 3) := by decide +kernel
theorem dX3_compareFractions_25 : decode cX3_compareFractions 25 = .ok (.if_icmp .ge 105, 3) := by decide +kernel
theorem dX3_compareFractions_28 : decode cX3_compareFractions 28 = .ok (.lload 10, 2) := by decide +kernel
theorem dX3_compareFractions_30 : decode cX3_compareFractions 30 = .ok (.lconst 0, 1) := by decide +kernel
theorem dX3_compareFractions_31 : decode cX3_compareFractions 31 = .ok (.lcmp, 1) := by decide +kernel
theorem dX3_compareFractions_32 : decode cX3_compareFractions 32 = .ok (.ifCond .eq 98, 3) := by decide +kernel
theorem dX3_compareFractions_35 : decode cX3_compareFractions 35 = .ok (.lload 14, 2) := by decide +kernel
theorem dX3_compareFractions_37 : decode cX3_compareFractions 37 = .ok (.lconst 0, 1) := by decide +kernel
theorem dX3_compareFractions_38 : decode cX3_compareFractions 38 = .ok (.lcmp, 1) := by decide +kernel
theorem dX3_compareFractions_39 : decode cX3_compareFractions 39 = .ok (.ifCond .eq 91, 3) := by decide +kernel
theorem dX3_compareFractions_42 : decode cX3_compareFractions 42 = .ok (.lload 8, 2) := by decide +kernel
theorem dX3_compareFractions_44 : decode cX3_compareFractions 44 = .ok (.lload 10, 2) := by decide +kernel
theorem dX3_compareFractions_46 : decode cX3_compareFractions 46 = .ok (.invokestatic 274, 3) := by decide +kernel
theorem dX3_compareFractions_49 : decode cX3_compareFractions 49 = .ok (.lstore 18, 2) := by decide +kernel
theorem dX3_compareFractions_51 : decode cX3_compareFractions 51 = .ok (.lload 12, 2) := by decide +kernel
theorem dX3_compareFractions_53 : decode cX3_compareFractions 53 = .ok (.lload 14, 2) := by decide +kernel
theorem dX3_compareFractions_55 : decode cX3_compareFractions 55 = .ok (.invokestatic 274, 3) := by decide +kernel
theorem dX3_compareFractions_58 : decode cX3_compareFractions 58 = .ok (.lstore 20, 2) := by decide +kernel
theorem dX3_compareFractions_60 : decode cX3_compareFractions 60 = .ok (.lload 18, 2) := by decide +kernel
theorem dX3_compareFractions_62 : decode cX3_compareFractions 62 = .ok (.lload 20, 2) := by decide +kernel
theorem dX3_compareFractions_64 : decode cX3_compareFractions 64 = .ok (.lcmp, 1) := by decide +kernel
theorem dX3_compareFractions_65 : decode cX3_compareFractions 65 = .ok (.ifCond .eq 20, 3) := by decide +kernel
theorem dX3_compareFractions_68 : decode cX3_compareFractions 68 = .ok (.lload 18, 2) := by decide +kernel
theorem dX3_compareFractions_70 : decode cX3_compareFractions 70 = .ok (.lload 20, 2) := by decide +kernel
theorem dX3_compareFractions_72 : decode cX3_compareFractions 72 = .ok (.lcmp, 1) := by decide +kernel
theorem dX3_compareFractions_73 : decode cX3_compareFractions 73 = .ok (.ifCond .le 8, 3) := by decide +kernel
theorem dX3_compareFractions_76 : decode cX3_compareFractions 76 = .ok (.iload 16, 2) := by decide +kernel
theorem dX3_compareFractions_78 : decode cX3_compareFractions 78 = .ok (.goto 6, 3) := by decide +kernel
theorem dX3_compareFractions_81 : decode cX3_compareFractions 81 = .ok (.iload 16, 2) := by decide +kernel
theorem dX3_compareFractions_83 : decode cX3_compareFractions 83 = .ok (.ineg, 1) := by decide +kernel
theorem dX3_compareFractions_84 : decode cX3_compareFractions 84 = .ok (.ireturn, 1) := by decide +kernel
theorem dX3_compareFractions_85 : decode cX3_compareFractions 85 = .ok (.lload 8, 2) := by decide +kernel
theorem dX3_compareFractions_87 : decode cX3_compareFractions 87 = .ok (.lload 10, 2) := by decide +kernel
theorem dX3_compareFractions_89 : decode cX3_compareFractions 89 = .ok (.invokestatic 277, 3) := by decide +kernel
theorem dX3_compareFractions_92 : decode cX3_compareFractions 92 = .ok (.lstore 22, 2) := by decide +kernel
theorem dX3_compareFractions_94 : decode cX3_compareFractions 94 = .ok (.lload 12, 2) := by decide +kernel
theorem dX3_compareFractions_96 : decode cX3_compareFractions 96 = .ok (.lload 14, 2) := by decide +kernel
theorem dX3_compareFractions_98 : decode cX3_compareFractions 98 = .ok (.invokestatic 277, 3) := by decide +kernel
theorem dX3_compareFractions_101 : decode cX3_compareFractions 101 = .ok (.lstore 24, 2) := by decide +kernel
theorem dX3_compareFractions_103 : decode cX3_compareFractions 103 = .ok (.lload 10, 2) := by decide +kernel
theorem dX3_compareFractions_105 : decode cX3_compareFractions 105 = .ok (.lstore 8, 2) := by decide +kernel
theorem dX3_compareFractions_107 : decode cX3_compareFractions 107 = .ok (.lload 22, 2) := by decide +kernel
theorem dX3_compareFractions_109 : decode cX3_compareFractions 109 = .ok (.lstore 10, 2) := by decide +kernel
theorem dX3_compareFractions_111 : decode cX3_compareFractions 111 = .ok (.lload 14, 2) := by decide +kernel
theorem dX3_compareFractions_113 : decode cX3_compareFractions 113 = .ok (.lstore 12, 2) := by decide +kernel
theorem dX3_compareFractions_115 : decode cX3_compareFractions 115 = .ok (.lload 24, 2) := by decide +kernel
theorem dX3_compareFractions_117 : decode cX3_compareFractions 117 = .ok (.lstore 14, 2) := by decide +kernel
theorem dX3_compareFractions_119 : decode cX3_compareFractions 119 = .ok (.iload 16, 2) := by decide +kernel
theorem dX3_compareFractions_121 : decode cX3_compareFractions 121 = .ok (.ineg, 1) := by decide +kernel
theorem dX3_compareFractions_122 : decode cX3_compareFractions 122 = .ok (.istore 16, 2) := by decide +kernel
theorem dX3_compareFractions_124 : decode cX3_compareFractions 124 = .ok (.iinc 17 1, 3) := by decide +kernel
theorem dX3_compareFractions_127 : decode cX3_compareFractions 127 = .ok (.goto (-107), 3) := by decide +kernel
theorem dX3_compareFractions_130 : decode cX3_compareFractions 130 = .ok (.lload 10, 2) := by decide +kernel
theorem dX3_compareFractions_132 : decode cX3_compareFractions 132 = .ok (.lload 14, 2) := by decide +kernel
theorem dX3_compareFractions_134 : decode cX3_compareFractions 134 = .ok (.lcmp, 1) := by decide +kernel
theorem dX3_compareFractions_135 : decode cX3_compareFractions 135 = .ok (.ifCond .ne 5, 3) := by decide +kernel
theorem dX3_compareFractions_138 : decode cX3_compareFractions 138 = .ok (.iconst 0, 1) := by decide +kernel
theorem dX3_compareFractions_139 : decode cX3_compareFractions 139 = .ok (.ireturn, 1) := by decide +kernel
theorem dX3_compareFractions_140 : decode cX3_compareFractions 140 = .ok (.lload 10, 2) := by decide +kernel
theorem dX3_compareFractions_142 : decode cX3_compareFractions 142 = .ok (.lconst 0, 1) := by decide +kernel
theorem dX3_compareFractions_143 : decode cX3_compareFractions 143 = .ok (.lcmp, 1) := by decide +kernel
theorem dX3_compareFractions_144 : decode cX3_compareFractions 144 = .ok (.ifCond .ne 8, 3) := by decide +kernel
theorem dX3_compareFractions_147 : decode cX3_compareFractions 147 = .ok (.iload 16, 2) := by decide +kernel
theorem dX3_compareFractions_149 : decode cX3_compareFractions 149 = .ok (.goto 6, 3) := by decide +kernel
theorem dX3_compareFractions_152 : decode cX3_compareFractions 152 = .ok (.iload 16, 2) := by decide +kernel
theorem dX3_compareFractions_154 : decode cX3_compareFractions 154 = .ok (.ineg, 1) := by decide +kernel
theorem dX3_compareFractions_155 : decode cX3_compareFractions 155 = .ok (.ireturn, 1) := by decide +kernel
theorem dX4_init_0 : decode cX4_init 0 = .ok (.aload_n 0, 1) := by decide +kernel
theorem dX4_init_1 : decode cX4_init 1 = .ok (.invokespecial 1, 3) := by decide +kernel
theorem dX4_init_4 : decode cX4_init 4 = .ok (.aload_n 0, 1) := by decide +kernel
theorem dX4_init_5 : decode cX4_init 5 = .ok (.iconst 0, 1) := by decide +kernel
theorem dX4_init_6 : decode cX4_init 6 = .ok (.newarray .int, 2) := by decide +kernel
theorem dX4_init_8 : decode cX4_init 8 = .ok (.putfield 7, 3) := by decide +kernel
theorem dX4_init_11 : decode cX4_init 11 = .ok (.aload_n 0, 1) := by decide +kernel
theorem dX4_init_12 : decode cX4_init 12 = .ok (.iconst 0, 1) := by decide +kernel
theorem dX4_init_13 : decode cX4_init 13 = .ok (.anewarray 13, 3) := by decide +kernel
theorem dX4_init_16 : decode cX4_init 16 = .ok (.putfield 14, 3) := by decide +kernel
theorem dX4_init_19 : decode cX4_init 19 = .ok (.return_, 1) := by decide +kernel
theorem dX4_more_0 : decode cX4_more 0 = .ok (.aload_n 0, 1) := by decide +kernel
theorem dX4_more_1 : decode cX4_more 1 = .ok (.arraylength, 1) := by decide +kernel
theorem dX4_more_2 : decode cX4_more 2 = .ok (.iconst 1, 1) := by decide +kernel
theorem dX4_more_3 : decode cX4_more 3 = .ok (.iadd, 1) := by decide +kernel
theorem dX4_more_4 : decode cX4_more 4 = .ok (.newarray .int, 2) := by decide +kernel
theorem dX4_more_6 : decode cX4_more 6 = .ok (.astore_n 2, 1) := by decide +kernel
theorem dX4_more_7 : decode cX4_more 7 = .ok (.iconst 0, 1) := by decide +kernel
theorem dX4_more_8 : decode cX4_more 8 = .ok (.istore_n 3, 1) := by decide +kernel
theorem dX4_more_9 : decode cX4_more 9 = .ok (.iload_n 3, 1) := by decide +kernel
theorem dX4_more_10 : decode cX4_more 10 = .ok (.aload_n 0, 1) := by decide +kernel
theorem dX4_more_11 : decode cX4_more 11 = .ok (.arraylength, 1) := by decide +kernel
theorem dX4_more_12 : decode cX4_more 12 = .ok (.if_icmp .ge 15, 3) := by decide +kernel
theorem dX4_more_15 : decode cX4_more 15 = .ok (.aload_n 2, 1) := by decide +kernel
theorem dX4_more_16 : decode cX4_more 16 = .ok (.iload_n 3, 1) := by decide +kernel
theorem dX4_more_17 : decode cX4_more 17 = .ok (.aload_n 0, 1) := by decide +kernel
theorem dX4_more_18 : decode cX4_more 18 = .ok (.iload_n 3, 1) := by decide +kernel
theorem dX4_more_19 : decode cX4_more 19 = .ok (.iaload, 1) := by decide +kernel
theorem dX4_more_20 : decode cX4_more 20 = .ok (.iastore, 1) := by decide +kernel
theorem dX4_more_21 : decode cX4_more 21 = .ok (.iinc 3 1, 3) := by decide +kernel
theorem dX4_more_24 : decode cX4_more 24 = .ok (.goto (-15), 3) := by decide +kernel
theorem dX4_more_27 : decode cX4_more 27 = .ok (.aload_n 2, 1) := by decide +kernel
theorem dX4_more_28 : decode cX4_more 28 = .ok (.aload_n 0, 1) := by decide +kernel
theorem dX4_more_29 : decode cX4_more 29 = .ok (.arraylength, 1) := by decide +kernel
theorem dX4_more_30 : decode cX4_more 30 = .ok (.iload_n 1, 1) := by decide +kernel
theorem dX4_more_31 : decode cX4_more 31 = .ok (.iastore, 1) := by decide +kernel
theorem dX4_more_32 : decode cX4_more 32 = .ok (.aload_n 2, 1) := by decide +kernel
theorem dX4_more_33 : decode cX4_more 33 = .ok (.areturn, 1) := by decide +kernel
theorem dX4_isOn_0 : decode cX4_isOn 0 = .ok (.aload_n 0, 1) := by decide +kernel
theorem dX4_isOn_1 : decode cX4_isOn 1 = .ok (.getfield 14, 3) := by decide +kernel
theorem dX4_isOn_4 : decode cX4_isOn 4 = .ok (.iload_n 1, 1) := by decide +kernel
theorem dX4_isOn_5 : decode cX4_isOn 5 = .ok (.aaload, 1) := by decide +kernel
theorem dX4_isOn_6 : decode cX4_isOn 6 = .ok (.iconst 4, 1) := by decide +kernel
theorem dX4_isOn_7 : decode cX4_isOn 7 = .ok (.iaload, 1) := by decide +kernel
theorem dX4_isOn_8 : decode cX4_isOn 8 = .ok (.iconst 1, 1) := by decide +kernel
theorem dX4_isOn_9 : decode cX4_isOn 9 = .ok (.if_icmp .ne 7, 3) := by decide +kernel
theorem dX4_isOn_12 : decode cX4_isOn 12 = .ok (.iconst 1, 1) := by decide +kernel
theorem dX4_isOn_13 : decode cX4_isOn 13 = .ok (.goto 4, 3) := by decide +kernel
theorem dX4_isOn_16 : decode cX4_isOn 16 = .ok (.iconst 0, 1) := by decide +kernel
theorem dX4_isOn_17 : decode cX4_isOn 17 = .ok (.istore_n 3, 1) := by decide +kernel
theorem dX4_isOn_18 : decode cX4_isOn 18 = .ok (.iconst 5, 1) := by decide +kernel
theorem dX4_isOn_19 : decode cX4_isOn 19 = .ok (.istore 4, 2) := by decide +kernel
theorem dX4_isOn_21 : decode cX4_isOn 21 = .ok (.iload 4, 2) := by decide +kernel
theorem dX4_isOn_23 : decode cX4_isOn 23 = .ok (.aload_n 0, 1) := by decide +kernel
theorem dX4_isOn_24 : decode cX4_isOn 24 = .ok (.getfield 14, 3) := by decide +kernel
theorem dX4_isOn_27 : decode cX4_isOn 27 = .ok (.iload_n 1, 1) := by decide +kernel
theorem dX4_isOn_28 : decode cX4_isOn 28 = .ok (.aaload, 1) := by decide +kernel
theorem dX4_isOn_29 : decode cX4_isOn 29 = .ok (.arraylength, 1) := by decide +kernel
theorem dX4_isOn_30 : decode cX4_isOn 30 = .ok (.if_icmp .ge 32, 3) := by decide +kernel
theorem dX4_isOn_33 : decode cX4_isOn 33 = .ok (.aload_n 0, 1) := by decide +kernel
theorem dX4_isOn_34 : decode cX4_isOn 34 = .ok (.getfield 14, 3) := by decide +kernel
theorem dX4_isOn_37 : decode cX4_isOn 37 = .ok (.iload_n 1, 1) := by decide +kernel
theorem dX4_isOn_38 : decode cX4_isOn 38 = .ok (.aaload, 1) := by decide +kernel
theorem dX4_isOn_39 : decode cX4_isOn 39 = .ok (.iload 4, 2) := by decide +kernel
theorem dX4_isOn_41 : decode cX4_isOn 41 = .ok (.iaload, 1) := by decide +kernel
theorem dX4_isOn_42 : decode cX4_isOn 42 = .ok (.iload_n 2, 1) := by decide +kernel
theorem dX4_isOn_43 : decode cX4_isOn 43 = .ok (.if_icmp .gt 13, 3) := by decide +kernel
theorem dX4_isOn_46 : decode cX4_isOn 46 = .ok (.iload_n 3, 1) := by decide +kernel
theorem dX4_isOn_47 : decode cX4_isOn 47 = .ok (.ifCond .ne 7, 3) := by decide +kernel
theorem dX4_isOn_50 : decode cX4_isOn 50 = .ok (.iconst 1, 1) := by decide +kernel
theorem dX4_isOn_51 : decode cX4_isOn 51 = .ok (.goto 4, 3) := by decide +kernel
theorem dX4_isOn_54 : decode cX4_isOn 54 = .ok (.iconst 0, 1) := by decide +kernel
theorem dX4_isOn_55 : decode cX4_isOn 55 = .ok (.istore_n 3, 1) := by decide +kernel
theorem dX4_isOn_56 : decode cX4_isOn 56 = .ok (.iinc 4 1, 3) := by decide +kernel
theorem dX4_isOn_59 : decode cX4_isOn 59 = .ok (.goto (-38), 3) := by decide +kernel
theorem dX4_isOn_62 : decode cX4_isOn 62 = .ok (.iload_n 3, 1) := by decide +kernel
theorem dX4_isOn_63 : decode cX4_isOn 63 = .ok (.ireturn, 1) := by decide +kernel
theorem dX4_conducts_0 : decode cX4_conducts 0 = .ok (.aload_n 0, 1) := by decide +kernel
theorem dX4_conducts_1 : decode cX4_conducts 1 = .ok (.getfield 14, 3) := by decide +kernel
theorem dX4_conducts_4 : decode cX4_conducts 4 = .ok (.iload_n 1, 1) := by decide +kernel
theorem dX4_conducts_5 : decode cX4_conducts 5 = .ok (.aaload, 1) := by decide +kernel
theorem dX4_conducts_6 : decode cX4_conducts 6 = .ok (.iconst 0, 1) := by decide +kernel
theorem dX4_conducts_7 : decode cX4_conducts 7 = .ok (.iaload, 1) := by decide +kernel
theorem dX4_conducts_8 : decode cX4_conducts 8 = .ok (.ifCond .ne 16, 3) := by decide +kernel
theorem dX4_conducts_11 : decode cX4_conducts 11 = .ok (.aload_n 0, 1) := by decide +kernel
theorem dX4_conducts_12 : decode cX4_conducts 12 = .ok (.iload_n 1, 1) := by decide +kernel
theorem dX4_conducts_13 : decode cX4_conducts 13 = .ok (.iload_n 2, 1) := by decide +kernel
theorem dX4_conducts_14 : decode cX4_conducts 14 = .ok (.invokevirtual 18, 3) := by decide +kernel
theorem dX4_conducts_17 : decode cX4_conducts 17 = .ok (.ifCond .eq 7, 3) := by decide +kernel
theorem dX4_conducts_20 : decode cX4_conducts 20 = .ok (.iconst 1, 1) := by decide +kernel
theorem dX4_conducts_21 : decode cX4_conducts 21 = .ok (.goto 4, 3) := by decide +kernel
theorem dX4_conducts_24 : decode cX4_conducts 24 = .ok (.iconst 0, 1) := by decide +kernel
theorem dX4_conducts_25 : decode cX4_conducts 25 = .ok (.ireturn, 1) := by decide +kernel
theorem dX4_isWay_0 : decode cX4_isWay 0 = .ok (.aload_n 0, 1) := by decide +kernel
theorem dX4_isWay_1 : decode cX4_isWay 1 = .ok (.getfield 7, 3) := by decide +kernel
theorem dX4_isWay_4 : decode cX4_isWay 4 = .ok (.arraylength, 1) := by decide +kernel
theorem dX4_isWay_5 : decode cX4_isWay 5 = .ok (.newarray .boolean, 2) := by decide +kernel
theorem dX4_isWay_7 : decode cX4_isWay 7 = .ok (.astore 4, 2) := by decide +kernel
theorem dX4_isWay_9 : decode cX4_isWay 9 = .ok (.aload 4, 2) := by decide +kernel
theorem dX4_isWay_11 : decode cX4_isWay 11 = .ok (.iload_n 1, 1) := by decide +kernel
theorem dX4_isWay_12 : decode cX4_isWay 12 = .ok (.iconst 1, 1) := by decide +kernel
theorem dX4_isWay_13 : decode cX4_isWay 13 = .ok (.bastore, 1) := by decide +kernel
theorem dX4_isWay_14 : decode cX4_isWay 14 = .ok (.iconst 0, 1) := by decide +kernel
theorem dX4_isWay_15 : decode cX4_isWay 15 = .ok (.istore 5, 2) := by decide +kernel
theorem dX4_isWay_17 : decode cX4_isWay 17 = .ok (.iload 5, 2) := by decide +kernel
theorem dX4_isWay_19 : decode cX4_isWay 19 = .ok (.aload_n 0, 1) := by decide +kernel
theorem dX4_isWay_20 : decode cX4_isWay 20 = .ok (.getfield 7, 3) := by decide +kernel
theorem dX4_isWay_23 : decode cX4_isWay 23 = .ok (.arraylength, 1) := by decide +kernel
theorem dX4_isWay_24 : decode cX4_isWay 24 = .ok (.if_icmp .ge 91, 3) := by decide +kernel
theorem dX4_isWay_27 : decode cX4_isWay 27 = .ok (.iconst 0, 1) := by decide +kernel
theorem dX4_isWay_28 : decode cX4_isWay 28 = .ok (.istore 6, 2) := by decide +kernel
theorem dX4_isWay_30 : decode cX4_isWay 30 = .ok (.iload 6, 2) := by decide +kernel
theorem dX4_isWay_32 : decode cX4_isWay 32 = .ok (.aload_n 0, 1) := by decide +kernel
theorem dX4_isWay_33 : decode cX4_isWay 33 = .ok (.getfield 14, 3) := by decide +kernel
theorem dX4_isWay_36 : decode cX4_isWay 36 = .ok (.arraylength, 1) := by decide +kernel
theorem dX4_isWay_37 : decode cX4_isWay 37 = .ok (.if_icmp .ge 72, 3) := by decide +kernel
theorem dX4_isWay_40 : decode cX4_isWay 40 = .ok (.aload_n 0, 1) := by decide +kernel
theorem dX4_isWay_41 : decode cX4_isWay 41 = .ok (.iload 6, 2) := by decide +kernel
theorem dX4_isWay_43 : decode cX4_isWay 43 = .ok (.iload_n 3, 1) := by decide +kernel
theorem dX4_isWay_44 : decode cX4_isWay 44 = .ok (.invokevirtual 22, 3) := by decide +kernel
theorem dX4_isWay_47 : decode cX4_isWay 47 = .ok (.ifCond .eq 56, 3) := by decide +kernel
theorem dX4_isWay_50 : decode cX4_isWay 50 = .ok (.aload 4, 2) := by decide +kernel
theorem dX4_isWay_52 : decode cX4_isWay 52 = .ok (.aload_n 0, 1) := by decide +kernel
theorem dX4_isWay_53 : decode cX4_isWay 53 = .ok (.getfield 14, 3) := by decide +kernel
theorem dX4_isWay_56 : decode cX4_isWay 56 = .ok (.iload 6, 2) := by decide +kernel
theorem dX4_isWay_58 : decode cX4_isWay 58 = .ok (.aaload, 1) := by decide +kernel
theorem dX4_isWay_59 : decode cX4_isWay 59 = .ok (.iconst 1, 1) := by decide +kernel
theorem dX4_isWay_60 : decode cX4_isWay 60 = .ok (.iaload, 1) := by decide +kernel
theorem dX4_isWay_61 : decode cX4_isWay 61 = .ok (.baload, 1) := by decide +kernel
theorem dX4_isWay_62 : decode cX4_isWay 62 = .ok (.aload 4, 2) := by decide +kernel
theorem dX4_isWay_64 : decode cX4_isWay 64 = .ok (.aload_n 0, 1) := by decide +kernel
theorem dX4_isWay_65 : decode cX4_isWay 65 = .ok (.getfield 14, 3) := by decide +kernel
theorem dX4_isWay_68 : decode cX4_isWay 68 = .ok (.iload 6, 2) := by decide +kernel
theorem dX4_isWay_70 : decode cX4_isWay 70 = .ok (.aaload, 1) := by decide +kernel
theorem dX4_isWay_71 : decode cX4_isWay 71 = .ok (.iconst 2, 1) := by decide +kernel
theorem dX4_isWay_72 : decode cX4_isWay 72 = .ok (.iaload, 1) := by decide +kernel
theorem dX4_isWay_73 : decode cX4_isWay 73 = .ok (.baload, 1) := by decide +kernel
theorem dX4_isWay_74 : decode cX4_isWay 74 = .ok (.if_icmp .eq 29, 3) := by decide +kernel
theorem dX4_isWay_77 : decode cX4_isWay 77 = .ok (.aload 4, 2) := by decide +kernel
theorem dX4_isWay_79 : decode cX4_isWay 79 = .ok (.aload_n 0, 1) := by decide +kernel
theorem dX4_isWay_80 : decode cX4_isWay 80 = .ok (.getfield 14, 3) := by decide +kernel
theorem dX4_isWay_83 : decode cX4_isWay 83 = .ok (.iload 6, 2) := by decide +kernel
theorem dX4_isWay_85 : decode cX4_isWay 85 = .ok (.aaload, 1) := by decide +kernel
theorem dX4_isWay_86 : decode cX4_isWay 86 = .ok (.iconst 1, 1) := by decide +kernel
theorem dX4_isWay_87 : decode cX4_isWay 87 = .ok (.iaload, 1) := by decide +kernel
theorem dX4_isWay_88 : decode cX4_isWay 88 = .ok (.iconst 1, 1) := by decide +kernel
theorem dX4_isWay_89 : decode cX4_isWay 89 = .ok (.bastore, 1) := by decide +kernel
theorem dX4_isWay_90 : decode cX4_isWay 90 = .ok (.aload 4, 2) := by decide +kernel
theorem dX4_isWay_92 : decode cX4_isWay 92 = .ok (.aload_n 0, 1) := by decide +kernel
theorem dX4_isWay_93 : decode cX4_isWay 93 = .ok (.getfield 14, 3) := by decide +kernel
theorem dX4_isWay_96 : decode cX4_isWay 96 = .ok (.iload 6, 2) := by decide +kernel
theorem dX4_isWay_98 : decode cX4_isWay 98 = .ok (.aaload, 1) := by decide +kernel
theorem dX4_isWay_99 : decode cX4_isWay 99 = .ok (.iconst 2, 1) := by decide +kernel
theorem dX4_isWay_100 : decode cX4_isWay 100 = .ok (.iaload, 1) := by decide +kernel
theorem dX4_isWay_101 : decode cX4_isWay 101 = .ok (.iconst 1, 1) := by decide +kernel
theorem dX4_isWay_102 : decode cX4_isWay 102 = .ok (.bastore, 1) := by decide +kernel
theorem dX4_isWay_103 : decode cX4_isWay 103 = .ok (.iinc 6 1, 3) := by decide +kernel
theorem dX4_isWay_106 : decode cX4_isWay 106 = .ok (.goto (-76), 3) := by decide +kernel
theorem dX4_isWay_109 : decode cX4_isWay 109 = .ok (.iinc 5 1, 3) := by decide +kernel
theorem dX4_isWay_112 : decode cX4_isWay 112 = .ok (.goto (-95), 3) := by decide +kernel
theorem dX4_isWay_115 : decode cX4_isWay 115 = .ok (.aload 4, 2) := by decide +kernel
theorem dX4_isWay_117 : decode cX4_isWay 117 = .ok (.iload_n 2, 1) := by decide +kernel
theorem dX4_isWay_118 : decode cX4_isWay 118 = .ok (.baload, 1) := by decide +kernel
theorem dX4_isWay_119 : decode cX4_isWay 119 = .ok (.ireturn, 1) := by decide +kernel
theorem dX4_floats_0 : decode cX4_floats 0 = .ok (.iconst 0, 1) := by decide +kernel
theorem dX4_floats_1 : decode cX4_floats 1 = .ok (.istore_n 3, 1) := by decide +kernel
theorem dX4_floats_2 : decode cX4_floats 2 = .ok (.iload_n 3, 1) := by decide +kernel
theorem dX4_floats_3 : decode cX4_floats 3 = .ok (.aload_n 0, 1) := by decide +kernel
theorem dX4_floats_4 : decode cX4_floats 4 = .ok (.getfield 7, 3) := by decide +kernel
theorem dX4_floats_7 : decode cX4_floats 7 = .ok (.arraylength, 1) := by decide +kernel
theorem dX4_floats_8 : decode cX4_floats 8 = .ok (.if_icmp .ge 32, 3) := by decide +kernel
theorem dX4_floats_11 : decode cX4_floats 11 = .ok (.aload_n 0, 1) := by decide +kernel
theorem dX4_floats_12 : decode cX4_floats 12 = .ok (.getfield 7, 3) := by decide +kernel
theorem dX4_floats_15 : decode cX4_floats 15 = .ok (.iload_n 3, 1) := by decide +kernel
theorem dX4_floats_16 : decode cX4_floats 16 = .ok (.iaload, 1) := by decide +kernel
theorem dX4_floats_17 : decode cX4_floats 17 = .ok (.bipush 100, 2) := by decide +kernel
theorem dX4_floats_19 : decode cX4_floats 19 = .ok (.if_icmp .ge 15, 3) := by decide +kernel
theorem dX4_floats_22 : decode cX4_floats 22 = .ok (.aload_n 0, 1) := by decide +kernel
theorem dX4_floats_23 : decode cX4_floats 23 = .ok (.iload_n 1, 1) := by decide +kernel
theorem dX4_floats_24 : decode cX4_floats 24 = .ok (.iload_n 3, 1) := by decide +kernel
theorem dX4_floats_25 : decode cX4_floats 25 = .ok (.iload_n 2, 1) := by decide +kernel
theorem dX4_floats_26 : decode cX4_floats 26 = .ok (.invokevirtual 25, 3) := by decide +kernel
theorem dX4_floats_29 : decode cX4_floats 29 = .ok (.ifCond .eq 5, 3) := by decide +kernel
theorem dX4_floats_32 : decode cX4_floats 32 = .ok (.iconst 0, 1) := by decide +kernel
theorem dX4_floats_33 : decode cX4_floats 33 = .ok (.ireturn, 1) := by decide +kernel
theorem dX4_floats_34 : decode cX4_floats 34 = .ok (.iinc 3 1, 3) := by decide +kernel
theorem dX4_floats_37 : decode cX4_floats 37 = .ok (.goto (-35), 3) := by decide +kernel
theorem dX4_floats_40 : decode cX4_floats 40 = .ok (.iconst 1, 1) := by decide +kernel
theorem dX4_floats_41 : decode cX4_floats 41 = .ok (.ireturn, 1) := by decide +kernel
theorem dJ6_bitCount_0f7a4_0 : decode cJ6_bitCount_0f7a4 0 = .ok (.iload_n 0, 1) := by decide +kernel
theorem dJ6_bitCount_0f7a4_1 : decode cJ6_bitCount_0f7a4 1 = .ok (.iload_n 0, 1) := by decide +kernel
theorem dJ6_bitCount_0f7a4_2 : decode cJ6_bitCount_0f7a4 2 = .ok (.iconst 1, 1) := by decide +kernel
theorem dJ6_bitCount_0f7a4_3 : decode cJ6_bitCount_0f7a4 3 = .ok (.iushr, 1) := by decide +kernel
theorem dJ6_bitCount_0f7a4_4 : decode cJ6_bitCount_0f7a4 4 = .ok (.ldc_w 265, 3) := by decide +kernel
theorem dJ6_bitCount_0f7a4_7 : decode cJ6_bitCount_0f7a4 7 = .ok (.iand, 1) := by decide +kernel
theorem dJ6_bitCount_0f7a4_8 : decode cJ6_bitCount_0f7a4 8 = .ok (.isub, 1) := by decide +kernel
theorem dJ6_bitCount_0f7a4_9 : decode cJ6_bitCount_0f7a4 9 = .ok (.istore_n 0, 1) := by decide +kernel
theorem dJ6_bitCount_0f7a4_10 : decode cJ6_bitCount_0f7a4 10 = .ok (.iload_n 0, 1) := by decide +kernel
theorem dJ6_bitCount_0f7a4_11 : decode cJ6_bitCount_0f7a4 11 = .ok (.ldc_w 266, 3) := by decide +kernel
theorem dJ6_bitCount_0f7a4_14 : decode cJ6_bitCount_0f7a4 14 = .ok (.iand, 1) := by decide +kernel
theorem dJ6_bitCount_0f7a4_15 : decode cJ6_bitCount_0f7a4 15 = .ok (.iload_n 0, 1) := by decide +kernel
theorem dJ6_bitCount_0f7a4_16 : decode cJ6_bitCount_0f7a4 16 = .ok (.iconst 2, 1) := by decide +kernel
theorem dJ6_bitCount_0f7a4_17 : decode cJ6_bitCount_0f7a4 17 = .ok (.iushr, 1) := by decide +kernel
theorem dJ6_bitCount_0f7a4_18 : decode cJ6_bitCount_0f7a4 18 = .ok (.ldc_w 266, 3) := by decide +kernel
theorem dJ6_bitCount_0f7a4_21 : decode cJ6_bitCount_0f7a4 21 = .ok (.iand, 1) := by decide +kernel
theorem dJ6_bitCount_0f7a4_22 : decode cJ6_bitCount_0f7a4 22 = .ok (.iadd, 1) := by decide +kernel
theorem dJ6_bitCount_0f7a4_23 : decode cJ6_bitCount_0f7a4 23 = .ok (.istore_n 0, 1) := by decide +kernel
theorem dJ6_bitCount_0f7a4_24 : decode cJ6_bitCount_0f7a4 24 = .ok (.iload_n 0, 1) := by decide +kernel
theorem dJ6_bitCount_0f7a4_25 : decode cJ6_bitCount_0f7a4 25 = .ok (.iload_n 0, 1) := by decide +kernel
theorem dJ6_bitCount_0f7a4_26 : decode cJ6_bitCount_0f7a4 26 = .ok (.iconst 4, 1) := by decide +kernel
theorem dJ6_bitCount_0f7a4_27 : decode cJ6_bitCount_0f7a4 27 = .ok (.iushr, 1) := by decide +kernel
theorem dJ6_bitCount_0f7a4_28 : decode cJ6_bitCount_0f7a4 28 = .ok (.iadd, 1) := by decide +kernel
theorem dJ6_bitCount_0f7a4_29 : decode cJ6_bitCount_0f7a4 29 = .ok (.ldc_w 267, 3) := by decide +kernel
theorem dJ6_bitCount_0f7a4_32 : decode cJ6_bitCount_0f7a4 32 = .ok (.iand, 1) := by decide +kernel
theorem dJ6_bitCount_0f7a4_33 : decode cJ6_bitCount_0f7a4 33 = .ok (.istore_n 0, 1) := by decide +kernel
theorem dJ6_bitCount_0f7a4_34 : decode cJ6_bitCount_0f7a4 34 = .ok (.iload_n 0, 1) := by decide +kernel
theorem dJ6_bitCount_0f7a4_35 : decode cJ6_bitCount_0f7a4 35 = .ok (.iload_n 0, 1) := by decide +kernel
theorem dJ6_bitCount_0f7a4_36 : decode cJ6_bitCount_0f7a4 36 = .ok (.bipush 8, 2) := by decide +kernel
theorem dJ6_bitCount_0f7a4_38 : decode cJ6_bitCount_0f7a4 38 = .ok (.iushr, 1) := by decide +kernel
theorem dJ6_bitCount_0f7a4_39 : decode cJ6_bitCount_0f7a4 39 = .ok (.iadd, 1) := by decide +kernel
theorem dJ6_bitCount_0f7a4_40 : decode cJ6_bitCount_0f7a4 40 = .ok (.istore_n 0, 1) := by decide +kernel
theorem dJ6_bitCount_0f7a4_41 : decode cJ6_bitCount_0f7a4 41 = .ok (.iload_n 0, 1) := by decide +kernel
theorem dJ6_bitCount_0f7a4_42 : decode cJ6_bitCount_0f7a4 42 = .ok (.iload_n 0, 1) := by decide +kernel
theorem dJ6_bitCount_0f7a4_43 : decode cJ6_bitCount_0f7a4 43 = .ok (.bipush 16, 2) := by decide +kernel
theorem dJ6_bitCount_0f7a4_45 : decode cJ6_bitCount_0f7a4 45 = .ok (.iushr, 1) := by decide +kernel
theorem dJ6_bitCount_0f7a4_46 : decode cJ6_bitCount_0f7a4 46 = .ok (.iadd, 1) := by decide +kernel
theorem dJ6_bitCount_0f7a4_47 : decode cJ6_bitCount_0f7a4 47 = .ok (.istore_n 0, 1) := by decide +kernel
theorem dJ6_bitCount_0f7a4_48 : decode cJ6_bitCount_0f7a4 48 = .ok (.iload_n 0, 1) := by decide +kernel
theorem dJ6_bitCount_0f7a4_49 : decode cJ6_bitCount_0f7a4 49 = .ok (.bipush 63, 2) := by decide +kernel
theorem dJ6_bitCount_0f7a4_51 : decode cJ6_bitCount_0f7a4 51 = .ok (.iand, 1) := by decide +kernel
theorem dJ6_bitCount_0f7a4_52 : decode cJ6_bitCount_0f7a4 52 = .ok (.ireturn, 1) := by decide +kernel
theorem dJ9_floorDiv_f86c9_0 : decode cJ9_floorDiv_f86c9 0 = .ok (.lload_n 0, 1) := by decide +kernel
theorem dJ9_floorDiv_f86c9_1 : decode cJ9_floorDiv_f86c9 1 = .ok (.lload_n 2, 1) := by decide +kernel
theorem dJ9_floorDiv_f86c9_2 : decode cJ9_floorDiv_f86c9 2 = .ok (.ldiv, 1) := by decide +kernel
theorem dJ9_floorDiv_f86c9_3 : decode cJ9_floorDiv_f86c9 3 = .ok (.lstore 4, 2) := by decide +kernel
theorem dJ9_floorDiv_f86c9_5 : decode cJ9_floorDiv_f86c9 5 = .ok (.lload_n 0, 1) := by decide +kernel
theorem dJ9_floorDiv_f86c9_6 : decode cJ9_floorDiv_f86c9 6 = .ok (.lload_n 2, 1) := by decide +kernel
theorem dJ9_floorDiv_f86c9_7 : decode cJ9_floorDiv_f86c9 7 = .ok (.lxor, 1) := by decide +kernel
theorem dJ9_floorDiv_f86c9_8 : decode cJ9_floorDiv_f86c9 8 = .ok (.lconst 0, 1) := by decide +kernel
theorem dJ9_floorDiv_f86c9_9 : decode cJ9_floorDiv_f86c9 9 = .ok (.lcmp, 1) := by decide +kernel
theorem dJ9_floorDiv_f86c9_10 : decode cJ9_floorDiv_f86c9 10 = .ok (.ifCond .ge 17, 3) := by decide +kernel
theorem dJ9_floorDiv_f86c9_13 : decode cJ9_floorDiv_f86c9 13 = .ok (.lload 4, 2) := by decide +kernel
theorem dJ9_floorDiv_f86c9_15 : decode cJ9_floorDiv_f86c9 15 = .ok (.lload_n 2, 1) := by decide +kernel
theorem dJ9_floorDiv_f86c9_16 : decode cJ9_floorDiv_f86c9 16 = .ok (.lmul, 1) := by decide +kernel
theorem dJ9_floorDiv_f86c9_17 : decode cJ9_floorDiv_f86c9 17 = .ok (.lload_n 0, 1) := by decide +kernel
theorem dJ9_floorDiv_f86c9_18 : decode cJ9_floorDiv_f86c9 18 = .ok (.lcmp, 1) := by decide +kernel
theorem dJ9_floorDiv_f86c9_19 : decode cJ9_floorDiv_f86c9 19 = .ok (.ifCond .eq 8, 3) := by decide +kernel
theorem dJ9_floorDiv_f86c9_22 : decode cJ9_floorDiv_f86c9 22 = .ok (.lload 4, 2) := by decide +kernel
theorem dJ9_floorDiv_f86c9_24 : decode cJ9_floorDiv_f86c9 24 = .ok (.lconst 1, 1) := by decide +kernel
theorem dJ9_floorDiv_f86c9_25 : decode cJ9_floorDiv_f86c9 25 = .ok (.lsub, 1) := by decide +kernel
theorem dJ9_floorDiv_f86c9_26 : decode cJ9_floorDiv_f86c9 26 = .ok (.lreturn, 1) := by decide +kernel
theorem dJ9_floorDiv_f86c9_27 : decode cJ9_floorDiv_f86c9 27 = .ok (.lload 4, 2) := by decide +kernel
theorem dJ9_floorDiv_f86c9_29 : decode cJ9_floorDiv_f86c9 29 = .ok (.lreturn, 1) := by decide +kernel
theorem dJ9_floorMod_f86c9_0 : decode cJ9_floorMod_f86c9 0 = .ok (.lload_n 0, 1) := by decide +kernel
theorem dJ9_floorMod_f86c9_1 : decode cJ9_floorMod_f86c9 1 = .ok (.lload_n 2, 1) := by decide +kernel
theorem dJ9_floorMod_f86c9_2 : decode cJ9_floorMod_f86c9 2 = .ok (.lrem, 1) := by decide +kernel
theorem dJ9_floorMod_f86c9_3 : decode cJ9_floorMod_f86c9 3 = .ok (.lstore 4, 2) := by decide +kernel
theorem dJ9_floorMod_f86c9_5 : decode cJ9_floorMod_f86c9 5 = .ok (.lload_n 0, 1) := by decide +kernel
theorem dJ9_floorMod_f86c9_6 : decode cJ9_floorMod_f86c9 6 = .ok (.lload_n 2, 1) := by decide +kernel
theorem dJ9_floorMod_f86c9_7 : decode cJ9_floorMod_f86c9 7 = .ok (.lxor, 1) := by decide +kernel
theorem dJ9_floorMod_f86c9_8 : decode cJ9_floorMod_f86c9 8 = .ok (.lconst 0, 1) := by decide +kernel
theorem dJ9_floorMod_f86c9_9 : decode cJ9_floorMod_f86c9 9 = .ok (.lcmp, 1) := by decide +kernel
theorem dJ9_floorMod_f86c9_10 : decode cJ9_floorMod_f86c9 10 = .ok (.ifCond .ge 15, 3) := by decide +kernel
theorem dJ9_floorMod_f86c9_13 : decode cJ9_floorMod_f86c9 13 = .ok (.lload 4, 2) := by decide +kernel
theorem dJ9_floorMod_f86c9_15 : decode cJ9_floorMod_f86c9 15 = .ok (.lconst 0, 1) := by decide +kernel
theorem dJ9_floorMod_f86c9_16 : decode cJ9_floorMod_f86c9 16 = .ok (.lcmp, 1) := by decide +kernel
theorem dJ9_floorMod_f86c9_17 : decode cJ9_floorMod_f86c9 17 = .ok (.ifCond .eq 8, 3) := by decide +kernel
theorem dJ9_floorMod_f86c9_20 : decode cJ9_floorMod_f86c9 20 = .ok (.lload 4, 2) := by decide +kernel
theorem dJ9_floorMod_f86c9_22 : decode cJ9_floorMod_f86c9 22 = .ok (.lload_n 2, 1) := by decide +kernel
theorem dJ9_floorMod_f86c9_23 : decode cJ9_floorMod_f86c9 23 = .ok (.ladd, 1) := by decide +kernel
theorem dJ9_floorMod_f86c9_24 : decode cJ9_floorMod_f86c9 24 = .ok (.lreturn, 1) := by decide +kernel
theorem dJ9_floorMod_f86c9_25 : decode cJ9_floorMod_f86c9 25 = .ok (.lload 4, 2) := by decide +kernel
theorem dJ9_floorMod_f86c9_27 : decode cJ9_floorMod_f86c9 27 = .ok (.lreturn, 1) := by decide +kernel
theorem dJ9_abs_067f4_0 : decode cJ9_abs_067f4 0 = .ok (.lload_n 0, 1) := by decide +kernel
theorem dJ9_abs_067f4_1 : decode cJ9_abs_067f4 1 = .ok (.lconst 0, 1) := by decide +kernel
theorem dJ9_abs_067f4_2 : decode cJ9_abs_067f4 2 = .ok (.lcmp, 1) := by decide +kernel
theorem dJ9_abs_067f4_3 : decode cJ9_abs_067f4 3 = .ok (.ifCond .ge 8, 3) := by decide +kernel
theorem dJ9_abs_067f4_6 : decode cJ9_abs_067f4 6 = .ok (.lload_n 0, 1) := by decide +kernel
