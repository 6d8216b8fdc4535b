theorem dX4_group_32 : decode cX4_group 32 = .ok (.invokevirtual 106, 3) := by decide +kernel
theorem dX4_group_35 : decode cX4_group 35 = .ok (.ifCond .eq 50, 3) := by decide +kernel
theorem dX4_group_38 : decode cX4_group 38 = .ok (.iload_n 3, 1) := by decide +kernel
theorem dX4_group_39 : decode cX4_group 39 = .ok (.aload_n 0, 1) := by decide +kernel
theorem dX4_group_40 : decode cX4_group 40 = .ok (.getfield 20, 3) := by decide +kernel
theorem dX4_group_43 : decode cX4_group 43 = .ok (.iload 5, 2) := by decide +kernel
theorem dX4_group_45 : decode cX4_group 45 = .ok (.iaload, 1) := by decide +kernel
theorem dX4_group_46 : decode cX4_group 46 = .ok (.ishr, 1) := by decide +kernel
theorem dX4_group_47 : decode cX4_group 47 = .ok (.iload_n 3, 1) := by decide +kernel
theorem dX4_group_48 : decode cX4_group 48 = .ok (.aload_n 0, 1) := by decide +kernel
theorem dX4_group_49 : decode cX4_group 49 = .ok (.getfield 23, 3) := by decide +kernel
theorem dX4_group_52 : decode cX4_group 52 = .ok (.iload 5, 2) := by decide +kernel
theorem dX4_group_54 : decode cX4_group 54 = .ok (.iaload, 1) := by decide +kernel
theorem dX4_group_55 : decode cX4_group 55 = .ok (.ishr, 1) := by decide +kernel
theorem dX4_group_56 : decode cX4_group 56 = .ok (.ior, 1) := by decide +kernel
theorem dX4_group_57 : decode cX4_group 57 = .ok (.iconst 1, 1) := by decide +kernel
theorem dX4_group_58 : decode cX4_group 58 = .ok (.iand, 1) := by decide +kernel
theorem dX4_group_59 : decode cX4_group 59 = .ok (.iconst 1, 1) := by decide +kernel
theorem dX4_group_60 : decode cX4_group 60 = .ok (.if_icmp .ne 25, 3) := by decide +kernel
theorem dX4_group_63 : decode cX4_group 63 = .ok (.iload_n 3, 1) := by decide +kernel
theorem dX4_group_64 : decode cX4_group 64 = .ok (.iconst 1, 1) := by decide +kernel
theorem dX4_group_65 : decode cX4_group 65 = .ok (.aload_n 0, 1) := by decide +kernel
theorem dX4_group_66 : decode cX4_group 66 = .ok (.getfield 20, 3) := by decide +kernel
theorem dX4_group_69 : decode cX4_group 69 = .ok (.iload 5, 2) := by decide +kernel
theorem dX4_group_71 : decode cX4_group 71 = .ok (.iaload, 1) := by decide +kernel
theorem dX4_group_72 : decode cX4_group 72 = .ok (.ishl, 1) := by decide +kernel
theorem dX4_group_73 : decode cX4_group 73 = .ok (.iconst 1, 1) := by decide +kernel
theorem dX4_group_74 : decode cX4_group 74 = .ok (.aload_n 0, 1) := by decide +kernel
theorem dX4_group_75 : decode cX4_group 75 = .ok (.getfield 23, 3) := by decide +kernel
theorem dX4_group_78 : decode cX4_group 78 = .ok (.iload 5, 2) := by decide +kernel
theorem dX4_group_80 : decode cX4_group 80 = .ok (.iaload, 1) := by decide +kernel
theorem dX4_group_81 : decode cX4_group 81 = .ok (.ishl, 1) := by decide +kernel
theorem dX4_group_82 : decode cX4_group 82 = .ok (.ior, 1) := by decide +kernel
theorem dX4_group_83 : decode cX4_group 83 = .ok (.ior, 1) := by decide +kernel
theorem dX4_group_84 : decode cX4_group 84 = .ok (.istore_n 3, 1) := by decide +kernel
theorem dX4_group_85 : decode cX4_group 85 = .ok (.iinc 5 1, 3) := by decide +kernel
theorem dX4_group_88 : decode cX4_group 88 = .ok (.goto (-69), 3) := by decide +kernel
theorem dX4_group_91 : decode cX4_group 91 = .ok (.goto (-84), 3) := by decide +kernel
theorem dX4_group_94 : decode cX4_group 94 = .ok (.iload_n 3, 1) := by decide +kernel
theorem dX4_group_95 : decode cX4_group 95 = .ok (.ireturn, 1) := by decide +kernel
theorem dX4_together_0 : decode cX4_together 0 = .ok (.aload_n 0, 1) := by decide +kernel
theorem dX4_together_1 : decode cX4_together 1 = .ok (.iconst 0, 1) := by decide +kernel
theorem dX4_together_2 : decode cX4_together 2 = .ok (.putfield 57, 3) := by decide +kernel
theorem dX4_together_5 : decode cX4_together 5 = .ok (.aload_n 0, 1) := by decide +kernel
theorem dX4_together_6 : decode cX4_together 6 = .ok (.iload_n 1, 1) := by decide +kernel
theorem dX4_together_7 : decode cX4_together 7 = .ok (.invokevirtual 75, 3) := by decide +kernel
theorem dX4_together_10 : decode cX4_together 10 = .ok (.ifCond .ne 9, 3) := by decide +kernel
theorem dX4_together_13 : decode cX4_together 13 = .ok (.aload_n 0, 1) := by decide +kernel
theorem dX4_together_14 : decode cX4_together 14 = .ok (.iconst 1, 1) := by decide +kernel
theorem dX4_together_15 : decode cX4_together 15 = .ok (.invokevirtual 71, 3) := by decide +kernel
theorem dX4_together_18 : decode cX4_together 18 = .ok (.ireturn, 1) := by decide +kernel
theorem dX4_together_19 : decode cX4_together 19 = .ok (.iload_n 2, 1) := by decide +kernel
theorem dX4_together_20 : decode cX4_together 20 = .ok (.invokestatic 103, 3) := by decide +kernel
theorem dX4_together_23 : decode cX4_together 23 = .ok (.ifCond .eq 12, 3) := by decide +kernel
theorem dX4_together_26 : decode cX4_together 26 = .ok (.aload_n 0, 1) := by decide +kernel
theorem dX4_together_27 : decode cX4_together 27 = .ok (.iload_n 1, 1) := by decide +kernel
theorem dX4_together_28 : decode cX4_together 28 = .ok (.iload_n 2, 1) := by decide +kernel
theorem dX4_together_29 : decode cX4_together 29 = .ok (.invokevirtual 109, 3) := by decide +kernel
theorem dX4_together_32 : decode cX4_together 32 = .ok (.goto 8, 3) := by decide +kernel
theorem dX4_together_35 : decode cX4_together 35 = .ok (.aload_n 0, 1) := by decide +kernel
theorem dX4_together_36 : decode cX4_together 36 = .ok (.iconst 2, 1) := by decide +kernel
theorem dX4_together_37 : decode cX4_together 37 = .ok (.invokevirtual 71, 3) := by decide +kernel
theorem dX4_together_40 : decode cX4_together 40 = .ok (.ireturn, 1) := by decide +kernel
theorem dX4_floatsAt_0 : decode cX4_floatsAt 0 = .ok (.aload_n 0, 1) := by decide +kernel
theorem dX4_floatsAt_1 : decode cX4_floatsAt 1 = .ok (.iload_n 1, 1) := by decide +kernel
theorem dX4_floatsAt_2 : decode cX4_floatsAt 2 = .ok (.iload_n 2, 1) := by decide +kernel
theorem dX4_floatsAt_3 : decode cX4_floatsAt 3 = .ok (.invokevirtual 109, 3) := by decide +kernel
theorem dX4_floatsAt_6 : decode cX4_floatsAt 6 = .ok (.istore_n 3, 1) := by decide +kernel
theorem dX4_floatsAt_7 : decode cX4_floatsAt 7 = .ok (.iconst 0, 1) := by decide +kernel
theorem dX4_floatsAt_8 : decode cX4_floatsAt 8 = .ok (.istore 4, 2) := by decide +kernel
theorem dX4_floatsAt_10 : decode cX4_floatsAt 10 = .ok (.iload 4, 2) := by decide +kernel
theorem dX4_floatsAt_12 : decode cX4_floatsAt 12 = .ok (.aload_n 0, 1) := by decide +kernel
theorem dX4_floatsAt_13 : decode cX4_floatsAt 13 = .ok (.getfield 61, 3) := by decide +kernel
theorem dX4_floatsAt_16 : decode cX4_floatsAt 16 = .ok (.if_icmp .ge 31, 3) := by decide +kernel
theorem dX4_floatsAt_19 : decode cX4_floatsAt 19 = .ok (.iload_n 3, 1) := by decide +kernel
theorem dX4_floatsAt_20 : decode cX4_floatsAt 20 = .ok (.iload 4, 2) := by decide +kernel
theorem dX4_floatsAt_22 : decode cX4_floatsAt 22 = .ok (.ishr, 1) := by decide +kernel
theorem dX4_floatsAt_23 : decode cX4_floatsAt 23 = .ok (.iconst 1, 1) := by decide +kernel
theorem dX4_floatsAt_24 : decode cX4_floatsAt 24 = .ok (.iand, 1) := by decide +kernel
theorem dX4_floatsAt_25 : decode cX4_floatsAt 25 = .ok (.iconst 1, 1) := by decide +kernel
theorem dX4_floatsAt_26 : decode cX4_floatsAt 26 = .ok (.if_icmp .ne 15, 3) := by decide +kernel
theorem dX4_floatsAt_29 : decode cX4_floatsAt 29 = .ok (.aload_n 0, 1) := by decide +kernel
theorem dX4_floatsAt_30 : decode cX4_floatsAt 30 = .ok (.getfield 9, 3) := by decide +kernel
theorem dX4_floatsAt_33 : decode cX4_floatsAt 33 = .ok (.iload 4, 2) := by decide +kernel
theorem dX4_floatsAt_35 : decode cX4_floatsAt 35 = .ok (.baload, 1) := by decide +kernel
theorem dX4_floatsAt_36 : decode cX4_floatsAt 36 = .ok (.ifCond .eq 5, 3) := by decide +kernel
theorem dX4_floatsAt_39 : decode cX4_floatsAt 39 = .ok (.iconst 0, 1) := by decide +kernel
theorem dX4_floatsAt_40 : decode cX4_floatsAt 40 = .ok (.ireturn, 1) := by decide +kernel
theorem dX4_floatsAt_41 : decode cX4_floatsAt 41 = .ok (.iinc 4 1, 3) := by decide +kernel
theorem dX4_floatsAt_44 : decode cX4_floatsAt 44 = .ok (.goto (-34), 3) := by decide +kernel
theorem dX4_floatsAt_47 : decode cX4_floatsAt 47 = .ok (.iconst 1, 1) := by decide +kernel
theorem dX4_floatsAt_48 : decode cX4_floatsAt 48 = .ok (.ireturn, 1) := by decide +kernel
theorem dX4_floats_0 : decode cX4_floats 0 = .ok (.aload_n 0, 1) := by decide +kernel
theorem dX4_floats_1 : decode cX4_floats 1 = .ok (.aload_n 0, 1) := by decide +kernel
theorem dX4_floats_2 : decode cX4_floats 2 = .ok (.iload_n 1, 1) := by decide +kernel
theorem dX4_floats_3 : decode cX4_floats 3 = .ok (.invokevirtual 75, 3) := by decide +kernel
theorem dX4_floats_6 : decode cX4_floats 6 = .ok (.ifCond .ne 7, 3) := by decide +kernel
theorem dX4_floats_9 : decode cX4_floats 9 = .ok (.iconst 1, 1) := by decide +kernel
theorem dX4_floats_10 : decode cX4_floats 10 = .ok (.goto 15, 3) := by decide +kernel
theorem dX4_floats_13 : decode cX4_floats 13 = .ok (.iload_n 2, 1) := by decide +kernel
theorem dX4_floats_14 : decode cX4_floats 14 = .ok (.invokestatic 103, 3) := by decide +kernel
theorem dX4_floats_17 : decode cX4_floats 17 = .ok (.ifCond .eq 7, 3) := by decide +kernel
theorem dX4_floats_20 : decode cX4_floats 20 = .ok (.iconst 0, 1) := by decide +kernel
theorem dX4_floats_21 : decode cX4_floats 21 = .ok (.goto 4, 3) := by decide +kernel
theorem dX4_floats_24 : decode cX4_floats 24 = .ok (.iconst 2, 1) := by decide +kernel
theorem dX4_floats_25 : decode cX4_floats 25 = .ok (.putfield 57, 3) := by decide +kernel
theorem dX4_floats_28 : decode cX4_floats 28 = .ok (.aload_n 0, 1) := by decide +kernel
theorem dX4_floats_29 : decode cX4_floats 29 = .ok (.getfield 57, 3) := by decide +kernel
theorem dX4_floats_32 : decode cX4_floats 32 = .ok (.ifCond .ne 16, 3) := by decide +kernel
theorem dX4_floats_35 : decode cX4_floats 35 = .ok (.aload_n 0, 1) := by decide +kernel
theorem dX4_floats_36 : decode cX4_floats 36 = .ok (.iload_n 1, 1) := by decide +kernel
theorem dX4_floats_37 : decode cX4_floats 37 = .ok (.iload_n 2, 1) := by decide +kernel
theorem dX4_floats_38 : decode cX4_floats 38 = .ok (.invokevirtual 112, 3) := by decide +kernel
theorem dX4_floats_41 : decode cX4_floats 41 = .ok (.ifCond .eq 7, 3) := by decide +kernel
theorem dX4_floats_44 : decode cX4_floats 44 = .ok (.iconst 1, 1) := by decide +kernel
theorem dX4_floats_45 : decode cX4_floats 45 = .ok (.goto 4, 3) := by decide +kernel
theorem dX4_floats_48 : decode cX4_floats 48 = .ok (.iconst 0, 1) := by decide +kernel
theorem dX4_floats_49 : decode cX4_floats 49 = .ok (.ireturn, 1) := by decide +kernel
theorem dX4_determinant_0 : decode cX4_determinant 0 = .ok (.aload_n 0, 1) := by decide +kernel
theorem dX4_determinant_1 : decode cX4_determinant 1 = .ok (.getfield 48, 3) := by decide +kernel
theorem dX4_determinant_4 : decode cX4_determinant 4 = .ok (.iconst 0, 1) := by decide +kernel
theorem dX4_determinant_5 : decode cX4_determinant 5 = .ok (.lconst 1, 1) := by decide +kernel
theorem dX4_determinant_6 : decode cX4_determinant 6 = .ok (.lastore, 1) := by decide +kernel
theorem dX4_determinant_7 : decode cX4_determinant 7 = .ok (.iconst 1, 1) := by decide +kernel
theorem dX4_determinant_8 : decode cX4_determinant 8 = .ok (.istore_n 2, 1) := by decide +kernel
theorem dX4_determinant_9 : decode cX4_determinant 9 = .ok (.iload_n 2, 1) := by decide +kernel
theorem dX4_determinant_10 : decode cX4_determinant 10 = .ok (.iconst 1, 1) := by decide +kernel
theorem dX4_determinant_11 : decode cX4_determinant 11 = .ok (.aload_n 0, 1) := by decide +kernel
theorem dX4_determinant_12 : decode cX4_determinant 12 = .ok (.getfield 115, 3) := by decide +kernel
theorem dX4_determinant_15 : decode cX4_determinant 15 = .ok (.ishl, 1) := by decide +kernel
theorem dX4_determinant_16 : decode cX4_determinant 16 = .ok (.if_icmp .ge 131, 3) := by decide +kernel
theorem dX4_determinant_19 : decode cX4_determinant 19 = .ok (.iload_n 2, 1) := by decide +kernel
theorem dX4_determinant_20 : decode cX4_determinant 20 = .ok (.invokestatic 118, 3) := by decide +kernel
theorem dX4_determinant_23 : decode cX4_determinant 23 = .ok (.iconst 1, 1) := by decide +kernel
theorem dX4_determinant_24 : decode cX4_determinant 24 = .ok (.isub, 1) := by decide +kernel
theorem dX4_determinant_25 : decode cX4_determinant 25 = .ok (.istore_n 3, 1) := by decide +kernel
theorem dX4_determinant_26 : decode cX4_determinant 26 = .ok (.lconst 0, 1) := by decide +kernel
theorem dX4_determinant_27 : decode cX4_determinant 27 = .ok (.lstore 4, 2) := by decide +kernel
theorem dX4_determinant_29 : decode cX4_determinant 29 = .ok (.iconst 0, 1) := by decide +kernel
theorem dX4_determinant_30 : decode cX4_determinant 30 = .ok (.istore 6, 2) := by decide +kernel
theorem dX4_determinant_32 : decode cX4_determinant 32 = .ok (.iload 6, 2) := by decide +kernel
theorem dX4_determinant_34 : decode cX4_determinant 34 = .ok (.aload_n 0, 1) := by decide +kernel
theorem dX4_determinant_35 : decode cX4_determinant 35 = .ok (.getfield 115, 3) := by decide +kernel
theorem dX4_determinant_38 : decode cX4_determinant 38 = .ok (.if_icmp .ge 95, 3) := by decide +kernel
theorem dX4_determinant_41 : decode cX4_determinant 41 = .ok (.iload_n 2, 1) := by decide +kernel
theorem dX4_determinant_42 : decode cX4_determinant 42 = .ok (.iload 6, 2) := by decide +kernel
theorem dX4_determinant_44 : decode cX4_determinant 44 = .ok (.ishr, 1) := by decide +kernel
theorem dX4_determinant_45 : decode cX4_determinant 45 = .ok (.iconst 1, 1) := by decide +kernel
theorem dX4_determinant_46 : decode cX4_determinant 46 = .ok (.iand, 1) := by decide +kernel
theorem dX4_determinant_47 : decode cX4_determinant 47 = .ok (.ifCond .ne 6, 3) := by decide +kernel
theorem dX4_determinant_50 : decode cX4_determinant 50 = .ok (.goto 77, 3) := by decide +kernel
theorem dX4_determinant_53 : decode cX4_determinant 53 = .ok (.iload 6, 2) := by decide +kernel
theorem dX4_determinant_55 : decode cX4_determinant 55 = .ok (.iload_n 1, 1) := by decide +kernel
theorem dX4_determinant_56 : decode cX4_determinant 56 = .ok (.if_icmp .ne 12, 3) := by decide +kernel
theorem dX4_determinant_59 : decode cX4_determinant 59 = .ok (.aload_n 0, 1) := by decide +kernel
theorem dX4_determinant_60 : decode cX4_determinant 60 = .ok (.getfield 45, 3) := by decide +kernel
theorem dX4_determinant_63 : decode cX4_determinant 63 = .ok (.iload_n 3, 1) := by decide +kernel
theorem dX4_determinant_64 : decode cX4_determinant 64 = .ok (.laload, 1) := by decide +kernel
theorem dX4_determinant_65 : decode cX4_determinant 65 = .ok (.goto 15, 3) := by decide +kernel
theorem dX4_determinant_68 : decode cX4_determinant 68 = .ok (.aload_n 0, 1) := by decide +kernel
theorem dX4_determinant_69 : decode cX4_determinant 69 = .ok (.getfield 41, 3) := by decide +kernel
theorem dX4_determinant_72 : decode cX4_determinant 72 = .ok (.bipush 8, 2) := by decide +kernel
theorem dX4_determinant_74 : decode cX4_determinant 74 = .ok (.iload_n 3, 1) := by decide +kernel
theorem dX4_determinant_75 : decode cX4_determinant 75 = .ok (.imul, 1) := by decide +kernel
theorem dX4_determinant_76 : decode cX4_determinant 76 = .ok (.iload 6, 2) := by decide +kernel
theorem dX4_determinant_78 : decode cX4_determinant 78 = .ok (.iadd, 1) := by decide +kernel
theorem dX4_determinant_79 : decode cX4_determinant 79 = .ok (.laload, 1) := by decide +kernel
theorem dX4_determinant_80 : decode cX4_determinant 80 = .ok (.lstore 7, 2) := by decide +kernel
theorem dX4_determinant_82 : decode cX4_determinant 82 = .ok (.lload 7, 2) := by decide +kernel
theorem dX4_determinant_84 : decode cX4_determinant 84 = .ok (.aload_n 0, 1) := by decide +kernel
theorem dX4_determinant_85 : decode cX4_determinant 85 = .ok (.getfield 48, 3) := by decide +kernel
theorem dX4_determinant_88 : decode cX4_determinant 88 = .ok (.iload_n 2, 1) := by decide +kernel
theorem dX4_determinant_89 : decode cX4_determinant 89 = .ok (.iconst 1, 1) := by decide +kernel
theorem dX4_determinant_90 : decode cX4_determinant 90 = .ok (.iload 6, 2) := by decide +kernel
theorem dX4_determinant_92 : decode cX4_determinant 92 = .ok (.ishl, 1) := by decide +kernel
theorem dX4_determinant_93 : decode cX4_determinant 93 = .ok (.iconst (-1), 1) := by decide +kernel
theorem dX4_determinant_94 : decode cX4_determinant 94 = .ok (.ixor, 1) := by decide +kernel
theorem dX4_determinant_95 : decode cX4_determinant 95 = .ok (.iand, 1) := by decide +kernel
theorem dX4_determinant_96 : decode cX4_determinant 96 = .ok (.laload, 1) := by decide +kernel
theorem dX4_determinant_97 : decode cX4_determinant 97 = .ok (.lmul, 1) := by decide +kernel
theorem dX4_determinant_98 : decode cX4_determinant 98 = .ok (.lstore 9, 2) := by decide +kernel
theorem dX4_determinant_100 : decode cX4_determinant 100 = .ok (.lload 4, 2) := by decide +kernel
theorem dX4_determinant_102 : decode cX4_determinant 102 = .ok (.iload_n 2, 1) := by decide +kernel
theorem dX4_determinant_103 : decode cX4_determinant 103 = .ok (.iload 6, 2) := by decide +kernel
theorem dX4_determinant_105 : decode cX4_determinant 105 = .ok (.iconst 1, 1) := by decide +kernel
theorem dX4_determinant_106 : decode cX4_determinant 106 = .ok (.iadd, 1) := by decide +kernel
theorem dX4_determinant_107 : decode cX4_determinant 107 = .ok (.ishr, 1) := by decide +kernel
theorem dX4_determinant_108 : decode cX4_determinant 108 = .ok (.invokestatic 118, 3) := by decide +kernel
theorem dX4_determinant_111 : decode cX4_determinant 111 = .ok (.iconst 2, 1) := by decide +kernel
theorem dX4_determinant_112 : decode cX4_determinant 112 = .ok (.irem, 1) := by decide +kernel
theorem dX4_determinant_113 : decode cX4_determinant 113 = .ok (.ifCond .ne 8, 3) := by decide +kernel
theorem dX4_determinant_116 : decode cX4_determinant 116 = .ok (.lload 9, 2) := by decide +kernel
theorem dX4_determinant_118 : decode cX4_determinant 118 = .ok (.goto 6, 3) := by decide +kernel
theorem dX4_determinant_121 : decode cX4_determinant 121 = .ok (.lload 9, 2) := by decide +kernel
theorem dX4_determinant_123 : decode cX4_determinant 123 = .ok (.lneg, 1) := by decide +kernel
theorem dX4_determinant_124 : decode cX4_determinant 124 = .ok (.ladd, 1) := by decide +kernel
theorem dX4_determinant_125 : decode cX4_determinant 125 = .ok (.lstore 4, 2) := by decide +kernel
theorem dX4_determinant_127 : decode cX4_determinant 127 = .ok (.iinc 6 1, 3) := by decide +kernel
theorem dX4_determinant_130 : decode cX4_determinant 130 = .ok (.goto (-98), 3) := by decide +kernel
theorem dX4_determinant_133 : decode cX4_determinant 133 = .ok (.aload_n 0, 1) := by decide +kernel
theorem dX4_determinant_134 : decode cX4_determinant 134 = .ok (.getfield 48, 3) := by decide +kernel
theorem dX4_determinant_137 : decode cX4_determinant 137 = .ok (.iload_n 2, 1) := by decide +kernel
theorem dX4_determinant_138 : decode cX4_determinant 138 = .ok (.lload 4, 2) := by decide +kernel
theorem dX4_determinant_140 : decode cX4_determinant 140 = .ok (.lastore, 1) := by decide +kernel
theorem dX4_determinant_141 : decode cX4_determinant 141 = .ok (.iinc 2 1, 3) := by decide +kernel
theorem dX4_determinant_144 : decode cX4_determinant 144 = .ok (.goto (-135), 3) := by decide +kernel
theorem dX4_determinant_147 : decode cX4_determinant 147 = .ok (.aload_n 0, 1) := by decide +kernel
theorem dX4_determinant_148 : decode cX4_determinant 148 = .ok (.getfield 48, 3) := by decide +kernel
theorem dX4_determinant_151 : decode cX4_determinant 151 = .ok (.iconst 1, 1) := by decide +kernel
theorem dX4_determinant_152 : decode cX4_determinant 152 = .ok (.aload_n 0, 1) := by decide +kernel
theorem dX4_determinant_153 : decode cX4_determinant 153 = .ok (.getfield 115, 3) := by decide +kernel
theorem dX4_determinant_156 : decode cX4_determinant 156 = .ok (.ishl, 1) := by decide +kernel
theorem dX4_determinant_157 : decode cX4_determinant 157 = .ok (.iconst 1, 1) := by decide +kernel
theorem dX4_determinant_158 : decode cX4_determinant 158 = .ok (.isub, 1) := by decide +kernel
theorem dX4_determinant_159 : decode cX4_determinant 159 = .ok (.laload, 1) := by decide +kernel
theorem dX4_determinant_160 : decode cX4_determinant 160 = .ok (.lreturn, 1) := by decide +kernel
theorem dX4_clear_0 : decode cX4_clear 0 = .ok (.aload_n 0, 1) := by decide +kernel
theorem dX4_clear_1 : decode cX4_clear 1 = .ok (.iconst 0, 1) := by decide +kernel
theorem dX4_clear_2 : decode cX4_clear 2 = .ok (.putfield 115, 3) := by decide +kernel
theorem dX4_clear_5 : decode cX4_clear 5 = .ok (.iconst 0, 1) := by decide +kernel
theorem dX4_clear_6 : decode cX4_clear 6 = .ok (.istore_n 1, 1) := by decide +kernel
theorem dX4_clear_7 : decode cX4_clear 7 = .ok (.iload_n 1, 1) := by decide +kernel
theorem dX4_clear_8 : decode cX4_clear 8 = .ok (.bipush 8, 2) := by decide +kernel
theorem dX4_clear_10 : decode cX4_clear 10 = .ok (.if_icmp .ge 16, 3) := by decide +kernel
theorem dX4_clear_13 : decode cX4_clear 13 = .ok (.aload_n 0, 1) := by decide +kernel
theorem dX4_clear_14 : decode cX4_clear 14 = .ok (.getfield 38, 3) := by decide +kernel
theorem dX4_clear_17 : decode cX4_clear 17 = .ok (.iload_n 1, 1) := by decide +kernel
theorem dX4_clear_18 : decode cX4_clear 18 = .ok (.iconst (-1), 1) := by decide +kernel
theorem dX4_clear_19 : decode cX4_clear 19 = .ok (.iastore, 1) := by decide +kernel
theorem dX4_clear_20 : decode cX4_clear 20 = .ok (.iinc 1 1, 3) := by decide +kernel
theorem dX4_clear_23 : decode cX4_clear 23 = .ok (.goto (-16), 3) := by decide +kernel
theorem dX4_clear_26 : decode cX4_clear 26 = .ok (.iconst 0, 1) := by decide +kernel
theorem dX4_clear_27 : decode cX4_clear 27 = .ok (.istore_n 1, 1) := by decide +kernel
theorem dX4_clear_28 : decode cX4_clear 28 = .ok (.iload_n 1, 1) := by decide +kernel
theorem dX4_clear_29 : decode cX4_clear 29 = .ok (.aload_n 0, 1) := by decide +kernel
theorem dX4_clear_30 : decode cX4_clear 30 = .ok (.getfield 41, 3) := by decide +kernel
theorem dX4_clear_33 : decode cX4_clear 33 = .ok (.arraylength, 1) := by decide +kernel
theorem dX4_clear_34 : decode cX4_clear 34 = .ok (.if_icmp .ge 16, 3) := by decide +kernel
theorem dX4_clear_37 : decode cX4_clear 37 = .ok (.aload_n 0, 1) := by decide +kernel
theorem dX4_clear_38 : decode cX4_clear 38 = .ok (.getfield 41, 3) := by decide +kernel
theorem dX4_clear_41 : decode cX4_clear 41 = .ok (.iload_n 1, 1) := by decide +kernel
theorem dX4_clear_42 : decode cX4_clear 42 = .ok (.lconst 0, 1) := by decide +kernel
theorem dX4_clear_43 : decode cX4_clear 43 = .ok (.lastore, 1) := by decide +kernel
theorem dX4_clear_44 : decode cX4_clear 44 = .ok (.iinc 1 1, 3) := by decide +kernel
theorem dX4_clear_47 : decode cX4_clear 47 = .ok (.goto (-19), 3) := by decide +kernel
theorem dX4_clear_50 : decode cX4_clear 50 = .ok (.iconst 0, 1) := by decide +kernel
theorem dX4_clear_51 : decode cX4_clear 51 = .ok (.istore_n 1, 1) := by decide +kernel
theorem dX4_clear_52 : decode cX4_clear 52 = .ok (.iload_n 1, 1) := by decide +kernel
theorem dX4_clear_53 : decode cX4_clear 53 = .ok (.bipush 8, 2) := by decide +kernel
theorem dX4_clear_55 : decode cX4_clear 55 = .ok (.if_icmp .ge 16, 3) := by decide +kernel
theorem dX4_clear_58 : decode cX4_clear 58 = .ok (.aload_n 0, 1) := by decide +kernel
theorem dX4_clear_59 : decode cX4_clear 59 = .ok (.getfield 45, 3) := by decide +kernel
theorem dX4_clear_62 : decode cX4_clear 62 = .ok (.iload_n 1, 1) := by decide +kernel
theorem dX4_clear_63 : decode cX4_clear 63 = .ok (.lconst 0, 1) := by decide +kernel
theorem dX4_clear_64 : decode cX4_clear 64 = .ok (.lastore, 1) := by decide +kernel
theorem dX4_clear_65 : decode cX4_clear 65 = .ok (.iinc 1 1, 3) := by decide +kernel
theorem dX4_clear_68 : decode cX4_clear 68 = .ok (.goto (-16), 3) := by decide +kernel
theorem dX4_clear_71 : decode cX4_clear 71 = .ok (.return_, 1) := by decide +kernel
theorem dX4_lay_0 : decode cX4_lay 0 = .ok (.aload_n 0, 1) := by decide +kernel
theorem dX4_lay_1 : decode cX4_lay 1 = .ok (.getfield 38, 3) := by decide +kernel
theorem dX4_lay_4 : decode cX4_lay 4 = .ok (.iload_n 1, 1) := by decide +kernel
theorem dX4_lay_5 : decode cX4_lay 5 = .ok (.iaload, 1) := by decide +kernel
theorem dX4_lay_6 : decode cX4_lay 6 = .ok (.istore 4, 2) := by decide +kernel
theorem dX4_lay_8 : decode cX4_lay 8 = .ok (.iload 4, 2) := by decide +kernel
theorem dX4_lay_10 : decode cX4_lay 10 = .ok (.iconst (-1), 1) := by decide +kernel
theorem dX4_lay_11 : decode cX4_lay 11 = .ok (.if_icmp .ne 4, 3) := by decide +kernel
theorem dX4_lay_14 : decode cX4_lay 14 = .ok (.return_, 1) := by decide +kernel
theorem dX4_lay_15 : decode cX4_lay 15 = .ok (.aload_n 0, 1) := by decide +kernel
theorem dX4_lay_16 : decode cX4_lay 16 = .ok (.getfield 41, 3) := by decide +kernel
theorem dX4_lay_19 : decode cX4_lay 19 = .ok (.bipush 8, 2) := by decide +kernel
theorem dX4_lay_21 : decode cX4_lay 21 = .ok (.iload 4, 2) := by decide +kernel
theorem dX4_lay_23 : decode cX4_lay 23 = .ok (.imul, 1) := by decide +kernel
theorem dX4_lay_24 : decode cX4_lay 24 = .ok (.iload 4, 2) := by decide +kernel
theorem dX4_lay_26 : decode cX4_lay 26 = .ok (.iadd, 1) := by decide +kernel
theorem dX4_lay_27 : decode cX4_lay 27 = .ok (.dup2, 1) := by decide +kernel
theorem dX4_lay_28 : decode cX4_lay 28 = .ok (.laload, 1) := by decide +kernel
theorem dX4_lay_29 : decode cX4_lay 29 = .ok (.iload_n 3, 1) := by decide +kernel
theorem dX4_lay_30 : decode cX4_lay 30 = .ok (.i2l, 1) := by decide +kernel
theorem dX4_lay_31 : decode cX4_lay 31 = .ok (.ladd, 1) := by decide +kernel
theorem dX4_lay_32 : decode cX4_lay 32 = .ok (.lastore, 1) := by decide +kernel
theorem dX4_lay_33 : decode cX4_lay 33 = .ok (.aload_n 0, 1) := by decide +kernel
theorem dX4_lay_34 : decode cX4_lay 34 = .ok (.getfield 38, 3) := by decide +kernel
theorem dX4_lay_37 : decode cX4_lay 37 = .ok (.iload_n 2, 1) := by decide +kernel
theorem dX4_lay_38 : decode cX4_lay 38 = .ok (.iaload, 1) := by decide +kernel
theorem dX4_lay_39 : decode cX4_lay 39 = .ok (.iconst (-1), 1) := by decide +kernel
theorem dX4_lay_40 : decode cX4_lay 40 = .ok (.if_icmp .eq 28, 3) := by decide +kernel
theorem dX4_lay_43 : decode cX4_lay 43 = .ok (.aload_n 0, 1) := by decide +kernel
theorem dX4_lay_44 : decode cX4_lay 44 = .ok (.getfield 41, 3) := by decide +kernel
theorem dX4_lay_47 : decode cX4_lay 47 = .ok (.bipush 8, 2) := by decide +kernel
theorem dX4_lay_49 : decode cX4_lay 49 = .ok (.iload 4, 2) := by decide +kernel
theorem dX4_lay_51 : decode cX4_lay 51 = .ok (.imul, 1) := by decide +kernel
theorem dX4_lay_52 : decode cX4_lay 52 = .ok (.aload_n 0, 1) := by decide +kernel
theorem dX4_lay_53 : decode cX4_lay 53 = .ok (.getfield 38, 3) := by decide +kernel
theorem dX4_lay_56 : decode cX4_lay 56 = .ok (.iload_n 2, 1) := by decide +kernel
theorem dX4_lay_57 : decode cX4_lay 57 = .ok (.iaload, 1) := by decide +kernel
theorem dX4_lay_58 : decode cX4_lay 58 = .ok (.iadd, 1) := by decide +kernel
theorem dX4_lay_59 : decode cX4_lay 59 = .ok (.dup2, 1) := by decide +kernel
theorem dX4_lay_60 : decode cX4_lay 60 = .ok (.laload, 1) := by decide +kernel
theorem dX4_lay_61 : decode cX4_lay 61 = .ok (.iload_n 3, 1) := by decide +kernel
theorem dX4_lay_62 : decode cX4_lay 62 = .ok (.i2l, 1) := by decide +kernel
theorem dX4_lay_63 : decode cX4_lay 63 = .ok (.lsub, 1) := by decide +kernel
theorem dX4_lay_64 : decode cX4_lay 64 = .ok (.lastore, 1) := by decide +kernel
theorem dX4_lay_65 : decode cX4_lay 65 = .ok (.goto 23, 3) := by decide +kernel
theorem dX4_lay_68 : decode cX4_lay 68 = .ok (.aload_n 0, 1) := by decide +kernel
theorem dX4_lay_69 : decode cX4_lay 69 = .ok (.getfield 45, 3) := by decide +kernel
theorem dX4_lay_72 : decode cX4_lay 72 = .ok (.iload 4, 2) := by decide +kernel
theorem dX4_lay_74 : decode cX4_lay 74 = .ok (.dup2, 1) := by decide +kernel
theorem dX4_lay_75 : decode cX4_lay 75 = .ok (.laload, 1) := by decide +kernel
theorem dX4_lay_76 : decode cX4_lay 76 = .ok (.iload_n 3, 1) := by decide +kernel
theorem dX4_lay_77 : decode cX4_lay 77 = .ok (.i2l, 1) := by decide +kernel
theorem dX4_lay_78 : decode cX4_lay 78 = .ok (.aload_n 0, 1) := by decide +kernel
theorem dX4_lay_79 : decode cX4_lay 79 = .ok (.getfield 13, 3) := by decide +kernel
theorem dX4_lay_82 : decode cX4_lay 82 = .ok (.iload_n 2, 1) := by decide +kernel
theorem dX4_lay_83 : decode cX4_lay 83 = .ok (.iaload, 1) := by decide +kernel
theorem dX4_lay_84 : decode cX4_lay 84 = .ok (.i2l, 1) := by decide +kernel
theorem dX4_lay_85 : decode cX4_lay 85 = .ok (.lmul, 1) := by decide +kernel
theorem dX4_lay_86 : decode cX4_lay 86 = .ok (.ladd, 1) := by decide +kernel
theorem dX4_lay_87 : decode cX4_lay 87 = .ok (.lastore, 1) := by decide +kernel
theorem dX4_lay_88 : decode cX4_lay 88 = .ok (.return_, 1) := by decide +kernel
theorem dX4_solve_0 : decode cX4_solve 0 = .ok (.aload_n 0, 1) := by decide +kernel
theorem dX4_solve_1 : decode cX4_solve 1 = .ok (.invokevirtual 123, 3) := by decide +kernel
theorem dX4_solve_4 : decode cX4_solve 4 = .ok (.iconst 0, 1) := by decide +kernel
theorem dX4_solve_5 : decode cX4_solve 5 = .ok (.istore_n 2, 1) := by decide +kernel
theorem dX4_solve_6 : decode cX4_solve 6 = .ok (.iload_n 2, 1) := by decide +kernel
theorem dX4_solve_7 : decode cX4_solve 7 = .ok (.aload_n 0, 1) := by decide +kernel
theorem dX4_solve_8 : decode cX4_solve 8 = .ok (.getfield 61, 3) := by decide +kernel
theorem dX4_solve_11 : decode cX4_solve 11 = .ok (.if_icmp .ge 62, 3) := by decide +kernel
theorem dX4_solve_14 : decode cX4_solve 14 = .ok (.aload_n 0, 1) := by decide +kernel
theorem dX4_solve_15 : decode cX4_solve 15 = .ok (.getfield 54, 3) := by decide +kernel
theorem dX4_solve_18 : decode cX4_solve 18 = .ok (.iload_n 2, 1) := by decide +kernel
theorem dX4_solve_19 : decode cX4_solve 19 = .ok (.aload_n 0, 1) := by decide +kernel
theorem dX4_solve_20 : decode cX4_solve 20 = .ok (.iload_n 2, 1) := by decide +kernel
theorem dX4_solve_21 : decode cX4_solve 21 = .ok (.iload_n 1, 1) := by decide +kernel
theorem dX4_solve_22 : decode cX4_solve 22 = .ok (.invokevirtual 112, 3) := by decide +kernel
theorem dX4_solve_25 : decode cX4_solve 25 = .ok (.bastore, 1) := by decide +kernel
theorem dX4_solve_26 : decode cX4_solve 26 = .ok (.aload_n 0, 1) := by decide +kernel
theorem dX4_solve_27 : decode cX4_solve 27 = .ok (.getfield 54, 3) := by decide +kernel
theorem dX4_solve_30 : decode cX4_solve 30 = .ok (.iload_n 2, 1) := by decide +kernel
theorem dX4_solve_31 : decode cX4_solve 31 = .ok (.baload, 1) := by decide +kernel
theorem dX4_solve_32 : decode cX4_solve 32 = .ok (.ifCond .ne 35, 3) := by decide +kernel
theorem dX4_solve_35 : decode cX4_solve 35 = .ok (.aload_n 0, 1) := by decide +kernel
theorem dX4_solve_36 : decode cX4_solve 36 = .ok (.getfield 9, 3) := by decide +kernel
theorem dX4_solve_39 : decode cX4_solve 39 = .ok (.iload_n 2, 1) := by decide +kernel
theorem dX4_solve_40 : decode cX4_solve 40 = .ok (.baload, 1) := by decide +kernel
theorem dX4_solve_41 : decode cX4_solve 41 = .ok (.ifCond .eq 6, 3) := by decide +kernel
theorem dX4_solve_44 : decode cX4_solve 44 = .ok (.goto 23, 3) := by decide +kernel
theorem dX4_solve_47 : decode cX4_solve 47 = .ok (.aload_n 0, 1) := by decide +kernel
theorem dX4_solve_48 : decode cX4_solve 48 = .ok (.getfield 38, 3) := by decide +kernel
theorem dX4_solve_51 : decode cX4_solve 51 = .ok (.iload_n 2, 1) := by decide +kernel
theorem dX4_solve_52 : decode cX4_solve 52 = .ok (.aload_n 0, 1) := by decide +kernel
theorem dX4_solve_53 : decode cX4_solve 53 = .ok (.getfield 115, 3) := by decide +kernel
theorem dX4_solve_56 : decode cX4_solve 56 = .ok (.iastore, 1) := by decide +kernel
theorem dX4_solve_57 : decode cX4_solve 57 = .ok (.aload_n 0, 1) := by decide +kernel
theorem dX4_solve_58 : decode cX4_solve 58 = .ok (.dup, 1) := by decide +kernel
theorem dX4_solve_59 : decode cX4_solve 59 = .ok (.getfield 115, 3) := by decide +kernel
theorem dX4_solve_62 : decode cX4_solve 62 = .ok (.iconst 1, 1) := by decide +kernel
theorem dX4_solve_63 : decode cX4_solve 63 = .ok (.iadd, 1) := by decide +kernel
theorem dX4_solve_64 : decode cX4_solve 64 = .ok (.putfield 115, 3) := by decide +kernel
theorem dX4_solve_67 : decode cX4_solve 67 = .ok (.iinc 2 1, 3) := by decide +kernel
theorem dX4_solve_70 : decode cX4_solve 70 = .ok (.goto (-64), 3) := by decide +kernel
theorem dX4_solve_73 : decode cX4_solve 73 = .ok (.iconst 0, 1) := by decide +kernel
theorem dX4_solve_74 : decode cX4_solve 74 = .ok (.istore_n 2, 1) := by decide +kernel
theorem dX4_solve_75 : decode cX4_solve 75 = .ok (.iload_n 2, 1) := by decide +kernel
theorem dX4_solve_76 : decode cX4_solve 76 = .ok (.aload_n 0, 1) := by decide +kernel
theorem dX4_solve_77 : decode cX4_solve 77 = .ok (.getfield 68, 3) := by decide +kernel
theorem dX4_solve_80 : decode cX4_solve 80 = .ok (.if_icmp .ge 159, 3) := by decide +kernel
theorem dX4_solve_83 : decode cX4_solve 83 = .ok (.aload_n 0, 1) := by decide +kernel
theorem dX4_solve_84 : decode cX4_solve 84 = .ok (.iload_n 2, 1) := by decide +kernel
theorem dX4_solve_85 : decode cX4_solve 85 = .ok (.iload_n 1, 1) := by decide +kernel
theorem dX4_solve_86 : decode cX4_solve 86 = .ok (.invokevirtual 99, 3) := by decide +kernel
theorem dX4_solve_89 : decode cX4_solve 89 = .ok (.ifCond .ne 6, 3) := by decide +kernel
theorem dX4_solve_92 : decode cX4_solve 92 = .ok (.goto 141, 3) := by decide +kernel
theorem dX4_solve_95 : decode cX4_solve 95 = .ok (.aload_n 0, 1) := by decide +kernel
theorem dX4_solve_96 : decode cX4_solve 96 = .ok (.getfield 17, 3) := by decide +kernel
theorem dX4_solve_99 : decode cX4_solve 99 = .ok (.iload_n 2, 1) := by decide +kernel
theorem dX4_solve_100 : decode cX4_solve 100 = .ok (.baload, 1) := by decide +kernel
theorem dX4_solve_101 : decode cX4_solve 101 = .ok (.ifCond .ne 50, 3) := by decide +kernel
theorem dX4_solve_104 : decode cX4_solve 104 = .ok (.aload_n 0, 1) := by decide +kernel
theorem dX4_solve_105 : decode cX4_solve 105 = .ok (.aload_n 0, 1) := by decide +kernel
theorem dX4_solve_106 : decode cX4_solve 106 = .ok (.getfield 20, 3) := by decide +kernel
theorem dX4_solve_109 : decode cX4_solve 109 = .ok (.iload_n 2, 1) := by decide +kernel
theorem dX4_solve_110 : decode cX4_solve 110 = .ok (.iaload, 1) := by decide +kernel
theorem dX4_solve_111 : decode cX4_solve 111 = .ok (.aload_n 0, 1) := by decide +kernel
theorem dX4_solve_112 : decode cX4_solve 112 = .ok (.getfield 23, 3) := by decide +kernel
theorem dX4_solve_115 : decode cX4_solve 115 = .ok (.iload_n 2, 1) := by decide +kernel
theorem dX4_solve_116 : decode cX4_solve 116 = .ok (.iaload, 1) := by decide +kernel
theorem dX4_solve_117 : decode cX4_solve 117 = .ok (.aload_n 0, 1) := by decide +kernel
theorem dX4_solve_118 : decode cX4_solve 118 = .ok (.getfield 26, 3) := by decide +kernel
theorem dX4_solve_121 : decode cX4_solve 121 = .ok (.iload_n 2, 1) := by decide +kernel
theorem dX4_solve_122 : decode cX4_solve 122 = .ok (.iaload, 1) := by decide +kernel
theorem dX4_solve_123 : decode cX4_solve 123 = .ok (.invokevirtual 126, 3) := by decide +kernel
theorem dX4_solve_126 : decode cX4_solve 126 = .ok (.aload_n 0, 1) := by decide +kernel
theorem dX4_solve_127 : decode cX4_solve 127 = .ok (.aload_n 0, 1) := by decide +kernel
theorem dX4_solve_128 : decode cX4_solve 128 = .ok (.getfield 23, 3) := by decide +kernel
theorem dX4_solve_131 : decode cX4_solve 131 = .ok (.iload_n 2, 1) := by decide +kernel
theorem dX4_solve_132 : decode cX4_solve 132 = .ok (.iaload, 1) := by decide +kernel
theorem dX4_solve_133 : decode cX4_solve 133 = .ok (.aload_n 0, 1) := by decide +kernel
theorem dX4_solve_134 : decode cX4_solve 134 = .ok (.getfield 20, 3) := by decide +kernel
theorem dX4_solve_137 : decode cX4_solve 137 = .ok (.iload_n 2, 1) := by decide +kernel
theorem dX4_solve_138 : decode cX4_solve 138 = .ok (.iaload, 1) := by decide +kernel
theorem dX4_solve_139 : decode cX4_solve 139 = .ok (.aload_n 0, 1) := by decide +kernel
theorem dX4_solve_140 : decode cX4_solve 140 = .ok (.getfield 26, 3) := by decide +kernel
theorem dX4_solve_143 : decode cX4_solve 143 = .ok (.iload_n 2, 1) := by decide +kernel
theorem dX4_solve_144 : decode cX4_solve 144 = .ok (.iaload, 1) := by decide +kernel
theorem dX4_solve_145 : decode cX4_solve 145 = .ok (.invokevirtual 126, 3) := by decide +kernel
theorem dX4_solve_148 : decode cX4_solve 148 = .ok (.goto 85, 3) := by decide +kernel
theorem dX4_solve_151 : decode cX4_solve 151 = .ok (.aload_n 0, 1) := by decide +kernel
theorem dX4_solve_152 : decode cX4_solve 152 = .ok (.getfield 38, 3) := by decide +kernel
theorem dX4_solve_155 : decode cX4_solve 155 = .ok (.aload_n 0, 1) := by decide +kernel
theorem dX4_solve_156 : decode cX4_solve 156 = .ok (.getfield 20, 3) := by decide +kernel
theorem dX4_solve_159 : decode cX4_solve 159 = .ok (.iload_n 2, 1) := by decide +kernel
theorem dX4_solve_160 : decode cX4_solve 160 = .ok (.iaload, 1) := by decide +kernel
theorem dX4_solve_161 : decode cX4_solve 161 = .ok (.iaload, 1) := by decide +kernel
theorem dX4_solve_162 : decode cX4_solve 162 = .ok (.iconst (-1), 1) := by decide +kernel
theorem dX4_solve_163 : decode cX4_solve 163 = .ok (.if_icmp .eq 29, 3) := by decide +kernel
theorem dX4_solve_166 : decode cX4_solve 166 = .ok (.aload_n 0, 1) := by decide +kernel
theorem dX4_solve_167 : decode cX4_solve 167 = .ok (.getfield 45, 3) := by decide +kernel
theorem dX4_solve_170 : decode cX4_solve 170 = .ok (.aload_n 0, 1) := by decide +kernel
theorem dX4_solve_171 : decode cX4_solve 171 = .ok (.getfield 38, 3) := by decide +kernel
theorem dX4_solve_174 : decode cX4_solve 174 = .ok (.aload_n 0, 1) := by decide +kernel
theorem dX4_solve_175 : decode cX4_solve 175 = .ok (.getfield 20, 3) := by decide +kernel
theorem dX4_solve_178 : decode cX4_solve 178 = .ok (.iload_n 2, 1) := by decide +kernel
theorem dX4_solve_179 : decode cX4_solve 179 = .ok (.iaload, 1) := by decide +kernel
theorem dX4_solve_180 : decode cX4_solve 180 = .ok (.iaload, 1) := by decide +kernel
theorem dX4_solve_181 : decode cX4_solve 181 = .ok (.dup2, 1) := by decide +kernel
theorem dX4_solve_182 : decode cX4_solve 182 = .ok (.laload, 1) := by decide +kernel
theorem dX4_solve_183 : decode cX4_solve 183 = .ok (.aload_n 0, 1) := by decide +kernel
theorem dX4_solve_184 : decode cX4_solve 184 = .ok (.getfield 26, 3) := by decide +kernel
theorem dX4_solve_187 : decode cX4_solve 187 = .ok (.iload_n 2, 1) := by decide +kernel
theorem dX4_solve_188 : decode cX4_solve 188 = .ok (.iaload, 1) := by decide +kernel
theorem dX4_solve_189 : decode cX4_solve 189 = .ok (.i2l, 1) := by decide +kernel
theorem dX4_solve_190 : decode cX4_solve 190 = .ok (.lsub, 1) := by decide +kernel
theorem dX4_solve_191 : decode cX4_solve 191 = .ok (.lastore, 1) := by decide +kernel
theorem dX4_solve_192 : decode cX4_solve 192 = .ok (.aload_n 0, 1) := by decide +kernel
theorem dX4_solve_193 : decode cX4_solve 193 = .ok (.getfield 38, 3) := by decide +kernel
theorem dX4_solve_196 : decode cX4_solve 196 = .ok (.aload_n 0, 1) := by decide +kernel
theorem dX4_solve_197 : decode cX4_solve 197 = .ok (.getfield 23, 3) := by decide +kernel
theorem dX4_solve_200 : decode cX4_solve 200 = .ok (.iload_n 2, 1) := by decide +kernel
theorem dX4_solve_201 : decode cX4_solve 201 = .ok (.iaload, 1) := by decide +kernel
theorem dX4_solve_202 : decode cX4_solve 202 = .ok (.iaload, 1) := by decide +kernel
theorem dX4_solve_203 : decode cX4_solve 203 = .ok (.iconst (-1), 1) := by decide +kernel
theorem dX4_solve_204 : decode cX4_solve 204 = .ok (.if_icmp .eq 29, 3) := by decide +kernel
theorem dX4_solve_207 : decode cX4_solve 207 = .ok (.aload_n 0, 1) := by decide +kernel
theorem dX4_solve_208 : decode cX4_solve 208 = .ok (.getfield 45, 3) := by decide +kernel
theorem dX4_solve_211 : decode cX4_solve 211 = .ok (.aload_n 0, 1) := by decide +kernel
theorem dX4_solve_212 : decode cX4_solve 212 = .ok (.getfield 38, 3) := by decide +kernel
theorem dX4_solve_215 : decode cX4_solve 215 = .ok (.aload_n 0, 1) := by decide +kernel
theorem dX4_solve_216 : decode cX4_solve 216 = .ok (.getfield 23, 3) := by decide +kernel
theorem dX4_solve_219 : decode cX4_solve 219 = .ok (.iload_n 2, 1) := by decide +kernel
theorem dX4_solve_220 : decode cX4_solve 220 = .ok (.iaload, 1) := by decide +kernel
theorem dX4_solve_221 : decode cX4_solve 221 = .ok (.iaload, 1) := by decide +kernel
theorem dX4_solve_222 : decode cX4_solve 222 = .ok (.dup2, 1) := by decide +kernel
theorem dX4_solve_223 : decode cX4_solve 223 = .ok (.laload, 1) := by decide +kernel
theorem dX4_solve_224 : decode cX4_solve 224 = .ok (.aload_n 0, 1) := by decide +kernel
theorem dX4_solve_225 : decode cX4_solve 225 = .ok (.getfield 26, 3) := by decide +kernel
theorem dX4_solve_228 : decode cX4_solve 228 = .ok (.iload_n 2, 1) := by decide +kernel
theorem dX4_solve_229 : decode cX4_solve 229 = .ok (.iaload, 1) := by decide +kernel
theorem dX4_solve_230 : decode cX4_solve 230 = .ok (.i2l, 1) := by decide +kernel
theorem dX4_solve_231 : decode cX4_solve 231 = .ok (.ladd, 1) := by decide +kernel
theorem dX4_solve_232 : decode cX4_solve 232 = .ok (.lastore, 1) := by decide +kernel
theorem dX4_solve_233 : decode cX4_solve 233 = .ok (.iinc 2 1, 3) := by decide +kernel
theorem dX4_solve_236 : decode cX4_solve 236 = .ok (.goto (-161), 3) := by decide +kernel
theorem dX4_solve_239 : decode cX4_solve 239 = .ok (.aload_n 0, 1) := by decide +kernel
theorem dX4_solve_240 : decode cX4_solve 240 = .ok (.aload_n 0, 1) := by decide +kernel
theorem dX4_solve_241 : decode cX4_solve 241 = .ok (.iconst (-1), 1) := by decide +kernel
theorem dX4_solve_242 : decode cX4_solve 242 = .ok (.invokevirtual 130, 3) := by decide +kernel
theorem dX4_solve_245 : decode cX4_solve 245 = .ok (.putfield 134, 3) := by decide +kernel
theorem dX4_solve_248 : decode cX4_solve 248 = .ok (.iconst 0, 1) := by decide +kernel
theorem dX4_solve_249 : decode cX4_solve 249 = .ok (.istore_n 2, 1) := by decide +kernel
theorem dX4_solve_250 : decode cX4_solve 250 = .ok (.iload_n 2, 1) := by decide +kernel
theorem dX4_solve_251 : decode cX4_solve 251 = .ok (.aload_n 0, 1) := by decide +kernel
theorem dX4_solve_252 : decode cX4_solve 252 = .ok (.getfield 61, 3) := by decide +kernel
theorem dX4_solve_255 : decode cX4_solve 255 = .ok (.if_icmp .ge 62, 3) := by decide +kernel
theorem dX4_solve_258 : decode cX4_solve 258 = .ok (.aload_n 0, 1) := by decide +kernel
theorem dX4_solve_259 : decode cX4_solve 259 = .ok (.getfield 51, 3) := by decide +kernel
theorem dX4_solve_262 : decode cX4_solve 262 = .ok (.iload_n 2, 1) := by decide +kernel
theorem dX4_solve_263 : decode cX4_solve 263 = .ok (.aload_n 0, 1) := by decide +kernel
theorem dX4_solve_264 : decode cX4_solve 264 = .ok (.getfield 54, 3) := by decide +kernel
theorem dX4_solve_267 : decode cX4_solve 267 = .ok (.iload_n 2, 1) := by decide +kernel
theorem dX4_solve_268 : decode cX4_solve 268 = .ok (.baload, 1) := by decide +kernel
theorem dX4_solve_269 : decode cX4_solve 269 = .ok (.ifCond .eq 7, 3) := by decide +kernel
theorem dX4_solve_272 : decode cX4_solve 272 = .ok (.lconst 0, 1) := by decide +kernel
theorem dX4_solve_273 : decode cX4_solve 273 = .ok (.goto 37, 3) := by decide +kernel
theorem dX4_solve_276 : decode cX4_solve 276 = .ok (.aload_n 0, 1) := by decide +kernel
theorem dX4_solve_277 : decode cX4_solve 277 = .ok (.getfield 9, 3) := by decide +kernel
theorem dX4_solve_280 : decode cX4_solve 280 = .ok (.iload_n 2, 1) := by decide +kernel
theorem dX4_solve_281 : decode cX4_solve 281 = .ok (.baload, 1) := by decide +kernel
theorem dX4_solve_282 : decode cX4_solve 282 = .ok (.ifCond .eq 18, 3) := by decide +kernel
theorem dX4_solve_285 : decode cX4_solve 285 = .ok (.aload_n 0, 1) := by decide +kernel
theorem dX4_solve_286 : decode cX4_solve 286 = .ok (.getfield 13, 3) := by decide +kernel
theorem dX4_solve_289 : decode cX4_solve 289 = .ok (.iload_n 2, 1) := by decide +kernel
theorem dX4_solve_290 : decode cX4_solve 290 = .ok (.iaload, 1) := by decide +kernel
theorem dX4_solve_291 : decode cX4_solve 291 = .ok (.i2l, 1) := by decide +kernel
theorem dX4_solve_292 : decode cX4_solve 292 = .ok (.aload_n 0, 1) := by decide +kernel
theorem dX4_solve_293 : decode cX4_solve 293 = .ok (.getfield 134, 3) := by decide +kernel
theorem dX4_solve_296 : decode cX4_solve 296 = .ok (.lmul, 1) := by decide +kernel
theorem dX4_solve_297 : decode cX4_solve 297 = .ok (.goto 13, 3) := by decide +kernel
theorem dX4_solve_300 : decode cX4_solve 300 = .ok (.aload_n 0, 1) := by decide +kernel
theorem dX4_solve_301 : decode cX4_solve 301 = .ok (.aload_n 0, 1) := by decide +kernel
theorem dX4_solve_302 : decode cX4_solve 302 = .ok (.getfield 38, 3) := by decide +kernel
theorem dX4_solve_305 : decode cX4_solve 305 = .ok (.iload_n 2, 1) := by decide +kernel
theorem dX4_solve_306 : decode cX4_solve 306 = .ok (.iaload, 1) := by decide +kernel
theorem dX4_solve_307 : decode cX4_solve 307 = .ok (.invokevirtual 130, 3) := by decide +kernel
theorem dX4_solve_310 : decode cX4_solve 310 = .ok (.lastore, 1) := by decide +kernel
theorem dX4_solve_311 : decode cX4_solve 311 = .ok (.iinc 2 1, 3) := by decide +kernel
theorem dX4_solve_314 : decode cX4_solve 314 = .ok (.goto (-64), 3) := by decide +kernel
theorem dX4_solve_317 : decode cX4_solve 317 = .ok (.return_, 1) := by decide +kernel
theorem dX4_divisor_0 : decode cX4_divisor 0 = .ok (.lload_n 0, 1) := by decide +kernel
theorem dX4_divisor_1 : decode cX4_divisor 1 = .ok (.invokestatic 138, 3) := by decide +kernel
theorem dX4_divisor_4 : decode cX4_divisor 4 = .ok (.lstore 4, 2) := by decide +kernel
theorem dX4_divisor_6 : decode cX4_divisor 6 = .ok (.lload_n 2, 1) := by decide +kernel
theorem dX4_divisor_7 : decode cX4_divisor 7 = .ok (.invokestatic 138, 3) := by decide +kernel
theorem dX4_divisor_10 : decode cX4_divisor 10 = .ok (.lstore 6, 2) := by decide +kernel
theorem dX4_divisor_12 : decode cX4_divisor 12 = .ok (.lload 6, 2) := by decide +kernel
theorem dX4_divisor_14 : decode cX4_divisor 14 = .ok (.lconst 0, 1) := by decide +kernel
theorem dX4_divisor_15 : decode cX4_divisor 15 = .ok (.lcmp, 1) := by decide +kernel
theorem dX4_divisor_16 : decode cX4_divisor 16 = .ok (.ifCond .eq 21, 3) := by decide +kernel
theorem dX4_divisor_19 : decode cX4_divisor 19 = .ok (.lload 4, 2) := by decide +kernel
theorem dX4_divisor_21 : decode cX4_divisor 21 = .ok (.lload 6, 2) := by decide +kernel
theorem dX4_divisor_23 : decode cX4_divisor 23 = .ok (.lrem, 1) := by decide +kernel
theorem dX4_divisor_24 : decode cX4_divisor 24 = .ok (.lstore 8, 2) := by decide +kernel
theorem dX4_divisor_26 : decode cX4_divisor 26 = .ok (.lload 6, 2) := by decide +kernel
theorem dX4_divisor_28 : decode cX4_divisor 28 = .ok (.lstore 4, 2) := by decide +kernel
theorem dX4_divisor_30 : decode cX4_divisor 30 = .ok (.lload 8, 2) := by decide +kernel
theorem dX4_divisor_32 : decode cX4_divisor 32 = .ok (.lstore 6, 2) := by decide +kernel
theorem dX4_divisor_34 : decode cX4_divisor 34 = .ok (.goto (-22), 3) := by decide +kernel
theorem dX4_divisor_37 : decode cX4_divisor 37 = .ok (.lload 4, 2) := by decide +kernel
theorem dX4_divisor_39 : decode cX4_divisor 39 = .ok (.lreturn, 1) := by decide +kernel
theorem dX4_part_0 : decode cX4_part 0 = .ok (.lload_n 0, 1) := by decide +kernel
theorem dX4_part_1 : decode cX4_part 1 = .ok (.lload_n 2, 1) := by decide +kernel
theorem dX4_part_2 : decode cX4_part 2 = .ok (.invokestatic 144, 3) := by decide +kernel
theorem dX4_part_5 : decode cX4_part 5 = .ok (.lstore 5, 2) := by decide +kernel
theorem dX4_part_7 : decode cX4_part 7 = .ok (.iload 4, 2) := by decide +kernel
theorem dX4_part_9 : decode cX4_part 9 = .ok (.ifCond .eq 7, 3) := by decide +kernel
theorem dX4_part_12 : decode cX4_part 12 = .ok (.lload_n 0, 1) := by decide +kernel
theorem dX4_part_13 : decode cX4_part 13 = .ok (.goto 4, 3) := by decide +kernel
theorem dX4_part_16 : decode cX4_part 16 = .ok (.lload_n 2, 1) := by decide +kernel
theorem dX4_part_17 : decode cX4_part 17 = .ok (.lload 5, 2) := by decide +kernel
theorem dX4_part_19 : decode cX4_part 19 = .ok (.ldiv, 1) := by decide +kernel
theorem dX4_part_20 : decode cX4_part 20 = .ok (.lreturn, 1) := by decide +kernel
theorem dX4_potential_0 : decode cX4_potential 0 = .ok (.aload_n 0, 1) := by decide +kernel
theorem dX4_potential_1 : decode cX4_potential 1 = .ok (.aload_n 0, 1) := by decide +kernel
theorem dX4_potential_2 : decode cX4_potential 2 = .ok (.iload_n 1, 1) := by decide +kernel
theorem dX4_potential_3 : decode cX4_potential 3 = .ok (.invokevirtual 75, 3) := by decide +kernel
theorem dX4_potential_6 : decode cX4_potential 6 = .ok (.ifCond .ne 7, 3) := by decide +kernel
theorem dX4_potential_9 : decode cX4_potential 9 = .ok (.iconst 1, 1) := by decide +kernel
theorem dX4_potential_10 : decode cX4_potential 10 = .ok (.goto 28, 3) := by decide +kernel
theorem dX4_potential_13 : decode cX4_potential 13 = .ok (.iload_n 2, 1) := by decide +kernel
theorem dX4_potential_14 : decode cX4_potential 14 = .ok (.invokestatic 103, 3) := by decide +kernel
theorem dX4_potential_17 : decode cX4_potential 17 = .ok (.ifCond .ne 7, 3) := by decide +kernel
theorem dX4_potential_20 : decode cX4_potential 20 = .ok (.iconst 2, 1) := by decide +kernel
theorem dX4_potential_21 : decode cX4_potential 21 = .ok (.goto 17, 3) := by decide +kernel
theorem dX4_potential_24 : decode cX4_potential 24 = .ok (.aload_n 0, 1) := by decide +kernel
theorem dX4_potential_25 : decode cX4_potential 25 = .ok (.iload_n 1, 1) := by decide +kernel
theorem dX4_potential_26 : decode cX4_potential 26 = .ok (.iload_n 2, 1) := by decide +kernel
theorem dX4_potential_27 : decode cX4_potential 27 = .ok (.invokevirtual 112, 3) := by decide +kernel
theorem dX4_potential_30 : decode cX4_potential 30 = .ok (.ifCond .eq 7, 3) := by decide +kernel
theorem dX4_potential_33 : decode cX4_potential 33 = .ok (.iconst 3, 1) := by decide +kernel
theorem dX4_potential_34 : decode cX4_potential 34 = .ok (.goto 4, 3) := by decide +kernel
theorem dX4_potential_37 : decode cX4_potential 37 = .ok (.iconst 0, 1) := by decide +kernel
theorem dX4_potential_38 : decode cX4_potential 38 = .ok (.putfield 57, 3) := by decide +kernel
theorem dX4_potential_41 : decode cX4_potential 41 = .ok (.aload_n 0, 1) := by decide +kernel
theorem dX4_potential_42 : decode cX4_potential 42 = .ok (.getfield 57, 3) := by decide +kernel
theorem dX4_potential_45 : decode cX4_potential 45 = .ok (.ifCond .eq 5, 3) := by decide +kernel
theorem dX4_potential_48 : decode cX4_potential 48 = .ok (.lconst 0, 1) := by decide +kernel
theorem dX4_potential_49 : decode cX4_potential 49 = .ok (.lreturn, 1) := by decide +kernel
theorem dX4_potential_50 : decode cX4_potential 50 = .ok (.aload_n 0, 1) := by decide +kernel
theorem dX4_potential_51 : decode cX4_potential 51 = .ok (.iload_n 2, 1) := by decide +kernel
theorem dX4_potential_52 : decode cX4_potential 52 = .ok (.invokevirtual 148, 3) := by decide +kernel
theorem dX4_potential_55 : decode cX4_potential 55 = .ok (.aload_n 0, 1) := by decide +kernel
theorem dX4_potential_56 : decode cX4_potential 56 = .ok (.getfield 51, 3) := by decide +kernel
theorem dX4_potential_59 : decode cX4_potential 59 = .ok (.iload_n 1, 1) := by decide +kernel
theorem dX4_potential_60 : decode cX4_potential 60 = .ok (.laload, 1) := by decide +kernel
theorem dX4_potential_61 : decode cX4_potential 61 = .ok (.aload_n 0, 1) := by decide +kernel
theorem dX4_potential_62 : decode cX4_potential 62 = .ok (.getfield 134, 3) := by decide +kernel
theorem dX4_potential_65 : decode cX4_potential 65 = .ok (.iload_n 3, 1) := by decide +kernel
theorem dX4_potential_66 : decode cX4_potential 66 = .ok (.invokestatic 152, 3) := by decide +kernel
theorem dX4_potential_69 : decode cX4_potential 69 = .ok (.lreturn, 1) := by decide +kernel
theorem dX4_current_0 : decode cX4_current 0 = .ok (.aload_n 0, 1) := by decide +kernel
theorem dX4_current_1 : decode cX4_current 1 = .ok (.aload_n 0, 1) := by decide +kernel
theorem dX4_current_2 : decode cX4_current 2 = .ok (.iload_n 1, 1) := by decide +kernel
theorem dX4_current_3 : decode cX4_current 3 = .ok (.invokevirtual 83, 3) := by decide +kernel
theorem dX4_current_6 : decode cX4_current 6 = .ok (.ifCond .ne 7, 3) := by decide +kernel
theorem dX4_current_9 : decode cX4_current 9 = .ok (.iconst 1, 1) := by decide +kernel
theorem dX4_current_10 : decode cX4_current 10 = .ok (.goto 42, 3) := by decide +kernel
theorem dX4_current_13 : decode cX4_current 13 = .ok (.iload_n 2, 1) := by decide +kernel
theorem dX4_current_14 : decode cX4_current 14 = .ok (.invokestatic 103, 3) := by decide +kernel
theorem dX4_current_17 : decode cX4_current 17 = .ok (.ifCond .ne 7, 3) := by decide +kernel
theorem dX4_current_20 : decode cX4_current 20 = .ok (.iconst 2, 1) := by decide +kernel
theorem dX4_current_21 : decode cX4_current 21 = .ok (.goto 31, 3) := by decide +kernel
theorem dX4_current_24 : decode cX4_current 24 = .ok (.aload_n 0, 1) := by decide +kernel
theorem dX4_current_25 : decode cX4_current 25 = .ok (.iload_n 1, 1) := by decide +kernel
theorem dX4_current_26 : decode cX4_current 26 = .ok (.iload_n 2, 1) := by decide +kernel
theorem dX4_current_27 : decode cX4_current 27 = .ok (.invokevirtual 106, 3) := by decide +kernel
theorem dX4_current_30 : decode cX4_current 30 = .ok (.ifCond .eq 21, 3) := by decide +kernel
theorem dX4_current_33 : decode cX4_current 33 = .ok (.aload_n 0, 1) := by decide +kernel
theorem dX4_current_34 : decode cX4_current 34 = .ok (.aload_n 0, 1) := by decide +kernel
theorem dX4_current_35 : decode cX4_current 35 = .ok (.getfield 20, 3) := by decide +kernel
theorem dX4_current_38 : decode cX4_current 38 = .ok (.iload_n 1, 1) := by decide +kernel
theorem dX4_current_39 : decode cX4_current 39 = .ok (.iaload, 1) := by decide +kernel
theorem dX4_current_40 : decode cX4_current 40 = .ok (.iload_n 2, 1) := by decide +kernel
theorem dX4_current_41 : decode cX4_current 41 = .ok (.invokevirtual 112, 3) := by decide +kernel
theorem dX4_current_44 : decode cX4_current 44 = .ok (.ifCond .eq 7, 3) := by decide +kernel
theorem dX4_current_47 : decode cX4_current 47 = .ok (.iconst 3, 1) := by decide +kernel
theorem dX4_current_48 : decode cX4_current 48 = .ok (.goto 4, 3) := by decide +kernel
theorem dX4_current_51 : decode cX4_current 51 = .ok (.iconst 0, 1) := by decide +kernel
theorem dX4_current_52 : decode cX4_current 52 = .ok (.putfield 57, 3) := by decide +kernel
theorem dX4_current_55 : decode cX4_current 55 = .ok (.aload_n 0, 1) := by decide +kernel
theorem dX4_current_56 : decode cX4_current 56 = .ok (.getfield 57, 3) := by decide +kernel
theorem dX4_current_59 : decode cX4_current 59 = .ok (.ifCond .eq 5, 3) := by decide +kernel
theorem dX4_current_62 : decode cX4_current 62 = .ok (.lconst 0, 1) := by decide +kernel
theorem dX4_current_63 : decode cX4_current 63 = .ok (.lreturn, 1) := by decide +kernel
theorem dX4_current_64 : decode cX4_current 64 = .ok (.aload_n 0, 1) := by decide +kernel
theorem dX4_current_65 : decode cX4_current 65 = .ok (.iload_n 1, 1) := by decide +kernel
theorem dX4_current_66 : decode cX4_current 66 = .ok (.iload_n 2, 1) := by decide +kernel
theorem dX4_current_67 : decode cX4_current 67 = .ok (.invokevirtual 99, 3) := by decide +kernel
theorem dX4_current_70 : decode cX4_current 70 = .ok (.ifCond .ne 13, 3) := by decide +kernel
theorem dX4_current_73 : decode cX4_current 73 = .ok (.iload_n 3, 1) := by decide +kernel
theorem dX4_current_74 : decode cX4_current 74 = .ok (.ifCond .eq 7, 3) := by decide +kernel
theorem dX4_current_77 : decode cX4_current 77 = .ok (.lconst 0, 1) := by decide +kernel
theorem dX4_current_78 : decode cX4_current 78 = .ok (.goto 4, 3) := by decide +kernel
theorem dX4_current_81 : decode cX4_current 81 = .ok (.lconst 1, 1) := by decide +kernel
theorem dX4_current_82 : decode cX4_current 82 = .ok (.lreturn, 1) := by decide +kernel
theorem dX4_current_83 : decode cX4_current 83 = .ok (.aload_n 0, 1) := by decide +kernel
theorem dX4_current_84 : decode cX4_current 84 = .ok (.getfield 17, 3) := by decide +kernel
theorem dX4_current_87 : decode cX4_current 87 = .ok (.iload_n 1, 1) := by decide +kernel
theorem dX4_current_88 : decode cX4_current 88 = .ok (.baload, 1) := by decide +kernel
theorem dX4_current_89 : decode cX4_current 89 = .ok (.ifCond .eq 19, 3) := by decide +kernel
theorem dX4_current_92 : decode cX4_current 92 = .ok (.iload_n 3, 1) := by decide +kernel
theorem dX4_current_93 : decode cX4_current 93 = .ok (.ifCond .eq 13, 3) := by decide +kernel
theorem dX4_current_96 : decode cX4_current 96 = .ok (.aload_n 0, 1) := by decide +kernel
theorem dX4_current_97 : decode cX4_current 97 = .ok (.getfield 26, 3) := by decide +kernel
theorem dX4_current_100 : decode cX4_current 100 = .ok (.iload_n 1, 1) := by decide +kernel
theorem dX4_current_101 : decode cX4_current 101 = .ok (.iaload, 1) := by decide +kernel
theorem dX4_current_102 : decode cX4_current 102 = .ok (.i2l, 1) := by decide +kernel
theorem dX4_current_103 : decode cX4_current 103 = .ok (.goto 4, 3) := by decide +kernel
theorem dX4_current_106 : decode cX4_current 106 = .ok (.lconst 1, 1) := by decide +kernel
theorem dX4_current_107 : decode cX4_current 107 = .ok (.lreturn, 1) := by decide +kernel
theorem dX4_current_108 : decode cX4_current 108 = .ok (.aload_n 0, 1) := by decide +kernel
theorem dX4_current_109 : decode cX4_current 109 = .ok (.iload_n 2, 1) := by decide +kernel
theorem dX4_current_110 : decode cX4_current 110 = .ok (.invokevirtual 148, 3) := by decide +kernel
theorem dX4_current_113 : decode cX4_current 113 = .ok (.aload_n 0, 1) := by decide +kernel
theorem dX4_current_114 : decode cX4_current 114 = .ok (.getfield 26, 3) := by decide +kernel
theorem dX4_current_117 : decode cX4_current 117 = .ok (.iload_n 1, 1) := by decide +kernel
theorem dX4_current_118 : decode cX4_current 118 = .ok (.iaload, 1) := by decide +kernel
theorem dX4_current_119 : decode cX4_current 119 = .ok (.i2l, 1) := by decide +kernel
theorem dX4_current_120 : decode cX4_current 120 = .ok (.aload_n 0, 1) := by decide +kernel
theorem dX4_current_121 : decode cX4_current 121 = .ok (.getfield 51, 3) := by decide +kernel
theorem dX4_current_124 : decode cX4_current 124 = .ok (.aload_n 0, 1) := by decide +kernel
theorem dX4_current_125 : decode cX4_current 125 = .ok (.getfield 20, 3) := by decide +kernel
theorem dX4_current_128 : decode cX4_current 128 = .ok (.iload_n 1, 1) := by decide +kernel
theorem dX4_current_129 : decode cX4_current 129 = .ok (.iaload, 1) := by decide +kernel
theorem dX4_current_130 : decode cX4_current 130 = .ok (.laload, 1) := by decide +kernel
theorem dX4_current_131 : decode cX4_current 131 = .ok (.aload_n 0, 1) := by decide +kernel
theorem dX4_current_132 : decode cX4_current 132 = .ok (.getfield 51, 3) := by decide +kernel
theorem dX4_current_135 : decode cX4_current 135 = .ok (.aload_n 0, 1) := by decide +kernel
theorem dX4_current_136 : decode cX4_current 136 = .ok (.getfield 23, 3) := by decide +kernel
theorem dX4_current_139 : decode cX4_current 139 = .ok (.iload_n 1, 1) := by decide +kernel
theorem dX4_current_140 : decode cX4_current 140 = .ok (.iaload, 1) := by decide +kernel
theorem dX4_current_141 : decode cX4_current 141 = .ok (.laload, 1) := by decide +kernel
theorem dX4_current_142 : decode cX4_current 142 = .ok (.lsub, 1) := by decide +kernel
theorem dX4_current_143 : decode cX4_current 143 = .ok (.lmul, 1) := by decide +kernel
theorem dX4_current_144 : decode cX4_current 144 = .ok (.aload_n 0, 1) := by decide +kernel
theorem dX4_current_145 : decode cX4_current 145 = .ok (.getfield 134, 3) := by decide +kernel
theorem dX4_current_148 : decode cX4_current 148 = .ok (.iload_n 3, 1) := by decide +kernel
theorem dX4_current_149 : decode cX4_current 149 = .ok (.invokestatic 152, 3) := by decide +kernel
theorem dX4_current_152 : decode cX4_current 152 = .ok (.lreturn, 1) := by decide +kernel
theorem dX4_feed_0 : decode cX4_feed 0 = .ok (.aload_n 0, 1) := by decide +kernel
theorem dX4_feed_1 : decode cX4_feed 1 = .ok (.aload_n 0, 1) := by decide +kernel
theorem dX4_feed_2 : decode cX4_feed 2 = .ok (.iload_n 1, 1) := by decide +kernel
theorem dX4_feed_3 : decode cX4_feed 3 = .ok (.invokevirtual 75, 3) := by decide +kernel
theorem dX4_feed_6 : decode cX4_feed 6 = .ok (.ifCond .ne 7, 3) := by decide +kernel
theorem dX4_feed_9 : decode cX4_feed 9 = .ok (.iconst 1, 1) := by decide +kernel
theorem dX4_feed_10 : decode cX4_feed 10 = .ok (.goto 28, 3) := by decide +kernel
theorem dX4_feed_13 : decode cX4_feed 13 = .ok (.iload_n 2, 1) := by decide +kernel
theorem dX4_feed_14 : decode cX4_feed 14 = .ok (.invokestatic 103, 3) := by decide +kernel
theorem dX4_feed_17 : decode cX4_feed 17 = .ok (.ifCond .ne 7, 3) := by decide +kernel
theorem dX4_feed_20 : decode cX4_feed 20 = .ok (.iconst 2, 1) := by decide +kernel
theorem dX4_feed_21 : decode cX4_feed 21 = .ok (.goto 17, 3) := by decide +kernel
theorem dX4_feed_24 : decode cX4_feed 24 = .ok (.aload_n 0, 1) := by decide +kernel
theorem dX4_feed_25 : decode cX4_feed 25 = .ok (.getfield 9, 3) := by decide +kernel
theorem dX4_feed_28 : decode cX4_feed 28 = .ok (.iload_n 1, 1) := by decide +kernel
theorem dX4_feed_29 : decode cX4_feed 29 = .ok (.baload, 1) := by decide +kernel
theorem dX4_feed_30 : decode cX4_feed 30 = .ok (.ifCond .eq 7, 3) := by decide +kernel
theorem dX4_feed_33 : decode cX4_feed 33 = .ok (.iconst 0, 1) := by decide +kernel
theorem dX4_feed_34 : decode cX4_feed 34 = .ok (.goto 4, 3) := by decide +kernel
theorem dX4_feed_37 : decode cX4_feed 37 = .ok (.iconst 3, 1) := by decide +kernel
theorem dX4_feed_38 : decode cX4_feed 38 = .ok (.putfield 57, 3) := by decide +kernel
theorem dX4_feed_41 : decode cX4_feed 41 = .ok (.aload_n 0, 1) := by decide +kernel
theorem dX4_feed_42 : decode cX4_feed 42 = .ok (.getfield 57, 3) := by decide +kernel
theorem dX4_feed_45 : decode cX4_feed 45 = .ok (.ifCond .eq 5, 3) := by decide +kernel
theorem dX4_feed_48 : decode cX4_feed 48 = .ok (.lconst 0, 1) := by decide +kernel
theorem dX4_feed_49 : decode cX4_feed 49 = .ok (.lreturn, 1) := by decide +kernel
theorem dX4_feed_50 : decode cX4_feed 50 = .ok (.aload_n 0, 1) := by decide +kernel
theorem dX4_feed_51 : decode cX4_feed 51 = .ok (.iload_n 2, 1) := by decide +kernel
theorem dX4_feed_52 : decode cX4_feed 52 = .ok (.invokevirtual 148, 3) := by decide +kernel
theorem dX4_feed_55 : decode cX4_feed 55 = .ok (.lconst 0, 1) := by decide +kernel
theorem dX4_feed_56 : decode cX4_feed 56 = .ok (.lstore 4, 2) := by decide +kernel
theorem dX4_feed_58 : decode cX4_feed 58 = .ok (.iconst 0, 1) := by decide +kernel
theorem dX4_feed_59 : decode cX4_feed 59 = .ok (.istore 6, 2) := by decide +kernel
theorem dX4_feed_61 : decode cX4_feed 61 = .ok (.iload 6, 2) := by decide +kernel
theorem dX4_feed_63 : decode cX4_feed 63 = .ok (.aload_n 0, 1) := by decide +kernel
theorem dX4_feed_64 : decode cX4_feed 64 = .ok (.getfield 68, 3) := by decide +kernel
theorem dX4_feed_67 : decode cX4_feed 67 = .ok (.if_icmp .ge 130, 3) := by decide +kernel
theorem dX4_feed_70 : decode cX4_feed 70 = .ok (.aload_n 0, 1) := by decide +kernel
theorem dX4_feed_71 : decode cX4_feed 71 = .ok (.getfield 20, 3) := by decide +kernel
theorem dX4_feed_74 : decode cX4_feed 74 = .ok (.iload 6, 2) := by decide +kernel
theorem dX4_feed_76 : decode cX4_feed 76 = .ok (.iaload, 1) := by decide +kernel
theorem dX4_feed_77 : decode cX4_feed 77 = .ok (.iload_n 1, 1) := by decide +kernel
theorem dX4_feed_78 : decode cX4_feed 78 = .ok (.if_icmp .eq 14, 3) := by decide +kernel
theorem dX4_feed_81 : decode cX4_feed 81 = .ok (.aload_n 0, 1) := by decide +kernel
theorem dX4_feed_82 : decode cX4_feed 82 = .ok (.getfield 23, 3) := by decide +kernel
theorem dX4_feed_85 : decode cX4_feed 85 = .ok (.iload 6, 2) := by decide +kernel
theorem dX4_feed_87 : decode cX4_feed 87 = .ok (.iaload, 1) := by decide +kernel
theorem dX4_feed_88 : decode cX4_feed 88 = .ok (.iload_n 1, 1) := by decide +kernel
theorem dX4_feed_89 : decode cX4_feed 89 = .ok (.if_icmp .ne 102, 3) := by decide +kernel
theorem dX4_feed_92 : decode cX4_feed 92 = .ok (.aload_n 0, 1) := by decide +kernel
theorem dX4_feed_93 : decode cX4_feed 93 = .ok (.iload 6, 2) := by decide +kernel
theorem dX4_feed_95 : decode cX4_feed 95 = .ok (.iload_n 2, 1) := by decide +kernel
theorem dX4_feed_96 : decode cX4_feed 96 = .ok (.invokevirtual 99, 3) := by decide +kernel
theorem dX4_feed_99 : decode cX4_feed 99 = .ok (.ifCond .ne 6, 3) := by decide +kernel
theorem dX4_feed_102 : decode cX4_feed 102 = .ok (.goto 89, 3) := by decide +kernel
theorem dX4_feed_105 : decode cX4_feed 105 = .ok (.aload_n 0, 1) := by decide +kernel
theorem dX4_feed_106 : decode cX4_feed 106 = .ok (.getfield 17, 3) := by decide +kernel
theorem dX4_feed_109 : decode cX4_feed 109 = .ok (.iload 6, 2) := by decide +kernel
theorem dX4_feed_111 : decode cX4_feed 111 = .ok (.baload, 1) := by decide +kernel
theorem dX4_feed_112 : decode cX4_feed 112 = .ok (.ifCond .eq 19, 3) := by decide +kernel
theorem dX4_feed_115 : decode cX4_feed 115 = .ok (.aload_n 0, 1) := by decide +kernel
theorem dX4_feed_116 : decode cX4_feed 116 = .ok (.getfield 26, 3) := by decide +kernel
theorem dX4_feed_119 : decode cX4_feed 119 = .ok (.iload 6, 2) := by decide +kernel
theorem dX4_feed_121 : decode cX4_feed 121 = .ok (.iaload, 1) := by decide +kernel
theorem dX4_feed_122 : decode cX4_feed 122 = .ok (.i2l, 1) := by decide +kernel
theorem dX4_feed_123 : decode cX4_feed 123 = .ok (.aload_n 0, 1) := by decide +kernel
theorem dX4_feed_124 : decode cX4_feed 124 = .ok (.getfield 134, 3) := by decide +kernel
theorem dX4_feed_127 : decode cX4_feed 127 = .ok (.lmul, 1) := by decide +kernel
theorem dX4_feed_128 : decode cX4_feed 128 = .ok (.goto 37, 3) := by decide +kernel
theorem dX4_feed_131 : decode cX4_feed 131 = .ok (.aload_n 0, 1) := by decide +kernel
theorem dX4_feed_132 : decode cX4_feed 132 = .ok (.getfield 26, 3) := by decide +kernel
theorem dX4_feed_135 : decode cX4_feed 135 = .ok (.iload 6, 2) := by decide +kernel
theorem dX4_feed_137 : decode cX4_feed 137 = .ok (.iaload, 1) := by decide +kernel
theorem dX4_feed_138 : decode cX4_feed 138 = .ok (.i2l, 1) := by decide +kernel
theorem dX4_feed_139 : decode cX4_feed 139 = .ok (.aload_n 0, 1) := by decide +kernel
theorem dX4_feed_140 : decode cX4_feed 140 = .ok (.getfield 51, 3) := by decide +kernel
theorem dX4_feed_143 : decode cX4_feed 143 = .ok (.aload_n 0, 1) := by decide +kernel
theorem dX4_feed_144 : decode cX4_feed 144 = .ok (.getfield 20, 3) := by decide +kernel
theorem dX4_feed_147 : decode cX4_feed 147 = .ok (.iload 6, 2) := by decide +kernel
theorem dX4_feed_149 : decode cX4_feed 149 = .ok (.iaload, 1) := by decide +kernel
theorem dX4_feed_150 : decode cX4_feed 150 = .ok (.laload, 1) := by decide +kernel
theorem dX4_feed_151 : decode cX4_feed 151 = .ok (.aload_n 0, 1) := by decide +kernel
theorem dX4_feed_152 : decode cX4_feed 152 = .ok (.getfield 51, 3) := by decide +kernel
theorem dX4_feed_155 : decode cX4_feed 155 = .ok (.aload_n 0, 1) := by decide +kernel
theorem dX4_feed_156 : decode cX4_feed 156 = .ok (.getfield 23, 3) := by decide +kernel
theorem dX4_feed_159 : decode cX4_feed 159 = .ok (.iload 6, 2) := by decide +kernel
theorem dX4_feed_161 : decode cX4_feed 161 = .ok (.iaload, 1) := by decide +kernel
theorem dX4_feed_162 : decode cX4_feed 162 = .ok (.laload, 1) := by decide +kernel
theorem dX4_feed_163 : decode cX4_feed 163 = .ok (.lsub, 1) := by decide +kernel
theorem dX4_feed_164 : decode cX4_feed 164 = .ok (.lmul, 1) := by decide +kernel
theorem dX4_feed_165 : decode cX4_feed 165 = .ok (.lstore 7, 2) := by decide +kernel
theorem dX4_feed_167 : decode cX4_feed 167 = .ok (.lload 4, 2) := by decide +kernel
theorem dX4_feed_169 : decode cX4_feed 169 = .ok (.aload_n 0, 1) := by decide +kernel
theorem dX4_feed_170 : decode cX4_feed 170 = .ok (.getfield 20, 3) := by decide +kernel
theorem dX4_feed_173 : decode cX4_feed 173 = .ok (.iload 6, 2) := by decide +kernel
theorem dX4_feed_175 : decode cX4_feed 175 = .ok (.iaload, 1) := by decide +kernel
theorem dX4_feed_176 : decode cX4_feed 176 = .ok (.iload_n 1, 1) := by decide +kernel
theorem dX4_feed_177 : decode cX4_feed 177 = .ok (.if_icmp .ne 8, 3) := by decide +kernel
theorem dX4_feed_180 : decode cX4_feed 180 = .ok (.lload 7, 2) := by decide +kernel
theorem dX4_feed_182 : decode cX4_feed 182 = .ok (.goto 6, 3) := by decide +kernel
theorem dX4_feed_185 : decode cX4_feed 185 = .ok (.lload 7, 2) := by decide +kernel
theorem dX4_feed_187 : decode cX4_feed 187 = .ok (.lneg, 1) := by decide +kernel
theorem dX4_feed_188 : decode cX4_feed 188 = .ok (.ladd, 1) := by decide +kernel
theorem dX4_feed_189 : decode cX4_feed 189 = .ok (.lstore 4, 2) := by decide +kernel
theorem dX4_feed_191 : decode cX4_feed 191 = .ok (.iinc 6 1, 3) := by decide +kernel
theorem dX4_feed_194 : decode cX4_feed 194 = .ok (.goto (-133), 3) := by decide +kernel
theorem dX4_feed_197 : decode cX4_feed 197 = .ok (.lload 4, 2) := by decide +kernel
theorem dX4_feed_199 : decode cX4_feed 199 = .ok (.aload_n 0, 1) := by decide +kernel
theorem dX4_feed_200 : decode cX4_feed 200 = .ok (.getfield 134, 3) := by decide +kernel
theorem dX4_feed_203 : decode cX4_feed 203 = .ok (.iload_n 3, 1) := by decide +kernel
theorem dX4_feed_204 : decode cX4_feed 204 = .ok (.invokestatic 152, 3) := by decide +kernel
theorem dX4_feed_207 : decode cX4_feed 207 = .ok (.lreturn, 1) := by decide +kernel
theorem dX4_resistance_0 : decode cX4_resistance 0 = .ok (.aload_n 0, 1) := by decide +kernel
theorem dX4_resistance_1 : decode cX4_resistance 1 = .ok (.aload_n 0, 1) := by decide +kernel
theorem dX4_resistance_2 : decode cX4_resistance 2 = .ok (.iload_n 1, 1) := by decide +kernel
theorem dX4_resistance_3 : decode cX4_resistance 3 = .ok (.invokevirtual 75, 3) := by decide +kernel
theorem dX4_resistance_6 : decode cX4_resistance 6 = .ok (.ifCond .eq 11, 3) := by decide +kernel
theorem dX4_resistance_9 : decode cX4_resistance 9 = .ok (.aload_n 0, 1) := by decide +kernel
theorem dX4_resistance_10 : decode cX4_resistance 10 = .ok (.iload_n 2, 1) := by decide +kernel
theorem dX4_resistance_11 : decode cX4_resistance 11 = .ok (.invokevirtual 75, 3) := by decide +kernel
theorem dX4_resistance_14 : decode cX4_resistance 14 = .ok (.ifCond .ne 7, 3) := by decide +kernel
theorem dX4_resistance_17 : decode cX4_resistance 17 = .ok (.iconst 1, 1) := by decide +kernel
theorem dX4_resistance_18 : decode cX4_resistance 18 = .ok (.goto 33, 3) := by decide +kernel
theorem dX4_resistance_21 : decode cX4_resistance 21 = .ok (.iload_n 3, 1) := by decide +kernel
theorem dX4_resistance_22 : decode cX4_resistance 22 = .ok (.invokestatic 103, 3) := by decide +kernel
theorem dX4_resistance_25 : decode cX4_resistance 25 = .ok (.ifCond .ne 7, 3) := by decide +kernel
theorem dX4_resistance_28 : decode cX4_resistance 28 = .ok (.iconst 2, 1) := by decide +kernel
theorem dX4_resistance_29 : decode cX4_resistance 29 = .ok (.goto 22, 3) := by decide +kernel
theorem dX4_resistance_32 : decode cX4_resistance 32 = .ok (.aload_n 0, 1) := by decide +kernel
theorem dX4_resistance_33 : decode cX4_resistance 33 = .ok (.iload_n 1, 1) := by decide +kernel
theorem dX4_resistance_34 : decode cX4_resistance 34 = .ok (.iload_n 3, 1) := by decide +kernel
theorem dX4_resistance_35 : decode cX4_resistance 35 = .ok (.invokevirtual 109, 3) := by decide +kernel
theorem dX4_resistance_38 : decode cX4_resistance 38 = .ok (.iload_n 2, 1) := by decide +kernel
theorem dX4_resistance_39 : decode cX4_resistance 39 = .ok (.ishr, 1) := by decide +kernel
theorem dX4_resistance_40 : decode cX4_resistance 40 = .ok (.iconst 1, 1) := by decide +kernel
theorem dX4_resistance_41 : decode cX4_resistance 41 = .ok (.iand, 1) := by decide +kernel
theorem dX4_resistance_42 : decode cX4_resistance 42 = .ok (.iconst 1, 1) := by decide +kernel
theorem dX4_resistance_43 : decode cX4_resistance 43 = .ok (.if_icmp .ne 7, 3) := by decide +kernel
theorem dX4_resistance_46 : decode cX4_resistance 46 = .ok (.iconst 0, 1) := by decide +kernel
theorem dX4_resistance_47 : decode cX4_resistance 47 = .ok (.goto 4, 3) := by decide +kernel
theorem dX4_resistance_50 : decode cX4_resistance 50 = .ok (.iconst 3, 1) := by decide +kernel
theorem dX4_resistance_51 : decode cX4_resistance 51 = .ok (.putfield 57, 3) := by decide +kernel
theorem dX4_resistance_54 : decode cX4_resistance 54 = .ok (.aload_n 0, 1) := by decide +kernel
theorem dX4_resistance_55 : decode cX4_resistance 55 = .ok (.getfield 57, 3) := by decide +kernel
theorem dX4_resistance_58 : decode cX4_resistance 58 = .ok (.ifCond .eq 5, 3) := by decide +kernel
theorem dX4_resistance_61 : decode cX4_resistance 61 = .ok (.lconst 0, 1) := by decide +kernel
theorem dX4_resistance_62 : decode cX4_resistance 62 = .ok (.lreturn, 1) := by decide +kernel
theorem dX4_resistance_63 : decode cX4_resistance 63 = .ok (.iload_n 1, 1) := by decide +kernel
theorem dX4_resistance_64 : decode cX4_resistance 64 = .ok (.iload_n 2, 1) := by decide +kernel
theorem dX4_resistance_65 : decode cX4_resistance 65 = .ok (.if_icmp .ne 14, 3) := by decide +kernel
theorem dX4_resistance_68 : decode cX4_resistance 68 = .ok (.iload 4, 2) := by decide +kernel
theorem dX4_resistance_70 : decode cX4_resistance 70 = .ok (.ifCond .eq 7, 3) := by decide +kernel
theorem dX4_resistance_73 : decode cX4_resistance 73 = .ok (.lconst 0, 1) := by decide +kernel
theorem dX4_resistance_74 : decode cX4_resistance 74 = .ok (.goto 4, 3) := by decide +kernel
theorem dX4_resistance_77 : decode cX4_resistance 77 = .ok (.lconst 1, 1) := by decide +kernel
theorem dX4_resistance_78 : decode cX4_resistance 78 = .ok (.lreturn, 1) := by decide +kernel
theorem dX4_resistance_79 : decode cX4_resistance 79 = .ok (.aload_n 0, 1) := by decide +kernel
theorem dX4_resistance_80 : decode cX4_resistance 80 = .ok (.invokevirtual 123, 3) := by decide +kernel
theorem dX4_resistance_83 : decode cX4_resistance 83 = .ok (.aload_n 0, 1) := by decide +kernel
theorem dX4_resistance_84 : decode cX4_resistance 84 = .ok (.iload_n 1, 1) := by decide +kernel
theorem dX4_resistance_85 : decode cX4_resistance 85 = .ok (.iload_n 3, 1) := by decide +kernel
theorem dX4_resistance_86 : decode cX4_resistance 86 = .ok (.invokevirtual 109, 3) := by decide +kernel
theorem dX4_resistance_89 : decode cX4_resistance 89 = .ok (.istore 5, 2) := by decide +kernel
theorem dX4_resistance_91 : decode cX4_resistance 91 = .ok (.iconst 0, 1) := by decide +kernel
theorem dX4_resistance_92 : decode cX4_resistance 92 = .ok (.istore 6, 2) := by decide +kernel
theorem dX4_resistance_94 : decode cX4_resistance 94 = .ok (.iload 6, 2) := by decide +kernel
theorem dX4_resistance_96 : decode cX4_resistance 96 = .ok (.aload_n 0, 1) := by decide +kernel
theorem dX4_resistance_97 : decode cX4_resistance 97 = .ok (.getfield 61, 3) := by decide +kernel
theorem dX4_resistance_100 : decode cX4_resistance 100 = .ok (.if_icmp .ge 49, 3) := by decide +kernel
theorem dX4_resistance_103 : decode cX4_resistance 103 = .ok (.iload 5, 2) := by decide +kernel
theorem dX4_resistance_105 : decode cX4_resistance 105 = .ok (.iload 6, 2) := by decide +kernel
theorem dX4_resistance_107 : decode cX4_resistance 107 = .ok (.ishr, 1) := by decide +kernel
theorem dX4_resistance_108 : decode cX4_resistance 108 = .ok (.iconst 1, 1) := by decide +kernel
theorem dX4_resistance_109 : decode cX4_resistance 109 = .ok (.iand, 1) := by decide +kernel
theorem dX4_resistance_110 : decode cX4_resistance 110 = .ok (.ifCond .eq 33, 3) := by decide +kernel
theorem dX4_resistance_113 : decode cX4_resistance 113 = .ok (.iload 6, 2) := by decide +kernel
theorem dX4_resistance_115 : decode cX4_resistance 115 = .ok (.iload_n 2, 1) := by decide +kernel
theorem dX4_resistance_116 : decode cX4_resistance 116 = .ok (.if_icmp .ne 6, 3) := by decide +kernel
theorem dX4_resistance_119 : decode cX4_resistance 119 = .ok (.goto 24, 3) := by decide +kernel
theorem dX4_resistance_122 : decode cX4_resistance 122 = .ok (.aload_n 0, 1) := by decide +kernel
theorem dX4_resistance_123 : decode cX4_resistance 123 = .ok (.getfield 38, 3) := by decide +kernel
theorem dX4_resistance_126 : decode cX4_resistance 126 = .ok (.iload 6, 2) := by decide +kernel
theorem dX4_resistance_128 : decode cX4_resistance 128 = .ok (.aload_n 0, 1) := by decide +kernel
theorem dX4_resistance_129 : decode cX4_resistance 129 = .ok (.getfield 115, 3) := by decide +kernel
theorem dX4_resistance_132 : decode cX4_resistance 132 = .ok (.iastore, 1) := by decide +kernel
theorem dX4_resistance_133 : decode cX4_resistance 133 = .ok (.aload_n 0, 1) := by decide +kernel
theorem dX4_resistance_134 : decode cX4_resistance 134 = .ok (.dup, 1) := by decide +kernel
theorem dX4_resistance_135 : decode cX4_resistance 135 = .ok (.getfield 115, 3) := by decide +kernel
theorem dX4_resistance_138 : decode cX4_resistance 138 = .ok (.iconst 1, 1) := by decide +kernel
theorem dX4_resistance_139 : decode cX4_resistance 139 = .ok (.iadd, 1) := by decide +kernel
theorem dX4_resistance_140 : decode cX4_resistance 140 = .ok (.putfield 115, 3) := by decide +kernel
theorem dX4_resistance_143 : decode cX4_resistance 143 = .ok (.iinc 6 1, 3) := by decide +kernel
theorem dX4_resistance_146 : decode cX4_resistance 146 = .ok (.goto (-52), 3) := by decide +kernel
theorem dX4_resistance_149 : decode cX4_resistance 149 = .ok (.iconst 0, 1) := by decide +kernel
theorem dX4_resistance_150 : decode cX4_resistance 150 = .ok (.istore 6, 2) := by decide +kernel
theorem dX4_resistance_152 : decode cX4_resistance 152 = .ok (.iload 6, 2) := by decide +kernel
theorem dX4_resistance_154 : decode cX4_resistance 154 = .ok (.aload_n 0, 1) := by decide +kernel
theorem dX4_resistance_155 : decode cX4_resistance 155 = .ok (.getfield 68, 3) := by decide +kernel
theorem dX4_resistance_158 : decode cX4_resistance 158 = .ok (.if_icmp .ge 87, 3) := by decide +kernel
theorem dX4_resistance_161 : decode cX4_resistance 161 = .ok (.aload_n 0, 1) := by decide +kernel
theorem dX4_resistance_162 : decode cX4_resistance 162 = .ok (.iload 6, 2) := by decide +kernel
theorem dX4_resistance_164 : decode cX4_resistance 164 = .ok (.iload_n 3, 1) := by decide +kernel
theorem dX4_resistance_165 : decode cX4_resistance 165 = .ok (.invokevirtual 106, 3) := by decide +kernel
theorem dX4_resistance_168 : decode cX4_resistance 168 = .ok (.ifCond .eq 71, 3) := by decide +kernel
theorem dX4_resistance_171 : decode cX4_resistance 171 = .ok (.iload 5, 2) := by decide +kernel
theorem dX4_resistance_173 : decode cX4_resistance 173 = .ok (.aload_n 0, 1) := by decide +kernel
theorem dX4_resistance_174 : decode cX4_resistance 174 = .ok (.getfield 20, 3) := by decide +kernel
theorem dX4_resistance_177 : decode cX4_resistance 177 = .ok (.iload 6, 2) := by decide +kernel
theorem dX4_resistance_179 : decode cX4_resistance 179 = .ok (.iaload, 1) := by decide +kernel
theorem dX4_resistance_180 : decode cX4_resistance 180 = .ok (.ishr, 1) := by decide +kernel
theorem dX4_resistance_181 : decode cX4_resistance 181 = .ok (.iconst 1, 1) := by decide +kernel
theorem dX4_resistance_182 : decode cX4_resistance 182 = .ok (.iand, 1) := by decide +kernel
theorem dX4_resistance_183 : decode cX4_resistance 183 = .ok (.ifCond .ne 6, 3) := by decide +kernel
theorem dX4_resistance_186 : decode cX4_resistance 186 = .ok (.goto 53, 3) := by decide +kernel
theorem dX4_resistance_189 : decode cX4_resistance 189 = .ok (.aload_n 0, 1) := by decide +kernel
theorem dX4_resistance_190 : decode cX4_resistance 190 = .ok (.aload_n 0, 1) := by decide +kernel
theorem dX4_resistance_191 : decode cX4_resistance 191 = .ok (.getfield 20, 3) := by decide +kernel
theorem dX4_resistance_194 : decode cX4_resistance 194 = .ok (.iload 6, 2) := by decide +kernel
theorem dX4_resistance_196 : decode cX4_resistance 196 = .ok (.iaload, 1) := by decide +kernel
theorem dX4_resistance_197 : decode cX4_resistance 197 = .ok (.aload_n 0, 1) := by decide +kernel
theorem dX4_resistance_198 : decode cX4_resistance 198 = .ok (.getfield 23, 3) := by decide +kernel
theorem dX4_resistance_201 : decode cX4_resistance 201 = .ok (.iload 6, 2) := by decide +kernel
theorem dX4_resistance_203 : decode cX4_resistance 203 = .ok (.iaload, 1) := by decide +kernel
theorem dX4_resistance_204 : decode cX4_resistance 204 = .ok (.aload_n 0, 1) := by decide +kernel
theorem dX4_resistance_205 : decode cX4_resistance 205 = .ok (.getfield 26, 3) := by decide +kernel
theorem dX4_resistance_208 : decode cX4_resistance 208 = .ok (.iload 6, 2) := by decide +kernel
theorem dX4_resistance_210 : decode cX4_resistance 210 = .ok (.iaload, 1) := by decide +kernel
theorem dX4_resistance_211 : decode cX4_resistance 211 = .ok (.invokevirtual 126, 3) := by decide +kernel
theorem dX4_resistance_214 : decode cX4_resistance 214 = .ok (.aload_n 0, 1) := by decide +kernel
theorem dX4_resistance_215 : decode cX4_resistance 215 = .ok (.aload_n 0, 1) := by decide +kernel
theorem dX4_resistance_216 : decode cX4_resistance 216 = .ok (.getfield 23, 3) := by decide +kernel
theorem dX4_resistance_219 : decode cX4_resistance 219 = .ok (.iload 6, 2) := by decide +kernel
theorem dX4_resistance_221 : decode cX4_resistance 221 = .ok (.iaload, 1) := by decide +kernel
