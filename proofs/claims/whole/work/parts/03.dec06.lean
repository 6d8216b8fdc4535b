theorem dJ6_bitCount_0f7a4_34 : decode cJ6_bitCount_0f7a4 34 = .ok (.iload_n 0, 1) := by decide +kernel
theorem dJ6_bitCount_0f7a4_35 : decode cJ6_bitCount_0f7a4 35 = .ok (.iload_n 0, 1) := by decide +kernel
theorem dJ6_bitCount_0f7a4_36 : decode cJ6_bitCount_0f7a4 36 = .ok (.bipush 8, 2) := by decide +kernel
theorem dJ6_bitCount_0f7a4_38 : decode cJ6_bitCount_0f7a4 38 = .ok (.iushr, 1) := by decide +kernel
theorem dJ6_bitCount_0f7a4_39 : decode cJ6_bitCount_0f7a4 39 = .ok (.iadd, 1) := by decide +kernel
theorem dJ6_bitCount_0f7a4_40 : decode cJ6_bitCount_0f7a4 40 = .ok (.istore_n 0, 1) := by decide +kernel
theorem dJ6_bitCount_0f7a4_41 : decode cJ6_bitCount_0f7a4 41 = .ok (.iload_n 0, 1) := by decide +kernel
theorem dJ6_bitCount_0f7a4_42 : decode cJ6_bitCount_0f7a4 42 = .ok (.iload_n 0, 1) := by decide +kernel
theorem dJ6_bitCount_0f7a4_43 : decode cJ6_bitCount_0f7a4 43 = .ok (.bipush 16, 2) := by decide +kernel
theorem dJ6_bitCount_0f7a4_45 : decode cJ6_bitCount_0f7a4 45 = .ok (.iushr, 1) := by decide +kernel
theorem dJ6_bitCount_0f7a4_46 : decode cJ6_bitCount_0f7a4 46 = .ok (.iadd, 1) := by decide +kernel
theorem dJ6_bitCount_0f7a4_47 : decode cJ6_bitCount_0f7a4 47 = .ok (.istore_n 0, 1) := by decide +kernel
theorem dJ6_bitCount_0f7a4_48 : decode cJ6_bitCount_0f7a4 48 = .ok (.iload_n 0, 1) := by decide +kernel
theorem dJ6_bitCount_0f7a4_49 : decode cJ6_bitCount_0f7a4 49 = .ok (.bipush 63, 2) := by decide +kernel
theorem dJ6_bitCount_0f7a4_51 : decode cJ6_bitCount_0f7a4 51 = .ok (.iand, 1) := by decide +kernel
theorem dJ6_bitCount_0f7a4_52 : decode cJ6_bitCount_0f7a4 52 = .ok (.ireturn, 1) := by decide +kernel
theorem dJ13_compare_74951_0 : decode cJ13_compare_74951 0 = .ok (.lload_n 0, 1) := by decide +kernel
theorem dJ13_compare_74951_1 : decode cJ13_compare_74951 1 = .ok (.lload_n 2, 1) := by decide +kernel
theorem dJ13_compare_74951_2 : decode cJ13_compare_74951 2 = .ok (.lcmp, 1) := by decide +kernel
theorem dJ13_compare_74951_3 : decode cJ13_compare_74951 3 = .ok (.ifCond .ge 7, 3) := by decide +kernel
theorem dJ13_compare_74951_6 : decode cJ13_compare_74951 6 = .ok (.iconst (-1), 1) := by decide +kernel
theorem dJ13_compare_74951_7 : decode cJ13_compare_74951 7 = .ok (.goto 14, 3) := by decide +kernel
theorem dJ13_compare_74951_10 : decode cJ13_compare_74951 10 = .ok (.lload_n 0, 1) := by decide +kernel
theorem dJ13_compare_74951_11 : decode cJ13_compare_74951 11 = .ok (.lload_n 2, 1) := by decide +kernel
theorem dJ13_compare_74951_12 : decode cJ13_compare_74951 12 = .ok (.lcmp, 1) := by decide +kernel
theorem dJ13_compare_74951_13 : decode cJ13_compare_74951 13 = .ok (.ifCond .ne 7, 3) := by decide +kernel
theorem dJ13_compare_74951_16 : decode cJ13_compare_74951 16 = .ok (.iconst 0, 1) := by decide +kernel
theorem dJ13_compare_74951_17 : decode cJ13_compare_74951 17 = .ok (.goto 4, 3) := by decide +kernel
theorem dJ13_compare_74951_20 : decode cJ13_compare_74951 20 = .ok (.iconst 1, 1) := by decide +kernel
theorem dJ13_compare_74951_21 : decode cJ13_compare_74951 21 = .ok (.ireturn, 1) := by decide +kernel
theorem dJ9_floorDiv_f86c9_0 : decode cJ9_floorDiv_f86c9 0 = .ok (.lload_n 0, 1) := by decide +kernel
theorem dJ9_floorDiv_f86c9_1 : decode cJ9_floorDiv_f86c9 1 = .ok (.lload_n 2, 1) := by decide +kernel
theorem dJ9_floorDiv_f86c9_2 : decode cJ9_floorDiv_f86c9 2 = .ok (.ldiv, 1) := by decide +kernel
theorem dJ9_floorDiv_f86c9_3 : decode cJ9_floorDiv_f86c9 3 = .ok (.lstore 4, 2) := by decide +kernel
theorem dJ9_floorDiv_f86c9_5 : decode cJ9_floorDiv_f86c9 5 = .ok (.lload_n 0, 1) := by decide +kernel
theorem dJ9_floorDiv_f86c9_6 : decode cJ9_floorDiv_f86c9 6 = .ok (.lload_n 2, 1) := by decide +kernel
theorem dJ9_floorDiv_f86c9_7 : decode cJ9_floorDiv_f86c9 7 = .ok (.lxor, 1) := by decide +kernel
theorem dJ9_floorDiv_f86c9_8 : decode cJ9_floorDiv_f86c9 8 = .ok (.lconst 0, 1) := by decide +kernel
theorem dJ9_floorDiv_f86c9_9 : decode cJ9_floorDiv_f86c9 9 = .ok (.lcmp, 1) := by decide +kernel
theorem dJ9_floorDiv_f86c9_10 : decode cJ9_floorDiv_f86c9 10 = .ok (.ifCond .ge 17, 3) := by decide +kernel
theorem dJ9_floorDiv_f86c9_13 : decode cJ9_floorDiv_f86c9 13 = .ok (.lload 4, 2) := by decide +kernel
theorem dJ9_floorDiv_f86c9_15 : decode cJ9_floorDiv_f86c9 15 = .ok (.lload_n 2, 1) := by decide +kernel
theorem dJ9_floorDiv_f86c9_16 : decode cJ9_floorDiv_f86c9 16 = .ok (.lmul, 1) := by decide +kernel
theorem dJ9_floorDiv_f86c9_17 : decode cJ9_floorDiv_f86c9 17 = .ok (.lload_n 0, 1) := by decide +kernel
theorem dJ9_floorDiv_f86c9_18 : decode cJ9_floorDiv_f86c9 18 = .ok (.lcmp, 1) := by decide +kernel
theorem dJ9_floorDiv_f86c9_19 : decode cJ9_floorDiv_f86c9 19 = .ok (.ifCond .eq 8, 3) := by decide +kernel
theorem dJ9_floorDiv_f86c9_22 : decode cJ9_floorDiv_f86c9 22 = .ok (.lload 4, 2) := by decide +kernel
theorem dJ9_floorDiv_f86c9_24 : decode cJ9_floorDiv_f86c9 24 = .ok (.lconst 1, 1) := by decide +kernel
theorem dJ9_floorDiv_f86c9_25 : decode cJ9_floorDiv_f86c9 25 = .ok (.lsub, 1) := by decide +kernel
theorem dJ9_floorDiv_f86c9_26 : decode cJ9_floorDiv_f86c9 26 = .ok (.lreturn, 1) := by decide +kernel
theorem dJ9_floorDiv_f86c9_27 : decode cJ9_floorDiv_f86c9 27 = .ok (.lload 4, 2) := by decide +kernel
theorem dJ9_floorDiv_f86c9_29 : decode cJ9_floorDiv_f86c9 29 = .ok (.lreturn, 1) := by decide +kernel
theorem dJ9_floorMod_f86c9_0 : decode cJ9_floorMod_f86c9 0 = .ok (.lload_n 0, 1) := by decide +kernel
theorem dJ9_floorMod_f86c9_1 : decode cJ9_floorMod_f86c9 1 = .ok (.lload_n 2, 1) := by decide +kernel
theorem dJ9_floorMod_f86c9_2 : decode cJ9_floorMod_f86c9 2 = .ok (.lrem, 1) := by decide +kernel
theorem dJ9_floorMod_f86c9_3 : decode cJ9_floorMod_f86c9 3 = .ok (.lstore 4, 2) := by decide +kernel
theorem dJ9_floorMod_f86c9_5 : decode cJ9_floorMod_f86c9 5 = .ok (.lload_n 0, 1) := by decide +kernel
theorem dJ9_floorMod_f86c9_6 : decode cJ9_floorMod_f86c9 6 = .ok (.lload_n 2, 1) := by decide +kernel
theorem dJ9_floorMod_f86c9_7 : decode cJ9_floorMod_f86c9 7 = .ok (.lxor, 1) := by decide +kernel
theorem dJ9_floorMod_f86c9_8 : decode cJ9_floorMod_f86c9 8 = .ok (.lconst 0, 1) := by decide +kernel
theorem dJ9_floorMod_f86c9_9 : decode cJ9_floorMod_f86c9 9 = .ok (.lcmp, 1) := by decide +kernel
theorem dJ9_floorMod_f86c9_10 : decode cJ9_floorMod_f86c9 10 = .ok (.ifCond .ge 15, 3) := by decide +kernel
theorem dJ9_floorMod_f86c9_13 : decode cJ9_floorMod_f86c9 13 = .ok (.lload 4, 2) := by decide +kernel
theorem dJ9_floorMod_f86c9_15 : decode cJ9_floorMod_f86c9 15 = .ok (.lconst 0, 1) := by decide +kernel
theorem dJ9_floorMod_f86c9_16 : decode cJ9_floorMod_f86c9 16 = .ok (.lcmp, 1) := by decide +kernel
theorem dJ9_floorMod_f86c9_17 : decode cJ9_floorMod_f86c9 17 = .ok (.ifCond .eq 8, 3) := by decide +kernel
theorem dJ9_floorMod_f86c9_20 : decode cJ9_floorMod_f86c9 20 = .ok (.lload 4, 2) := by decide +kernel
theorem dJ9_floorMod_f86c9_22 : decode cJ9_floorMod_f86c9 22 = .ok (.lload_n 2, 1) := by decide +kernel
theorem dJ9_floorMod_f86c9_23 : decode cJ9_floorMod_f86c9 23 = .ok (.ladd, 1) := by decide +kernel
theorem dJ9_floorMod_f86c9_24 : decode cJ9_floorMod_f86c9 24 = .ok (.lreturn, 1) := by decide +kernel
theorem dJ9_floorMod_f86c9_25 : decode cJ9_floorMod_f86c9 25 = .ok (.lload 4, 2) := by decide +kernel
theorem dJ9_floorMod_f86c9_27 : decode cJ9_floorMod_f86c9 27 = .ok (.lreturn, 1) := by decide +kernel
theorem dJ9_abs_067f4_0 : decode cJ9_abs_067f4 0 = .ok (.lload_n 0, 1) := by decide +kernel
theorem dJ9_abs_067f4_1 : decode cJ9_abs_067f4 1 = .ok (.lconst 0, 1) := by decide +kernel
theorem dJ9_abs_067f4_2 : decode cJ9_abs_067f4 2 = .ok (.lcmp, 1) := by decide +kernel
theorem dJ9_abs_067f4_3 : decode cJ9_abs_067f4 3 = .ok (.ifCond .ge 8, 3) := by decide +kernel
theorem dJ9_abs_067f4_6 : decode cJ9_abs_067f4 6 = .ok (.lload_n 0, 1) := by decide +kernel
theorem dJ9_abs_067f4_7 : decode cJ9_abs_067f4 7 = .ok (.lneg, 1) := by decide +kernel
theorem dJ9_abs_067f4_8 : decode cJ9_abs_067f4 8 = .ok (.goto 4, 3) := by decide +kernel
theorem dJ9_abs_067f4_11 : decode cJ9_abs_067f4 11 = .ok (.lload_n 0, 1) := by decide +kernel
theorem dJ9_abs_067f4_12 : decode cJ9_abs_067f4 12 = .ok (.lreturn, 1) := by decide +kernel
theorem dJ9_max_7cf53_0 : decode cJ9_max_7cf53 0 = .ok (.iload_n 0, 1) := by decide +kernel
theorem dJ9_max_7cf53_1 : decode cJ9_max_7cf53 1 = .ok (.iload_n 1, 1) := by decide +kernel
theorem dJ9_max_7cf53_2 : decode cJ9_max_7cf53 2 = .ok (.if_icmp .lt 7, 3) := by decide +kernel
theorem dJ9_max_7cf53_5 : decode cJ9_max_7cf53 5 = .ok (.iload_n 0, 1) := by decide +kernel
theorem dJ9_max_7cf53_6 : decode cJ9_max_7cf53 6 = .ok (.goto 4, 3) := by decide +kernel
theorem dJ9_max_7cf53_9 : decode cJ9_max_7cf53 9 = .ok (.iload_n 1, 1) := by decide +kernel
theorem dJ9_max_7cf53_10 : decode cJ9_max_7cf53 10 = .ok (.ireturn, 1) := by decide +kernel
theorem dJ9_min_7cf53_0 : decode cJ9_min_7cf53 0 = .ok (.iload_n 0, 1) := by decide +kernel
theorem dJ9_min_7cf53_1 : decode cJ9_min_7cf53 1 = .ok (.iload_n 1, 1) := by decide +kernel
theorem dJ9_min_7cf53_2 : decode cJ9_min_7cf53 2 = .ok (.if_icmp .gt 7, 3) := by decide +kernel
theorem dJ9_min_7cf53_5 : decode cJ9_min_7cf53 5 = .ok (.iload_n 0, 1) := by decide +kernel
theorem dJ9_min_7cf53_6 : decode cJ9_min_7cf53 6 = .ok (.goto 4, 3) := by decide +kernel
theorem dJ9_min_7cf53_9 : decode cJ9_min_7cf53 9 = .ok (.iload_n 1, 1) := by decide +kernel
theorem dJ9_min_7cf53_10 : decode cJ9_min_7cf53 10 = .ok (.ireturn, 1) := by decide +kernel
theorem dJxa1e45_init_da8c8_0 : decode cJxa1e45_init_da8c8 0 = .ok (.aload_n 0, 1) := by decide +kernel
theorem dJxa1e45_init_da8c8_1 : decode cJxa1e45_init_da8c8 1 = .ok (.invokespecial 1, 3) := by decide +kernel
theorem dJxa1e45_init_da8c8_4 : decode cJxa1e45_init_da8c8 4 = .ok (.return_, 1) := by decide +kernel
set_option maxRecDepth 20000 in
theorem ggJxc12de_init_da8c8_Jxa1e45_init_da8c8 : GoodIn wsJxc12de_init_da8c8 wsJxa1e45_init_da8c8 := goodIn_r _ [5, 6, 7, 8] (by decide +kernel) (by decide +kernel)
set_option maxRecDepth 20000 in
theorem gJxc12de_init_da8c8_Jxa1e45_init_da8c8 : GoodIn wsJxc12de_init_da8c8 (wsJxa1e45_init_da8c8) := ggJxc12de_init_da8c8_Jxa1e45_init_da8c8
theorem dJxc12de_init_da8c8_0 : decode cJxc12de_init_da8c8 0 = .ok (.aload_n 0, 1) := by decide +kernel
theorem dJxc12de_init_da8c8_1 : decode cJxc12de_init_da8c8 1 = .ok (.invokespecial 1, 3) := by decide +kernel
theorem dJxc12de_init_da8c8_4 : decode cJxc12de_init_da8c8 4 = .ok (.aload_n 0, 1) := by decide +kernel
theorem dJxc12de_init_da8c8_5 : decode cJxc12de_init_da8c8 5 = .ok (.iconst 0, 1) := by decide +kernel
theorem dJxc12de_init_da8c8_6 : decode cJxc12de_init_da8c8 6 = .ok (.putfield 7, 3) := by decide +kernel
theorem dJxc12de_init_da8c8_9 : decode cJxc12de_init_da8c8 9 = .ok (.return_, 1) := by decide +kernel
set_option maxRecDepth 20000 in
theorem ggJx4a65c_init_da8c8_Jxc12de_init_da8c8 : GoodIn wsJx4a65c_init_da8c8 wsJxc12de_init_da8c8 := goodIn_r _ [6, 7, 8, 9, 10, 11, 12, 13, 14, 15, 16, 17] (by decide +kernel) (by decide +kernel)
set_option maxRecDepth 20000 in
theorem gJx4a65c_init_da8c8_Jxc12de_init_da8c8 : GoodIn wsJx4a65c_init_da8c8 (wsJxc12de_init_da8c8) := ggJx4a65c_init_da8c8_Jxc12de_init_da8c8
theorem dJx4a65c_init_da8c8_0 : decode cJx4a65c_init_da8c8 0 = .ok (.aload_n 0, 1) := by decide +kernel
theorem dJx4a65c_init_da8c8_1 : decode cJx4a65c_init_da8c8 1 = .ok (.invokespecial 1, 3) := by decide +kernel
theorem dJx4a65c_init_da8c8_4 : decode cJx4a65c_init_da8c8 4 = .ok (.aload_n 0, 1) := by decide +kernel
theorem dJx4a65c_init_da8c8_5 : decode cJx4a65c_init_da8c8 5 = .ok (.getstatic 39, 3) := by decide +kernel
theorem dJx4a65c_init_da8c8_8 : decode cJx4a65c_init_da8c8 8 = .ok (.putfield 9, 3) := by decide +kernel
theorem dJx4a65c_init_da8c8_11 : decode cJx4a65c_init_da8c8 11 = .ok (.return_, 1) := by decide +kernel
set_option maxRecDepth 20000 in
theorem ggJx4a65c_grow_92f84_J8_newLength_cabcc : GoodIn wsJx4a65c_grow_92f84 wsJ8_newLength_cabcc := goodIn_r _ [11, 12, 4, 5, 6, 13, 14, 15, 10, 16] (by decide +kernel) (by decide +kernel)
set_option maxRecDepth 20000 in
theorem gJx4a65c_grow_92f84_J8_newLength_cabcc : GoodIn wsJx4a65c_grow_92f84 (va_wsS RJx4a65c 73 yJ8_newLength_cabcc wsJ8_newLength_cabcc) := goodIn_app (goodIn_of _ (by decide +kernel)) ggJx4a65c_grow_92f84_J8_newLength_cabcc
set_option maxRecDepth 20000 in
theorem ggJx4a65c_grow_92f84_J7_copyOf_1904c : GoodIn wsJx4a65c_grow_92f84 wsJ7_copyOf_1904c := goodIn_r _ [20, 21, 22, 23, 24, 25, 26, 19, 27, 28, 29, 30, 31, 5, 32, 33, 34, 35, 36] (by decide +kernel) (by decide +kernel)
set_option maxRecDepth 20000 in
theorem gJx4a65c_grow_92f84_J7_copyOf_1904c : GoodIn wsJx4a65c_grow_92f84 (va_wsS RJx4a65c 66 yJ7_copyOf_1904c wsJ7_copyOf_1904c) := goodIn_app (goodIn_of _ (by decide +kernel)) ggJx4a65c_grow_92f84_J7_copyOf_1904c
theorem dJx4a65c_grow_92f84_0 : decode cJx4a65c_grow_92f84 0 = .ok (.aload_n 0, 1) := by decide +kernel
theorem dJx4a65c_grow_92f84_1 : decode cJx4a65c_grow_92f84 1 = .ok (.getfield 9, 3) := by decide +kernel
theorem dJx4a65c_grow_92f84_4 : decode cJx4a65c_grow_92f84 4 = .ok (.arraylength, 1) := by decide +kernel
theorem dJx4a65c_grow_92f84_5 : decode cJx4a65c_grow_92f84 5 = .ok (.istore_n 2, 1) := by decide +kernel
theorem dJx4a65c_grow_92f84_6 : decode cJx4a65c_grow_92f84 6 = .ok (.iload_n 2, 1) := by decide +kernel
theorem dJx4a65c_grow_92f84_7 : decode cJx4a65c_grow_92f84 7 = .ok (.ifCond .gt 13, 3) := by decide +kernel
theorem dJx4a65c_grow_92f84_10 : decode cJx4a65c_grow_92f84 10 = .ok (.aload_n 0, 1) := by decide +kernel
theorem dJx4a65c_grow_92f84_11 : decode cJx4a65c_grow_92f84 11 = .ok (.getfield 9, 3) := by decide +kernel
theorem dJx4a65c_grow_92f84_14 : decode cJx4a65c_grow_92f84 14 = .ok (.getstatic 39, 3) := by decide +kernel
theorem dJx4a65c_grow_92f84_17 : decode cJx4a65c_grow_92f84 17 = .ok (.if_acmp .eq 28, 3) := by decide +kernel
theorem dJx4a65c_grow_92f84_20 : decode cJx4a65c_grow_92f84 20 = .ok (.iload_n 2, 1) := by decide +kernel
theorem dJx4a65c_grow_92f84_21 : decode cJx4a65c_grow_92f84 21 = .ok (.iload_n 1, 1) := by decide +kernel
theorem dJx4a65c_grow_92f84_22 : decode cJx4a65c_grow_92f84 22 = .ok (.iload_n 2, 1) := by decide +kernel
theorem dJx4a65c_grow_92f84_23 : decode cJx4a65c_grow_92f84 23 = .ok (.isub, 1) := by decide +kernel
theorem dJx4a65c_grow_92f84_24 : decode cJx4a65c_grow_92f84 24 = .ok (.iload_n 2, 1) := by decide +kernel
theorem dJx4a65c_grow_92f84_25 : decode cJx4a65c_grow_92f84 25 = .ok (.iconst 1, 1) := by decide +kernel
theorem dJx4a65c_grow_92f84_26 : decode cJx4a65c_grow_92f84 26 = .ok (.ishr, 1) := by decide +kernel
theorem dJx4a65c_grow_92f84_27 : decode cJx4a65c_grow_92f84 27 = .ok (.invokestatic 73, 3) := by decide +kernel
theorem dJx4a65c_grow_92f84_30 : decode cJx4a65c_grow_92f84 30 = .ok (.istore_n 3, 1) := by decide +kernel
theorem dJx4a65c_grow_92f84_31 : decode cJx4a65c_grow_92f84 31 = .ok (.aload_n 0, 1) := by decide +kernel
theorem dJx4a65c_grow_92f84_32 : decode cJx4a65c_grow_92f84 32 = .ok (.aload_n 0, 1) := by decide +kernel
theorem dJx4a65c_grow_92f84_33 : decode cJx4a65c_grow_92f84 33 = .ok (.getfield 9, 3) := by decide +kernel
theorem dJx4a65c_grow_92f84_36 : decode cJx4a65c_grow_92f84 36 = .ok (.iload_n 3, 1) := by decide +kernel
theorem dJx4a65c_grow_92f84_37 : decode cJx4a65c_grow_92f84 37 = .ok (.invokestatic 66, 3) := by decide +kernel
theorem dJx4a65c_grow_92f84_40 : decode cJx4a65c_grow_92f84 40 = .ok (.dup_x1, 1) := by decide +kernel
theorem dJx4a65c_grow_92f84_41 : decode cJx4a65c_grow_92f84 41 = .ok (.putfield 9, 3) := by decide +kernel
theorem dJx4a65c_grow_92f84_44 : decode cJx4a65c_grow_92f84 44 = .ok (.areturn, 1) := by decide +kernel
theorem dJx4a65c_grow_92f84_45 : decode cJx4a65c_grow_92f84 45 = .ok (.aload_n 0, 1) := by decide +kernel
theorem dJx4a65c_grow_92f84_46 : decode cJx4a65c_grow_92f84 46 = .ok (.bipush 10, 2) := by decide +kernel
theorem dJx4a65c_grow_92f84_48 : decode cJx4a65c_grow_92f84 48 = .ok (.iload_n 1, 1) := by decide +kernel
theorem dJx4a65c_grow_92f84_49 : decode cJx4a65c_grow_92f84 49 = .ok (.invokestatic 79, 3) := by decide +kernel
theorem dJx4a65c_grow_92f84_52 : decode cJx4a65c_grow_92f84 52 = .ok (.anewarray 7, 3) := by decide +kernel
theorem dJx4a65c_grow_92f84_55 : decode cJx4a65c_grow_92f84 55 = .ok (.dup_x1, 1) := by decide +kernel
theorem dJx4a65c_grow_92f84_56 : decode cJx4a65c_grow_92f84 56 = .ok (.putfield 9, 3) := by decide +kernel
theorem dJx4a65c_grow_92f84_59 : decode cJx4a65c_grow_92f84 59 = .ok (.areturn, 1) := by decide +kernel
set_option maxRecDepth 20000 in
theorem ggJx4a65c_grow_d5877_Jx4a65c_grow_92f84 : GoodIn wsJx4a65c_grow_d5877 wsJx4a65c_grow_92f84 := goodIn_r _ [6, 7, 8, 9, 10, 11, 12, 13, 14, 15, 16, 17, 18, 19, 20, 21, 22, 23, 24, 25, 26, 27, 28, 29, 30, 31, 32, 33, 34, 35, 36, 37, 38, 39, 40, 41, 42, 43, 44, 45] (by decide +kernel) (by decide +kernel)
set_option maxRecDepth 20000 in
theorem gJx4a65c_grow_d5877_Jx4a65c_grow_92f84 : GoodIn wsJx4a65c_grow_d5877 (wsV RJx4a65c 69 RJx4a65c yJx4a65c_grow_92f84 wsJx4a65c_grow_92f84) := goodIn_app (goodIn_of _ (by decide +kernel)) ggJx4a65c_grow_d5877_Jx4a65c_grow_92f84
theorem dJx4a65c_grow_d5877_0 : decode cJx4a65c_grow_d5877 0 = .ok (.aload_n 0, 1) := by decide +kernel
theorem dJx4a65c_grow_d5877_1 : decode cJx4a65c_grow_d5877 1 = .ok (.aload_n 0, 1) := by decide +kernel
theorem dJx4a65c_grow_d5877_2 : decode cJx4a65c_grow_d5877 2 = .ok (.getfield 48, 3) := by decide +kernel
theorem dJx4a65c_grow_d5877_5 : decode cJx4a65c_grow_d5877 5 = .ok (.iconst 1, 1) := by decide +kernel
theorem dJx4a65c_grow_d5877_6 : decode cJx4a65c_grow_d5877 6 = .ok (.iadd, 1) := by decide +kernel
theorem dJx4a65c_grow_d5877_7 : decode cJx4a65c_grow_d5877 7 = .ok (.invokevirtual 69, 3) := by decide +kernel
theorem dJx4a65c_grow_d5877_10 : decode cJx4a65c_grow_d5877 10 = .ok (.areturn, 1) := by decide +kernel
theorem dJx4a65c_size_8abf5_0 : decode cJx4a65c_size_8abf5 0 = .ok (.aload_n 0, 1) := by decide +kernel
theorem dJx4a65c_size_8abf5_1 : decode cJx4a65c_size_8abf5 1 = .ok (.getfield 48, 3) := by decide +kernel
theorem dJx4a65c_size_8abf5_4 : decode cJx4a65c_size_8abf5 4 = .ok (.ireturn, 1) := by decide +kernel
theorem dJx4a65c_elementData_915e3_0 : decode cJx4a65c_elementData_915e3 0 = .ok (.aload_n 0, 1) := by decide +kernel
theorem dJx4a65c_elementData_915e3_1 : decode cJx4a65c_elementData_915e3 1 = .ok (.getfield 9, 3) := by decide +kernel
theorem dJx4a65c_elementData_915e3_4 : decode cJx4a65c_elementData_915e3 4 = .ok (.iload_n 1, 1) := by decide +kernel
theorem dJx4a65c_elementData_915e3_5 : decode cJx4a65c_elementData_915e3 5 = .ok (.aaload, 1) := by decide +kernel
theorem dJx4a65c_elementData_915e3_6 : decode cJx4a65c_elementData_915e3 6 = .ok (.areturn, 1) := by decide +kernel
set_option maxRecDepth 20000 in
theorem ggJx4a65c_get_915e3_J15_checkIndex_7cf53 : GoodIn wsJx4a65c_get_915e3 wsJ15_checkIndex_7cf53 := goodIn_r _ [5, 6, 7, 8, 9] (by decide +kernel) (by decide +kernel)
set_option maxRecDepth 20000 in
theorem gJx4a65c_get_915e3_J15_checkIndex_7cf53 : GoodIn wsJx4a65c_get_915e3 (va_wsS RJx4a65c 118 yJ15_checkIndex_7cf53 wsJ15_checkIndex_7cf53) := goodIn_app (goodIn_of _ (by decide +kernel)) ggJx4a65c_get_915e3_J15_checkIndex_7cf53
set_option maxRecDepth 20000 in
theorem ggJx4a65c_get_915e3_Jx4a65c_elementData_915e3 : GoodIn wsJx4a65c_get_915e3 wsJx4a65c_elementData_915e3 := goodIn_r _ [14, 15, 16, 17, 18] (by decide +kernel) (by decide +kernel)
set_option maxRecDepth 20000 in
theorem gJx4a65c_get_915e3_Jx4a65c_elementData_915e3 : GoodIn wsJx4a65c_get_915e3 (wsV RJx4a65c 123 RJx4a65c yJx4a65c_elementData_915e3 wsJx4a65c_elementData_915e3) := goodIn_app (goodIn_of _ (by decide +kernel)) ggJx4a65c_get_915e3_Jx4a65c_elementData_915e3
theorem dJx4a65c_get_915e3_0 : decode cJx4a65c_get_915e3 0 = .ok (.iload_n 1, 1) := by decide +kernel
theorem dJx4a65c_get_915e3_1 : decode cJx4a65c_get_915e3 1 = .ok (.aload_n 0, 1) := by decide +kernel
theorem dJx4a65c_get_915e3_2 : decode cJx4a65c_get_915e3 2 = .ok (.getfield 48, 3) := by decide +kernel
theorem dJx4a65c_get_915e3_5 : decode cJx4a65c_get_915e3 5 = .ok (.invokestatic 118, 3) := by decide +kernel
theorem dJx4a65c_get_915e3_8 : decode cJx4a65c_get_915e3 8 = .ok (.pop, 1) := by decide +kernel
theorem dJx4a65c_get_915e3_9 : decode cJx4a65c_get_915e3 9 = .ok (.aload_n 0, 1) := by decide +kernel
theorem dJx4a65c_get_915e3_10 : decode cJx4a65c_get_915e3 10 = .ok (.iload_n 1, 1) := by decide +kernel
theorem dJx4a65c_get_915e3_11 : decode cJx4a65c_get_915e3 11 = .ok (.invokevirtual 123, 3) := by decide +kernel
theorem dJx4a65c_get_915e3_14 : decode cJx4a65c_get_915e3 14 = .ok (.areturn, 1) := by decide +kernel
set_option maxRecDepth 20000 in
theorem ggJx4a65c_add_72be8_Jx4a65c_grow_d5877 : GoodIn wsJx4a65c_add_72be8 wsJx4a65c_grow_d5877 := goodIn_r _ [6, 1, 7, 8, 9, 5, 10, 11, 12, 13, 14, 15, 16, 17, 18, 19, 20, 21, 22, 23, 24, 25, 26, 27, 28, 29, 30, 31, 32, 33, 34, 35, 36, 37, 38, 39, 40, 41, 42, 43, 44, 45, 46, 47, 48, 49] (by decide +kernel) (by decide +kernel)
set_option maxRecDepth 20000 in
theorem gJx4a65c_add_72be8_Jx4a65c_grow_d5877 : GoodIn wsJx4a65c_add_72be8 (wsV RJx4a65c 129 RJx4a65c yJx4a65c_grow_d5877 wsJx4a65c_grow_d5877) := goodIn_app (goodIn_of _ (by decide +kernel)) ggJx4a65c_add_72be8_Jx4a65c_grow_d5877
theorem dJx4a65c_add_72be8_0 : decode cJx4a65c_add_72be8 0 = .ok (.iload_n 3, 1) := by decide +kernel
theorem dJx4a65c_add_72be8_1 : decode cJx4a65c_add_72be8 1 = .ok (.aload_n 2, 1) := by decide +kernel
theorem dJx4a65c_add_72be8_2 : decode cJx4a65c_add_72be8 2 = .ok (.arraylength, 1) := by decide +kernel
theorem dJx4a65c_add_72be8_3 : decode cJx4a65c_add_72be8 3 = .ok (.if_icmp .ne 8, 3) := by decide +kernel
theorem dJx4a65c_add_72be8_6 : decode cJx4a65c_add_72be8 6 = .ok (.aload_n 0, 1) := by decide +kernel
theorem dJx4a65c_add_72be8_7 : decode cJx4a65c_add_72be8 7 = .ok (.invokevirtual 129, 3) := by decide +kernel
theorem dJx4a65c_add_72be8_10 : decode cJx4a65c_add_72be8 10 = .ok (.astore_n 2, 1) := by decide +kernel
theorem dJx4a65c_add_72be8_11 : decode cJx4a65c_add_72be8 11 = .ok (.aload_n 2, 1) := by decide +kernel
theorem dJx4a65c_add_72be8_12 : decode cJx4a65c_add_72be8 12 = .ok (.iload_n 3, 1) := by decide +kernel
theorem dJx4a65c_add_72be8_13 : decode cJx4a65c_add_72be8 13 = .ok (.aload_n 1, 1) := by decide +kernel
theorem dJx4a65c_add_72be8_14 : decode cJx4a65c_add_72be8 14 = .ok (.aastore, 1) := by decide +kernel
theorem dJx4a65c_add_72be8_15 : decode cJx4a65c_add_72be8 15 = .ok (.aload_n 0, 1) := by decide +kernel
theorem dJx4a65c_add_72be8_16 : decode cJx4a65c_add_72be8 16 = .ok (.iload_n 3, 1) := by decide +kernel
theorem dJx4a65c_add_72be8_17 : decode cJx4a65c_add_72be8 17 = .ok (.iconst 1, 1) := by decide +kernel
theorem dJx4a65c_add_72be8_18 : decode cJx4a65c_add_72be8 18 = .ok (.iadd, 1) := by decide +kernel
theorem dJx4a65c_add_72be8_19 : decode cJx4a65c_add_72be8 19 = .ok (.putfield 48, 3) := by decide +kernel
theorem dJx4a65c_add_72be8_22 : decode cJx4a65c_add_72be8 22 = .ok (.return_, 1) := by decide +kernel
set_option maxRecDepth 20000 in
theorem ggJx4a65c_add_9ea2d_Jx4a65c_add_72be8 : GoodIn wsJx4a65c_add_9ea2d wsJx4a65c_add_72be8 := goodIn_r _ [9, 4, 10, 11, 12, 8, 13, 14, 15, 16, 17, 3, 18, 19, 20, 21, 22, 23, 24, 25, 26, 27, 28, 29, 30, 31, 32, 33, 34, 35, 36, 37, 38, 39, 40, 41, 42, 43, 44, 45, 46, 47, 48, 49, 50, 51, 52, 53, 54, 55] (by decide +kernel) (by decide +kernel)
set_option maxRecDepth 20000 in
theorem gJx4a65c_add_9ea2d_Jx4a65c_add_72be8 : GoodIn wsJx4a65c_add_9ea2d (wsV RJx4a65c 131 RJx4a65c yJx4a65c_add_72be8 wsJx4a65c_add_72be8) := goodIn_app (goodIn_of _ (by decide +kernel)) ggJx4a65c_add_9ea2d_Jx4a65c_add_72be8
theorem dJx4a65c_add_9ea2d_0 : decode cJx4a65c_add_9ea2d 0 = .ok (.aload_n 0, 1) := by decide +kernel
theorem dJx4a65c_add_9ea2d_1 : decode cJx4a65c_add_9ea2d 1 = .ok (.dup, 1) := by decide +kernel
theorem dJx4a65c_add_9ea2d_2 : decode cJx4a65c_add_9ea2d 2 = .ok (.getfield 63, 3) := by decide +kernel
theorem dJx4a65c_add_9ea2d_5 : decode cJx4a65c_add_9ea2d 5 = .ok (.iconst 1, 1) := by decide +kernel
theorem dJx4a65c_add_9ea2d_6 : decode cJx4a65c_add_9ea2d 6 = .ok (.iadd, 1) := by decide +kernel
theorem dJx4a65c_add_9ea2d_7 : decode cJx4a65c_add_9ea2d 7 = .ok (.putfield 63, 3) := by decide +kernel
theorem dJx4a65c_add_9ea2d_10 : decode cJx4a65c_add_9ea2d 10 = .ok (.aload_n 0, 1) := by decide +kernel
theorem dJx4a65c_add_9ea2d_11 : decode cJx4a65c_add_9ea2d 11 = .ok (.aload_n 1, 1) := by decide +kernel
theorem dJx4a65c_add_9ea2d_12 : decode cJx4a65c_add_9ea2d 12 = .ok (.aload_n 0, 1) := by decide +kernel
theorem dJx4a65c_add_9ea2d_13 : decode cJx4a65c_add_9ea2d 13 = .ok (.getfield 9, 3) := by decide +kernel
theorem dJx4a65c_add_9ea2d_16 : decode cJx4a65c_add_9ea2d 16 = .ok (.aload_n 0, 1) := by decide +kernel
theorem dJx4a65c_add_9ea2d_17 : decode cJx4a65c_add_9ea2d 17 = .ok (.getfield 48, 3) := by decide +kernel
theorem dJx4a65c_add_9ea2d_20 : decode cJx4a65c_add_9ea2d 20 = .ok (.invokevirtual 131, 3) := by decide +kernel
theorem dJx4a65c_add_9ea2d_23 : decode cJx4a65c_add_9ea2d 23 = .ok (.iconst 1, 1) := by decide +kernel
theorem dJx4a65c_add_9ea2d_24 : decode cJx4a65c_add_9ea2d 24 = .ok (.ireturn, 1) := by decide +kernel
set_option maxRecDepth 20000 in
theorem ggJ7_copyOf_1904c_J7_copyOf_6403c : GoodIn wsJ7_copyOf_1904c wsJ7_copyOf_6403c := goodIn_r _ [8, 9, 10, 11, 12, 13, 14, 15, 16, 17, 18] (by decide +kernel) (by decide +kernel)
set_option maxRecDepth 20000 in
theorem gJ7_copyOf_1904c_J7_copyOf_6403c : GoodIn wsJ7_copyOf_1904c (va_wsS RJ7 300 yJ7_copyOf_6403c wsJ7_copyOf_6403c) := goodIn_app (goodIn_of _ (by decide +kernel)) ggJ7_copyOf_1904c_J7_copyOf_6403c
theorem dJ7_copyOf_1904c_0 : decode cJ7_copyOf_1904c 0 = .ok (.aload_n 0, 1) := by decide +kernel
theorem dJ7_copyOf_1904c_1 : decode cJ7_copyOf_1904c 1 = .ok (.iload_n 1, 1) := by decide +kernel
theorem dJ7_copyOf_1904c_2 : decode cJ7_copyOf_1904c 2 = .ok (.aload_n 0, 1) := by decide +kernel
theorem dJ7_copyOf_1904c_3 : decode cJ7_copyOf_1904c 3 = .ok (.invokevirtual 86, 3) := by decide +kernel
theorem dJ7_copyOf_1904c_6 : decode cJ7_copyOf_1904c 6 = .ok (.invokestatic 300, 3) := by decide +kernel
theorem dJ7_copyOf_1904c_9 : decode cJ7_copyOf_1904c 9 = .ok (.areturn, 1) := by decide +kernel
theorem dJ7_copyOf_6403c_0 : decode cJ7_copyOf_6403c 0 = .ok (.aload_n 2, 1) := by decide +kernel
theorem dJ7_copyOf_6403c_1 : decode cJ7_copyOf_6403c 1 = .ok (.ldc 110, 2) := by decide +kernel
theorem dJ7_copyOf_6403c_3 : decode cJ7_copyOf_6403c 3 = .ok (.if_acmp .ne 10, 3) := by decide +kernel
theorem dJ7_copyOf_6403c_6 : decode cJ7_copyOf_6403c 6 = .ok (.iload_n 1, 1) := by decide +kernel
theorem dJ7_copyOf_6403c_7 : decode cJ7_copyOf_6403c 7 = .ok (.anewarray 2, 3) := by decide +kernel
theorem dJ7_copyOf_6403c_10 : decode cJ7_copyOf_6403c 10 = .ok (.goto 14, 3) := by decide +kernel
theorem dJ7_copyOf_6403c_13 : decode cJ7_copyOf_6403c 13 = .ok (.aload_n 2, 1) := by decide +kernel
theorem dJ7_copyOf_6403c_14 : decode cJ7_copyOf_6403c 14 = .ok (.invokevirtual 90, 3) := by decide +kernel
theorem dJ7_copyOf_6403c_17 : decode cJ7_copyOf_6403c 17 = .ok (.iload_n 1, 1) := by decide +kernel
theorem dJ7_copyOf_6403c_18 : decode cJ7_copyOf_6403c 18 = .ok (.invokestatic 95, 3) := by decide +kernel
theorem dJ7_copyOf_6403c_21 : decode cJ7_copyOf_6403c 21 = .ok (.checkcast 110, 3) := by decide +kernel
theorem dJ7_copyOf_6403c_24 : decode cJ7_copyOf_6403c 24 = .ok (.astore_n 3, 1) := by decide +kernel
theorem dJ7_copyOf_6403c_25 : decode cJ7_copyOf_6403c 25 = .ok (.aload_n 0, 1) := by decide +kernel
theorem dJ7_copyOf_6403c_26 : decode cJ7_copyOf_6403c 26 = .ok (.iconst 0, 1) := by decide +kernel
theorem dJ7_copyOf_6403c_27 : decode cJ7_copyOf_6403c 27 = .ok (.aload_n 3, 1) := by decide +kernel
theorem dJ7_copyOf_6403c_28 : decode cJ7_copyOf_6403c 28 = .ok (.iconst 0, 1) := by decide +kernel
theorem dJ7_copyOf_6403c_29 : decode cJ7_copyOf_6403c 29 = .ok (.aload_n 0, 1) := by decide +kernel
theorem dJ7_copyOf_6403c_30 : decode cJ7_copyOf_6403c 30 = .ok (.arraylength, 1) := by decide +kernel
theorem dJ7_copyOf_6403c_31 : decode cJ7_copyOf_6403c 31 = .ok (.iload_n 1, 1) := by decide +kernel
theorem dJ7_copyOf_6403c_32 : decode cJ7_copyOf_6403c 32 = .ok (.invokestatic 304, 3) := by decide +kernel
theorem dJ7_copyOf_6403c_35 : decode cJ7_copyOf_6403c 35 = .ok (.invokestatic 150, 3) := by decide +kernel
theorem dJ7_copyOf_6403c_38 : decode cJ7_copyOf_6403c 38 = .ok (.aload_n 3, 1) := by decide +kernel
theorem dJ7_copyOf_6403c_39 : decode cJ7_copyOf_6403c 39 = .ok (.areturn, 1) := by decide +kernel
set_option maxRecDepth 20000 in
theorem ggJ15_checkIndex_7cf53_J3_checkIndex_8e157 : GoodIn wsJ15_checkIndex_7cf53 wsJ3_checkIndex_8e157 := goodIn_r _ [4] (by decide +kernel) (by decide +kernel)
set_option maxRecDepth 20000 in
theorem gJ15_checkIndex_7cf53_J3_checkIndex_8e157 : GoodIn wsJ15_checkIndex_7cf53 (va_wsS RJ15 105 yJ3_checkIndex_8e157 wsJ3_checkIndex_8e157) := goodIn_app (goodIn_of _ (by decide +kernel)) ggJ15_checkIndex_7cf53_J3_checkIndex_8e157
theorem dJ15_checkIndex_7cf53_0 : decode cJ15_checkIndex_7cf53 0 = .ok (.iload_n 0, 1) := by decide +kernel
theorem dJ15_checkIndex_7cf53_1 : decode cJ15_checkIndex_7cf53 1 = .ok (.iload_n 1, 1) := by decide +kernel
theorem dJ15_checkIndex_7cf53_2 : decode cJ15_checkIndex_7cf53 2 = .ok (.aconst_null, 1) := by decide +kernel
theorem dJ15_checkIndex_7cf53_3 : decode cJ15_checkIndex_7cf53 3 = .ok (.invokestatic 105, 3) := by decide +kernel
theorem dJ15_checkIndex_7cf53_6 : decode cJ15_checkIndex_7cf53 6 = .ok (.ireturn, 1) := by decide +kernel
set_option maxRecDepth 20000 in
theorem ggJ8_newLength_cabcc_J8_hugeLength_7cf53 : GoodIn wsJ8_newLength_cabcc wsJ8_hugeLength_7cf53 := goodIn_r _ [9, 5] (by decide +kernel) (by decide +kernel)
set_option maxRecDepth 20000 in
theorem gJ8_newLength_cabcc_J8_hugeLength_7cf53 : GoodIn wsJ8_newLength_cabcc (va_wsS RJ8 201 yJ8_hugeLength_7cf53 wsJ8_hugeLength_7cf53) := goodIn_app (goodIn_of _ (by decide +kernel)) ggJ8_newLength_cabcc_J8_hugeLength_7cf53
theorem dJ8_newLength_cabcc_0 : decode cJ8_newLength_cabcc 0 = .ok (.iload_n 0, 1) := by decide +kernel
theorem dJ8_newLength_cabcc_1 : decode cJ8_newLength_cabcc 1 = .ok (.iload_n 1, 1) := by decide +kernel
theorem dJ8_newLength_cabcc_2 : decode cJ8_newLength_cabcc 2 = .ok (.iload_n 2, 1) := by decide +kernel
theorem dJ8_newLength_cabcc_3 : decode cJ8_newLength_cabcc 3 = .ok (.invokestatic 194, 3) := by decide +kernel
theorem dJ8_newLength_cabcc_6 : decode cJ8_newLength_cabcc 6 = .ok (.iadd, 1) := by decide +kernel
theorem dJ8_newLength_cabcc_7 : decode cJ8_newLength_cabcc 7 = .ok (.istore_n 3, 1) := by decide +kernel
theorem dJ8_newLength_cabcc_8 : decode cJ8_newLength_cabcc 8 = .ok (.iconst 0, 1) := by decide +kernel
theorem dJ8_newLength_cabcc_9 : decode cJ8_newLength_cabcc 9 = .ok (.iload_n 3, 1) := by decide +kernel
theorem dJ8_newLength_cabcc_10 : decode cJ8_newLength_cabcc 10 = .ok (.if_icmp .ge 11, 3) := by decide +kernel
theorem dJ8_newLength_cabcc_13 : decode cJ8_newLength_cabcc 13 = .ok (.iload_n 3, 1) := by decide +kernel
theorem dJ8_newLength_cabcc_14 : decode cJ8_newLength_cabcc 14 = .ok (.ldc 200, 2) := by decide +kernel
theorem dJ8_newLength_cabcc_16 : decode cJ8_newLength_cabcc 16 = .ok (.if_icmp .gt 5, 3) := by decide +kernel
theorem dJ8_newLength_cabcc_19 : decode cJ8_newLength_cabcc 19 = .ok (.iload_n 3, 1) := by decide +kernel
theorem dJ8_newLength_cabcc_20 : decode cJ8_newLength_cabcc 20 = .ok (.ireturn, 1) := by decide +kernel
theorem dJ8_newLength_cabcc_21 : decode cJ8_newLength_cabcc 21 = .ok (.iload_n 0, 1) := by decide +kernel
theorem dJ8_newLength_cabcc_22 : decode cJ8_newLength_cabcc 22 = .ok (.iload_n 1, 1) := by decide +kernel
theorem dJ8_newLength_cabcc_23 : decode cJ8_newLength_cabcc 23 = .ok (.invokestatic 201, 3) := by decide +kernel
theorem dJ8_newLength_cabcc_26 : decode cJ8_newLength_cabcc 26 = .ok (.ireturn, 1) := by decide +kernel
theorem dJ8_hugeLength_7cf53_0 : decode cJ8_hugeLength_7cf53 0 = .ok (.iload_n 0, 1) := by decide +kernel
theorem dJ8_hugeLength_7cf53_1 : decode cJ8_hugeLength_7cf53 1 = .ok (.iload_n 1, 1) := by decide +kernel
theorem dJ8_hugeLength_7cf53_2 : decode cJ8_hugeLength_7cf53 2 = .ok (.iadd, 1) := by decide +kernel
theorem dJ8_hugeLength_7cf53_3 : decode cJ8_hugeLength_7cf53 3 = .ok (.istore_n 2, 1) := by decide +kernel
theorem dJ8_hugeLength_7cf53_4 : decode cJ8_hugeLength_7cf53 4 = .ok (.iload_n 2, 1) := by decide +kernel
theorem dJ8_hugeLength_7cf53_5 : decode cJ8_hugeLength_7cf53 5 = .ok (.ifCond .ge 44, 3) := by decide +kernel
theorem dJ8_hugeLength_7cf53_8 : decode cJ8_hugeLength_7cf53 8 = .ok (.new 204, 3) := by decide +kernel
theorem dJ8_hugeLength_7cf53_11 : decode cJ8_hugeLength_7cf53 11 = .ok (.dup, 1) := by decide +kernel
theorem dJ8_hugeLength_7cf53_12 : decode cJ8_hugeLength_7cf53 12 = .ok (.new 89, 3) := by decide +kernel
theorem dJ8_hugeLength_7cf53_15 : decode cJ8_hugeLength_7cf53 15 = .ok (.dup, 1) := by decide +kernel
theorem dJ8_hugeLength_7cf53_16 : decode cJ8_hugeLength_7cf53 16 = .ok (.invokespecial 91, 3) := by decide +kernel
theorem dJ8_hugeLength_7cf53_19 : decode cJ8_hugeLength_7cf53 19 = .ok (.ldc 206, 2) := by decide +kernel
theorem dJ8_hugeLength_7cf53_21 : decode cJ8_hugeLength_7cf53 21 = .ok (.invokevirtual 94, 3) := by decide +kernel
theorem dJ8_hugeLength_7cf53_24 : decode cJ8_hugeLength_7cf53 24 = .ok (.iload_n 0, 1) := by decide +kernel
theorem dJ8_hugeLength_7cf53_25 : decode cJ8_hugeLength_7cf53 25 = .ok (.invokevirtual 98, 3) := by decide +kernel
theorem dJ8_hugeLength_7cf53_28 : decode cJ8_hugeLength_7cf53 28 = .ok (.ldc 208, 2) := by decide +kernel
theorem dJ8_hugeLength_7cf53_30 : decode cJ8_hugeLength_7cf53 30 = .ok (.invokevirtual 94, 3) := by decide +kernel
theorem dJ8_hugeLength_7cf53_33 : decode cJ8_hugeLength_7cf53 33 = .ok (.iload_n 1, 1) := by decide +kernel
theorem dJ8_hugeLength_7cf53_34 : decode cJ8_hugeLength_7cf53 34 = .ok (.invokevirtual 98, 3) := by decide +kernel
theorem dJ8_hugeLength_7cf53_37 : decode cJ8_hugeLength_7cf53 37 = .ok (.ldc 210, 2) := by decide +kernel
theorem dJ8_hugeLength_7cf53_39 : decode cJ8_hugeLength_7cf53 39 = .ok (.invokevirtual 94, 3) := by decide +kernel
theorem dJ8_hugeLength_7cf53_42 : decode cJ8_hugeLength_7cf53 42 = .ok (.invokevirtual 101, 3) := by decide +kernel
theorem dJ8_hugeLength_7cf53_45 : decode cJ8_hugeLength_7cf53 45 = .ok (.invokespecial 212, 3) := by decide +kernel
theorem dJ8_hugeLength_7cf53_48 : decode cJ8_hugeLength_7cf53 48 = .ok (.athrow, 1) := by decide +kernel
theorem dJ8_hugeLength_7cf53_49 : decode cJ8_hugeLength_7cf53 49 = .ok (.iload_n 2, 1) := by decide +kernel
theorem dJ8_hugeLength_7cf53_50 : decode cJ8_hugeLength_7cf53 50 = .ok (.ldc 200, 2) := by decide +kernel
theorem dJ8_hugeLength_7cf53_52 : decode cJ8_hugeLength_7cf53 52 = .ok (.if_icmp .gt 6, 3) := by decide +kernel
theorem dJ8_hugeLength_7cf53_55 : decode cJ8_hugeLength_7cf53 55 = .ok (.ldc 200, 2) := by decide +kernel
theorem dJ8_hugeLength_7cf53_57 : decode cJ8_hugeLength_7cf53 57 = .ok (.ireturn, 1) := by decide +kernel
theorem dJ8_hugeLength_7cf53_58 : decode cJ8_hugeLength_7cf53 58 = .ok (.iload_n 2, 1) := by decide +kernel
theorem dJ8_hugeLength_7cf53_59 : decode cJ8_hugeLength_7cf53 59 = .ok (.ireturn, 1) := by decide +kernel
theorem dJ3_checkIndex_8e157_0 : decode cJ3_checkIndex_8e157 0 = .ok (.iload_n 0, 1) := by decide +kernel
theorem dJ3_checkIndex_8e157_1 : decode cJ3_checkIndex_8e157 1 = .ok (.ifCond .lt 8, 3) := by decide +kernel
theorem dJ3_checkIndex_8e157_4 : decode cJ3_checkIndex_8e157 4 = .ok (.iload_n 0, 1) := by decide +kernel
theorem dJ3_checkIndex_8e157_5 : decode cJ3_checkIndex_8e157 5 = .ok (.iload_n 1, 1) := by decide +kernel
theorem dJ3_checkIndex_8e157_6 : decode cJ3_checkIndex_8e157 6 = .ok (.if_icmp .lt 10, 3) := by decide +kernel
theorem dJ3_checkIndex_8e157_9 : decode cJ3_checkIndex_8e157 9 = .ok (.aload_n 2, 1) := by decide +kernel
theorem dJ3_checkIndex_8e157_10 : decode cJ3_checkIndex_8e157 10 = .ok (.iload_n 0, 1) := by decide +kernel
theorem dJ3_checkIndex_8e157_11 : decode cJ3_checkIndex_8e157 11 = .ok (.iload_n 1, 1) := by decide +kernel
theorem dJ3_checkIndex_8e157_12 : decode cJ3_checkIndex_8e157 12 = .ok (.invokestatic 95, 3) := by decide +kernel
theorem dJ3_checkIndex_8e157_15 : decode cJ3_checkIndex_8e157 15 = .ok (.athrow, 1) := by decide +kernel
theorem dJ3_checkIndex_8e157_16 : decode cJ3_checkIndex_8e157 16 = .ok (.iload_n 0, 1) := by decide +kernel
theorem dJ3_checkIndex_8e157_17 : decode cJ3_checkIndex_8e157 17 = .ok (.ireturn, 1) := by decide +kernel
set_option maxRecDepth 20000 in
theorem ggL_addNode_X3_addNode : GoodIn wsL_addNode wsX3_addNode := goodIn_ca (goodIn_r _ [6, 7, 8, 9, 10, 11, 12, 13, 14, 15, 16, 17, 18, 19, 20, 21, 22, 23, 24, 25, 26, 27, 28, 29, 30, 31, 32, 33, 34, 35, 36, 37, 38, 39, 40, 41, 42, 43, 44, 45, 46, 47, 48, 49, 50, 51, 52, 53, 54, 55, 56, 57, 58, 59, 60, 61, 62, 63, 64, 65, 66, 67, 68, 69, 70, 71, 72, 73, 74, 75, 76, 77, 78, 79, 80, 81, 82, 83, 84, 85, 86, 87, 88] (by decide +kernel) (by decide +kernel)) (goodIn_sub (fun _ h => List.mem_cons_of_mem _ (List.mem_append_right _ h)) (by decide +kernel))
set_option maxRecDepth 20000 in
theorem gL_addNode_X3_addNode : GoodIn wsL_addNode (wsV RL 7 RX3 yX3_addNode wsX3_addNode) := goodIn_app (goodIn_of _ (by decide +kernel)) ggL_addNode_X3_addNode
theorem dL_addNode_0 : decode cL_addNode 0 = .ok (.aload_n 1, 1) := by decide +kernel
theorem dL_addNode_1 : decode cL_addNode 1 = .ok (.iconst 0, 1) := by decide +kernel
theorem dL_addNode_2 : decode cL_addNode 2 = .ok (.aload_n 0, 1) := by decide +kernel
theorem dL_addNode_3 : decode cL_addNode 3 = .ok (.invokevirtual 7, 3) := by decide +kernel
theorem dL_addNode_6 : decode cL_addNode 6 = .ok (.i2l, 1) := by decide +kernel
theorem dL_addNode_7 : decode cL_addNode 7 = .ok (.lastore, 1) := by decide +kernel
theorem dL_addNode_8 : decode cL_addNode 8 = .ok (.goto 6, 3) := by decide +kernel
theorem dL_addNode_11 : decode cL_addNode 11 = .ok (.astore_n 2, 1) := by decide +kernel
theorem dL_addNode_12 : decode cL_addNode 12 = .ok (.iconst 1, 1) := by decide +kernel
theorem dL_addNode_13 : decode cL_addNode 13 = .ok (.ireturn, 1) := by decide +kernel
theorem dL_addNode_14 : decode cL_addNode 14 = .ok (.iconst 0, 1) := by decide +kernel
theorem dL_addNode_15 : decode cL_addNode 15 = .ok (.ireturn, 1) := by decide +kernel
set_option maxRecDepth 20000 in
theorem ggL_rail_X3_rail : GoodIn wsL_rail wsX3_rail := goodIn_ca (goodIn_ca (goodIn_r _ [7, 8, 9, 10, 11, 12, 13, 14, 15, 16, 6, 17, 18, 19, 20, 21, 22, 23, 24, 25, 26, 27, 28, 29, 30, 31, 32, 33, 34, 35, 36, 37, 38, 39, 40, 41, 42, 43, 44, 45, 46, 47, 48, 49, 50, 51] (by decide +kernel) (by decide +kernel)) (goodIn_sub (fun _ h => List.mem_cons_of_mem _ (List.mem_append_left _ (List.mem_append_right _ h))) (by decide +kernel))) (goodIn_sub (fun _ h => List.mem_cons_of_mem _ (List.mem_append_right _ h)) (by decide +kernel))
set_option maxRecDepth 20000 in
theorem gL_rail_X3_rail : GoodIn wsL_rail (wsV RL 15 RX3 yX3_rail wsX3_rail) := goodIn_app (goodIn_of _ (by decide +kernel)) ggL_rail_X3_rail
theorem dL_rail_0 : decode cL_rail 0 = .ok (.aload 4, 2) := by decide +kernel
theorem dL_rail_2 : decode cL_rail 2 = .ok (.iconst 0, 1) := by decide +kernel
theorem dL_rail_3 : decode cL_rail 3 = .ok (.aload_n 0, 1) := by decide +kernel
theorem dL_rail_4 : decode cL_rail 4 = .ok (.iload_n 1, 1) := by decide +kernel
theorem dL_rail_5 : decode cL_rail 5 = .ok (.iload_n 2, 1) := by decide +kernel
theorem dL_rail_6 : decode cL_rail 6 = .ok (.iload_n 3, 1) := by decide +kernel
theorem dL_rail_7 : decode cL_rail 7 = .ok (.invokevirtual 15, 3) := by decide +kernel
theorem dL_rail_10 : decode cL_rail 10 = .ok (.ifCond .eq 7, 3) := by decide +kernel
theorem dL_rail_13 : decode cL_rail 13 = .ok (.lconst 1, 1) := by decide +kernel
theorem dL_rail_14 : decode cL_rail 14 = .ok (.goto 4, 3) := by decide +kernel
theorem dL_rail_17 : decode cL_rail 17 = .ok (.lconst 0, 1) := by decide +kernel
theorem dL_rail_18 : decode cL_rail 18 = .ok (.lastore, 1) := by decide +kernel
theorem dL_rail_19 : decode cL_rail 19 = .ok (.goto 11, 3) := by decide +kernel
theorem dL_rail_22 : decode cL_rail 22 = .ok (.astore 5, 2) := by decide +kernel
theorem dL_rail_24 : decode cL_rail 24 = .ok (.iconst 1, 1) := by decide +kernel
theorem dL_rail_25 : decode cL_rail 25 = .ok (.ireturn, 1) := by decide +kernel
theorem dL_rail_26 : decode cL_rail 26 = .ok (.astore 5, 2) := by decide +kernel
theorem dL_rail_28 : decode cL_rail 28 = .ok (.iconst 2, 1) := by decide +kernel
theorem dL_rail_29 : decode cL_rail 29 = .ok (.ireturn, 1) := by decide +kernel
theorem dL_rail_30 : decode cL_rail 30 = .ok (.iconst 0, 1) := by decide +kernel
theorem dL_rail_31 : decode cL_rail 31 = .ok (.ireturn, 1) := by decide +kernel
set_option maxRecDepth 20000 in
theorem ggL_addElement_X3_addElement : GoodIn wsL_addElement wsX3_addElement := goodIn_ca (goodIn_ca (goodIn_ca (goodIn_r _ [8, 9, 10, 11, 12, 13, 14, 15, 16, 17, 18, 19, 7, 20, 21, 22, 23, 24, 25, 26, 27, 28, 29, 30, 31, 32, 33, 34, 35, 36, 37, 38, 39, 40, 41, 42, 43, 44, 45, 46, 47, 48, 49, 50, 51, 52, 53, 54, 55, 56, 57, 58, 59, 60, 61, 62, 63, 64, 65, 66, 67, 68, 69, 70, 71, 72, 73, 74, 75, 76, 77, 78, 79, 80, 81, 82, 83, 84, 85, 86, 87, 88, 89, 90, 91, 92, 93, 94, 95, 96, 97, 98, 99, 100, 101, 102, 103, 104, 105, 106, 107, 108, 109, 110, 111, 112, 113, 114] (by decide +kernel) (by decide +kernel)) (goodIn_sub (fun _ h => List.mem_cons_of_mem _ (List.mem_append_left _ (List.mem_append_left _ (List.mem_append_right _ h)))) (by decide +kernel))) (goodIn_sub (fun _ h => List.mem_cons_of_mem _ (List.mem_append_left _ (List.mem_append_right _ h))) (by decide +kernel))) (goodIn_sub (fun _ h => List.mem_cons_of_mem _ (List.mem_append_right _ h)) (by decide +kernel))
set_option maxRecDepth 20000 in
theorem gL_addElement_X3_addElement : GoodIn wsL_addElement (wsV RL 23 RX3 yX3_addElement wsX3_addElement) := goodIn_app (goodIn_of _ (by decide +kernel)) ggL_addElement_X3_addElement
theorem dL_addElement_0 : decode cL_addElement 0 = .ok (.aload 5, 2) := by decide +kernel
theorem dL_addElement_2 : decode cL_addElement 2 = .ok (.iconst 0, 1) := by decide +kernel
theorem dL_addElement_3 : decode cL_addElement 3 = .ok (.aload_n 0, 1) := by decide +kernel
theorem dL_addElement_4 : decode cL_addElement 4 = .ok (.iload_n 1, 1) := by decide +kernel
theorem dL_addElement_5 : decode cL_addElement 5 = .ok (.iload_n 2, 1) := by decide +kernel
theorem dL_addElement_6 : decode cL_addElement 6 = .ok (.iload_n 3, 1) := by decide +kernel
theorem dL_addElement_7 : decode cL_addElement 7 = .ok (.iload 4, 2) := by decide +kernel
theorem dL_addElement_9 : decode cL_addElement 9 = .ok (.invokevirtual 23, 3) := by decide +kernel
theorem dL_addElement_12 : decode cL_addElement 12 = .ok (.i2l, 1) := by decide +kernel
theorem dL_addElement_13 : decode cL_addElement 13 = .ok (.lastore, 1) := by decide +kernel
theorem dL_addElement_14 : decode cL_addElement 14 = .ok (.goto 15, 3) := by decide +kernel
theorem dL_addElement_17 : decode cL_addElement 17 = .ok (.astore 6, 2) := by decide +kernel
theorem dL_addElement_19 : decode cL_addElement 19 = .ok (.iconst 1, 1) := by decide +kernel
theorem dL_addElement_20 : decode cL_addElement 20 = .ok (.ireturn, 1) := by decide +kernel
theorem dL_addElement_21 : decode cL_addElement 21 = .ok (.astore 6, 2) := by decide +kernel
theorem dL_addElement_23 : decode cL_addElement 23 = .ok (.iconst 2, 1) := by decide +kernel
theorem dL_addElement_24 : decode cL_addElement 24 = .ok (.ireturn, 1) := by decide +kernel
theorem dL_addElement_25 : decode cL_addElement 25 = .ok (.astore 6, 2) := by decide +kernel
theorem dL_addElement_27 : decode cL_addElement 27 = .ok (.iconst 3, 1) := by decide +kernel
theorem dL_addElement_28 : decode cL_addElement 28 = .ok (.ireturn, 1) := by decide +kernel
theorem dL_addElement_29 : decode cL_addElement 29 = .ok (.iconst 0, 1) := by decide +kernel
theorem dL_addElement_30 : decode cL_addElement 30 = .ok (.ireturn, 1) := by decide +kernel
set_option maxRecDepth 20000 in
theorem ggL_resize_X3_resize : GoodIn wsL_resize wsX3_resize := goodIn_ca (goodIn_ca (goodIn_r _ [7, 8, 9, 10, 11, 12, 13, 14, 6, 15, 16, 17, 18, 19, 20, 21, 22, 23, 24, 25, 26, 27, 28, 29, 30, 31, 32, 33, 34, 35, 36, 37, 38, 39, 40, 41, 42, 43, 44, 45, 46, 47, 48, 49, 50, 51, 52, 53, 54, 55, 56, 57, 58, 59] (by decide +kernel) (by decide +kernel)) (goodIn_sub (fun _ h => List.mem_cons_of_mem _ (List.mem_append_left _ (List.mem_append_right _ h))) (by decide +kernel))) (goodIn_sub (fun _ h => List.mem_cons_of_mem _ (List.mem_append_right _ h)) (by decide +kernel))
set_option maxRecDepth 20000 in
theorem gL_resize_X3_resize : GoodIn wsL_resize (wsV RL 27 RX3 yX3_resize wsX3_resize) := goodIn_app (goodIn_of _ (by decide +kernel)) ggL_resize_X3_resize
theorem dL_resize_0 : decode cL_resize 0 = .ok (.aload_n 3, 1) := by decide +kernel
theorem dL_resize_1 : decode cL_resize 1 = .ok (.iconst 0, 1) := by decide +kernel
theorem dL_resize_2 : decode cL_resize 2 = .ok (.aload_n 0, 1) := by decide +kernel
theorem dL_resize_3 : decode cL_resize 3 = .ok (.iload_n 1, 1) := by decide +kernel
theorem dL_resize_4 : decode cL_resize 4 = .ok (.iload_n 2, 1) := by decide +kernel
theorem dL_resize_5 : decode cL_resize 5 = .ok (.invokevirtual 27, 3) := by decide +kernel
theorem dL_resize_8 : decode cL_resize 8 = .ok (.i2l, 1) := by decide +kernel
theorem dL_resize_9 : decode cL_resize 9 = .ok (.lastore, 1) := by decide +kernel
theorem dL_resize_10 : decode cL_resize 10 = .ok (.goto 11, 3) := by decide +kernel
theorem dL_resize_13 : decode cL_resize 13 = .ok (.astore 4, 2) := by decide +kernel
theorem dL_resize_15 : decode cL_resize 15 = .ok (.iconst 1, 1) := by decide +kernel
theorem dL_resize_16 : decode cL_resize 16 = .ok (.ireturn, 1) := by decide +kernel
theorem dL_resize_17 : decode cL_resize 17 = .ok (.astore 4, 2) := by decide +kernel
theorem dL_resize_19 : decode cL_resize 19 = .ok (.iconst 2, 1) := by decide +kernel
theorem dL_resize_20 : decode cL_resize 20 = .ok (.ireturn, 1) := by decide +kernel
theorem dL_resize_21 : decode cL_resize 21 = .ok (.iconst 0, 1) := by decide +kernel
theorem dL_resize_22 : decode cL_resize 22 = .ok (.ireturn, 1) := by decide +kernel
set_option maxRecDepth 20000 in
theorem ggL_begin_X3_begin : GoodIn wsL_begin wsX3_begin := goodIn_ca (goodIn_r _ [6, 7, 8, 9, 10, 11, 12, 5, 13, 14, 15, 16, 17, 18, 19, 20, 21, 22, 23, 24, 25, 26, 27, 28, 29, 30, 31, 32, 33, 34, 35, 36, 37, 38, 39, 40, 41, 42, 43, 44, 45, 46, 47, 48, 49, 50, 51, 52] (by decide +kernel) (by decide +kernel)) (goodIn_sub (fun _ h => List.mem_cons_of_mem _ (List.mem_append_right _ h)) (by decide +kernel))
set_option maxRecDepth 20000 in
theorem gL_begin_X3_begin : GoodIn wsL_begin (wsV RL 31 RX3 yX3_begin wsX3_begin) := goodIn_app (goodIn_of _ (by decide +kernel)) ggL_begin_X3_begin
theorem dL_begin_0 : decode cL_begin 0 = .ok (.aload_n 3, 1) := by decide +kernel
theorem dL_begin_1 : decode cL_begin 1 = .ok (.iconst 0, 1) := by decide +kernel
theorem dL_begin_2 : decode cL_begin 2 = .ok (.aload_n 0, 1) := by decide +kernel
theorem dL_begin_3 : decode cL_begin 3 = .ok (.iload_n 1, 1) := by decide +kernel
theorem dL_begin_4 : decode cL_begin 4 = .ok (.iload_n 2, 1) := by decide +kernel
theorem dL_begin_5 : decode cL_begin 5 = .ok (.invokevirtual 31, 3) := by decide +kernel
theorem dL_begin_8 : decode cL_begin 8 = .ok (.ifCond .eq 7, 3) := by decide +kernel
theorem dL_begin_11 : decode cL_begin 11 = .ok (.lconst 1, 1) := by decide +kernel
theorem dL_begin_12 : decode cL_begin 12 = .ok (.goto 4, 3) := by decide +kernel
theorem dL_begin_15 : decode cL_begin 15 = .ok (.lconst 0, 1) := by decide +kernel
theorem dL_begin_16 : decode cL_begin 16 = .ok (.lastore, 1) := by decide +kernel
theorem dL_begin_17 : decode cL_begin 17 = .ok (.goto 7, 3) := by decide +kernel
theorem dL_begin_20 : decode cL_begin 20 = .ok (.astore 4, 2) := by decide +kernel
theorem dL_begin_22 : decode cL_begin 22 = .ok (.iconst 1, 1) := by decide +kernel
theorem dL_begin_23 : decode cL_begin 23 = .ok (.ireturn, 1) := by decide +kernel
theorem dL_begin_24 : decode cL_begin 24 = .ok (.iconst 0, 1) := by decide +kernel
theorem dL_begin_25 : decode cL_begin 25 = .ok (.ireturn, 1) := by decide +kernel
set_option maxRecDepth 20000 in
theorem ggL_toggle_X3_toggle : GoodIn wsL_toggle wsX3_toggle := goodIn_ca (goodIn_ca (goodIn_ca (goodIn_r _ [8, 9, 10, 11, 12, 13, 14, 15, 16, 17, 18, 7, 19, 20, 21, 22, 23, 24, 25, 26, 27, 28, 29, 30, 31, 32, 33, 34, 35, 36, 37, 38, 39, 40, 41, 42, 43, 44, 45, 46, 47, 48, 49, 50, 51, 52, 53, 54, 55, 56, 57, 58, 59, 60, 61, 62, 63, 64, 65, 66, 67, 68, 69, 70, 71, 72, 73, 74, 75, 76, 77] (by decide +kernel) (by decide +kernel)) (goodIn_sub (fun _ h => List.mem_cons_of_mem _ (List.mem_append_left _ (List.mem_append_left _ (List.mem_append_right _ h)))) (by decide +kernel))) (goodIn_sub (fun _ h => List.mem_cons_of_mem _ (List.mem_append_left _ (List.mem_append_right _ h))) (by decide +kernel))) (goodIn_sub (fun _ h => List.mem_cons_of_mem _ (List.mem_append_right _ h)) (by decide +kernel))
set_option maxRecDepth 20000 in
theorem gL_toggle_X3_toggle : GoodIn wsL_toggle (wsV RL 35 RX3 yX3_toggle wsX3_toggle) := goodIn_app (goodIn_of _ (by decide +kernel)) ggL_toggle_X3_toggle
theorem dL_toggle_0 : decode cL_toggle 0 = .ok (.aload_n 3, 1) := by decide +kernel
theorem dL_toggle_1 : decode cL_toggle 1 = .ok (.iconst 0, 1) := by decide +kernel
theorem dL_toggle_2 : decode cL_toggle 2 = .ok (.aload_n 0, 1) := by decide +kernel
theorem dL_toggle_3 : decode cL_toggle 3 = .ok (.iload_n 1, 1) := by decide +kernel
theorem dL_toggle_4 : decode cL_toggle 4 = .ok (.iload_n 2, 1) := by decide +kernel
theorem dL_toggle_5 : decode cL_toggle 5 = .ok (.invokevirtual 35, 3) := by decide +kernel
theorem dL_toggle_8 : decode cL_toggle 8 = .ok (.i2l, 1) := by decide +kernel
theorem dL_toggle_9 : decode cL_toggle 9 = .ok (.lastore, 1) := by decide +kernel
theorem dL_toggle_10 : decode cL_toggle 10 = .ok (.goto 15, 3) := by decide +kernel
theorem dL_toggle_13 : decode cL_toggle 13 = .ok (.astore 4, 2) := by decide +kernel
theorem dL_toggle_15 : decode cL_toggle 15 = .ok (.iconst 1, 1) := by decide +kernel
theorem dL_toggle_16 : decode cL_toggle 16 = .ok (.ireturn, 1) := by decide +kernel
theorem dL_toggle_17 : decode cL_toggle 17 = .ok (.astore 4, 2) := by decide +kernel
theorem dL_toggle_19 : decode cL_toggle 19 = .ok (.iconst 2, 1) := by decide +kernel
theorem dL_toggle_20 : decode cL_toggle 20 = .ok (.ireturn, 1) := by decide +kernel
theorem dL_toggle_21 : decode cL_toggle 21 = .ok (.astore 4, 2) := by decide +kernel
theorem dL_toggle_23 : decode cL_toggle 23 = .ok (.iconst 3, 1) := by decide +kernel
theorem dL_toggle_24 : decode cL_toggle 24 = .ok (.ireturn, 1) := by decide +kernel
theorem dL_toggle_25 : decode cL_toggle 25 = .ok (.iconst 0, 1) := by decide +kernel
theorem dL_toggle_26 : decode cL_toggle 26 = .ok (.ireturn, 1) := by decide +kernel
set_option maxRecDepth 20000 in
theorem ggL_count_X3_count : GoodIn wsL_count wsX3_count := goodIn_ca (goodIn_r _ [6, 7, 8, 9, 10, 11, 5, 12, 13, 14, 15, 16, 17, 18, 19, 20, 21, 22, 23, 24, 25, 26, 27, 28, 29, 30, 31, 32, 33, 34, 35, 36, 37, 38, 39, 40, 41, 42, 43, 44, 45, 46, 47, 48, 49, 50, 51, 52, 53, 54, 55, 56, 57, 58, 59, 60, 61, 62, 63, 64, 65] (by decide +kernel) (by decide +kernel)) (goodIn_sub (fun _ h => List.mem_cons_of_mem _ (List.mem_append_right _ h)) (by decide +kernel))
set_option maxRecDepth 20000 in
theorem gL_count_X3_count : GoodIn wsL_count (wsV RL 38 RX3 yX3_count wsX3_count) := goodIn_app (goodIn_of _ (by decide +kernel)) ggL_count_X3_count
theorem dL_count_0 : decode cL_count 0 = .ok (.aload_n 2, 1) := by decide +kernel
theorem dL_count_1 : decode cL_count 1 = .ok (.iconst 0, 1) := by decide +kernel
theorem dL_count_2 : decode cL_count 2 = .ok (.aload_n 0, 1) := by decide +kernel
theorem dL_count_3 : decode cL_count 3 = .ok (.iload_n 1, 1) := by decide +kernel
theorem dL_count_4 : decode cL_count 4 = .ok (.invokevirtual 38, 3) := by decide +kernel
theorem dL_count_7 : decode cL_count 7 = .ok (.i2l, 1) := by decide +kernel
theorem dL_count_8 : decode cL_count 8 = .ok (.lastore, 1) := by decide +kernel
theorem dL_count_9 : decode cL_count 9 = .ok (.goto 6, 3) := by decide +kernel
theorem dL_count_12 : decode cL_count 12 = .ok (.astore_n 3, 1) := by decide +kernel
theorem dL_count_13 : decode cL_count 13 = .ok (.iconst 1, 1) := by decide +kernel
theorem dL_count_14 : decode cL_count 14 = .ok (.ireturn, 1) := by decide +kernel
theorem dL_count_15 : decode cL_count 15 = .ok (.iconst 0, 1) := by decide +kernel
theorem dL_count_16 : decode cL_count 16 = .ok (.ireturn, 1) := by decide +kernel
set_option maxRecDepth 20000 in
theorem ggL_element_X3_element : GoodIn wsL_element wsX3_element := goodIn_ca (goodIn_r _ [6, 7, 8, 9, 10, 11, 12, 13, 5, 14, 15, 16, 17, 18, 19, 20, 21, 22, 23, 24, 25, 26, 27, 28, 29, 30, 31, 32, 33, 34, 35, 36, 37, 38, 39, 40, 41, 42, 43, 44, 45, 46, 47, 48, 49, 50, 51, 52, 53, 54, 55, 56, 57, 58, 59, 60, 61, 62] (by decide +kernel) (by decide +kernel)) (goodIn_sub (fun _ h => List.mem_cons_of_mem _ (List.mem_append_right _ h)) (by decide +kernel))
set_option maxRecDepth 20000 in
theorem gL_element_X3_element : GoodIn wsL_element (wsV RL 42 RX3 yX3_element wsX3_element) := goodIn_app (goodIn_of _ (by decide +kernel)) ggL_element_X3_element
theorem dL_element_0 : decode cL_element 0 = .ok (.aload_n 3, 1) := by decide +kernel
theorem dL_element_1 : decode cL_element 1 = .ok (.iconst 0, 1) := by decide +kernel
theorem dL_element_2 : decode cL_element 2 = .ok (.aload_n 0, 1) := by decide +kernel
theorem dL_element_3 : decode cL_element 3 = .ok (.iload_n 1, 1) := by decide +kernel
theorem dL_element_4 : decode cL_element 4 = .ok (.iload_n 2, 1) := by decide +kernel
theorem dL_element_5 : decode cL_element 5 = .ok (.invokevirtual 42, 3) := by decide +kernel
theorem dL_element_8 : decode cL_element 8 = .ok (.i2l, 1) := by decide +kernel
theorem dL_element_9 : decode cL_element 9 = .ok (.lastore, 1) := by decide +kernel
theorem dL_element_10 : decode cL_element 10 = .ok (.goto 7, 3) := by decide +kernel
theorem dL_element_13 : decode cL_element 13 = .ok (.astore 4, 2) := by decide +kernel
theorem dL_element_15 : decode cL_element 15 = .ok (.iconst 1, 1) := by decide +kernel
theorem dL_element_16 : decode cL_element 16 = .ok (.ireturn, 1) := by decide +kernel
theorem dL_element_17 : decode cL_element 17 = .ok (.iconst 0, 1) := by decide +kernel
theorem dL_element_18 : decode cL_element 18 = .ok (.ireturn, 1) := by decide +kernel
set_option maxRecDepth 20000 in
theorem ggL_toggleAt_X3_toggleAt : GoodIn wsL_toggleAt wsX3_toggleAt := goodIn_ca (goodIn_r _ [6, 7, 8, 9, 10, 11, 12, 13, 14, 5, 15, 16, 17, 18, 19, 20, 21, 22, 23, 24, 25, 26, 27, 28, 29, 30, 31, 32, 33, 34, 35, 36, 37, 38, 39, 40, 41, 42, 43, 44, 45, 46, 47, 48, 49, 50, 51, 52, 53, 54, 55, 56, 57, 58, 59] (by decide +kernel) (by decide +kernel)) (goodIn_sub (fun _ h => List.mem_cons_of_mem _ (List.mem_append_right _ h)) (by decide +kernel))
set_option maxRecDepth 20000 in
theorem gL_toggleAt_X3_toggleAt : GoodIn wsL_toggleAt (wsV RL 45 RX3 yX3_toggleAt wsX3_toggleAt) := goodIn_app (goodIn_of _ (by decide +kernel)) ggL_toggleAt_X3_toggleAt
theorem dL_toggleAt_0 : decode cL_toggleAt 0 = .ok (.aload_n 3, 1) := by decide +kernel
theorem dL_toggleAt_1 : decode cL_toggleAt 1 = .ok (.iconst 0, 1) := by decide +kernel
theorem dL_toggleAt_2 : decode cL_toggleAt 2 = .ok (.aload_n 0, 1) := by decide +kernel
theorem dL_toggleAt_3 : decode cL_toggleAt 3 = .ok (.iload_n 1, 1) := by decide +kernel
theorem dL_toggleAt_4 : decode cL_toggleAt 4 = .ok (.iload_n 2, 1) := by decide +kernel
theorem dL_toggleAt_5 : decode cL_toggleAt 5 = .ok (.invokevirtual 45, 3) := by decide +kernel
theorem dL_toggleAt_8 : decode cL_toggleAt 8 = .ok (.i2l, 1) := by decide +kernel
theorem dL_toggleAt_9 : decode cL_toggleAt 9 = .ok (.lastore, 1) := by decide +kernel
theorem dL_toggleAt_10 : decode cL_toggleAt 10 = .ok (.goto 7, 3) := by decide +kernel
theorem dL_toggleAt_13 : decode cL_toggleAt 13 = .ok (.astore 4, 2) := by decide +kernel
theorem dL_toggleAt_15 : decode cL_toggleAt 15 = .ok (.iconst 1, 1) := by decide +kernel
theorem dL_toggleAt_16 : decode cL_toggleAt 16 = .ok (.ireturn, 1) := by decide +kernel
theorem dL_toggleAt_17 : decode cL_toggleAt 17 = .ok (.iconst 0, 1) := by decide +kernel
theorem dL_toggleAt_18 : decode cL_toggleAt 18 = .ok (.ireturn, 1) := by decide +kernel
set_option maxRecDepth 20000 in
theorem ggL_isOn_X3_isOn : GoodIn wsL_isOn wsX3_isOn := goodIn_ca (goodIn_ca (goodIn_r _ [7, 8, 9, 10, 11, 12, 6, 13, 14, 15, 16, 17, 18, 19, 20, 21, 22, 23, 24, 25, 26, 27, 28, 29, 30, 31, 32, 33, 34, 35, 36, 37, 38, 39, 40, 41, 42, 43, 44, 45, 46, 47, 48, 49, 50, 51, 52, 53, 54, 55, 56, 57, 58, 59, 60, 61, 62, 63, 64, 65, 66, 67, 68, 69] (by decide +kernel) (by decide +kernel)) (goodIn_sub (fun _ h => List.mem_cons_of_mem _ (List.mem_append_left _ (List.mem_append_right _ h))) (by decide +kernel))) (goodIn_sub (fun _ h => List.mem_cons_of_mem _ (List.mem_append_right _ h)) (by decide +kernel))
set_option maxRecDepth 20000 in
theorem gL_isOn_X3_isOn : GoodIn wsL_isOn (wsV RL 48 RX3 yX3_isOn wsX3_isOn) := goodIn_app (goodIn_of _ (by decide +kernel)) ggL_isOn_X3_isOn
theorem dL_isOn_0 : decode cL_isOn 0 = .ok (.aload_n 3, 1) := by decide +kernel
theorem dL_isOn_1 : decode cL_isOn 1 = .ok (.iconst 0, 1) := by decide +kernel
theorem dL_isOn_2 : decode cL_isOn 2 = .ok (.aload_n 0, 1) := by decide +kernel
theorem dL_isOn_3 : decode cL_isOn 3 = .ok (.iload_n 1, 1) := by decide +kernel
theorem dL_isOn_4 : decode cL_isOn 4 = .ok (.iload_n 2, 1) := by decide +kernel
theorem dL_isOn_5 : decode cL_isOn 5 = .ok (.invokevirtual 48, 3) := by decide +kernel
theorem dL_isOn_8 : decode cL_isOn 8 = .ok (.ifCond .eq 7, 3) := by decide +kernel
theorem dL_isOn_11 : decode cL_isOn 11 = .ok (.lconst 1, 1) := by decide +kernel
theorem dL_isOn_12 : decode cL_isOn 12 = .ok (.goto 4, 3) := by decide +kernel
theorem dL_isOn_15 : decode cL_isOn 15 = .ok (.lconst 0, 1) := by decide +kernel
theorem dL_isOn_16 : decode cL_isOn 16 = .ok (.lastore, 1) := by decide +kernel
theorem dL_isOn_17 : decode cL_isOn 17 = .ok (.goto 11, 3) := by decide +kernel
theorem dL_isOn_20 : decode cL_isOn 20 = .ok (.astore 4, 2) := by decide +kernel
theorem dL_isOn_22 : decode cL_isOn 22 = .ok (.iconst 1, 1) := by decide +kernel
theorem dL_isOn_23 : decode cL_isOn 23 = .ok (.ireturn, 1) := by decide +kernel
theorem dL_isOn_24 : decode cL_isOn 24 = .ok (.astore 4, 2) := by decide +kernel
theorem dL_isOn_26 : decode cL_isOn 26 = .ok (.iconst 2, 1) := by decide +kernel
theorem dL_isOn_27 : decode cL_isOn 27 = .ok (.ireturn, 1) := by decide +kernel
theorem dL_isOn_28 : decode cL_isOn 28 = .ok (.iconst 0, 1) := by decide +kernel
theorem dL_isOn_29 : decode cL_isOn 29 = .ok (.ireturn, 1) := by decide +kernel
set_option maxRecDepth 20000 in
theorem ggL_together_X3_together : GoodIn wsL_together wsX3_together := goodIn_ca (goodIn_ca (goodIn_r _ [7, 8, 9, 10, 11, 6, 12, 13, 14, 15, 16, 17, 18, 19, 20, 21, 22, 23, 24, 25, 26, 27, 28, 29, 30, 31, 32, 33, 34, 35, 36, 37, 38, 39, 40, 41, 42, 43, 44, 45, 46, 47, 48, 49, 50, 51, 52, 53, 54, 55, 56, 57, 58, 59, 60, 61, 62, 63, 64, 65, 66, 67, 68, 69, 70, 71, 72, 73, 74, 75, 76, 77, 78, 79, 80, 81, 82, 83, 84, 85] (by decide +kernel) (by decide +kernel)) (goodIn_sub (fun _ h => List.mem_cons_of_mem _ (List.mem_append_left _ (List.mem_append_right _ h))) (by decide +kernel))) (goodIn_sub (fun _ h => List.mem_cons_of_mem _ (List.mem_append_right _ h)) (by decide +kernel))
set_option maxRecDepth 20000 in
theorem gL_together_X3_together : GoodIn wsL_together (wsV RL 52 RX3 yX3_together wsX3_together) := goodIn_app (goodIn_of _ (by decide +kernel)) ggL_together_X3_together
theorem dL_together_0 : decode cL_together 0 = .ok (.aload_n 3, 1) := by decide +kernel
theorem dL_together_1 : decode cL_together 1 = .ok (.iconst 0, 1) := by decide +kernel
theorem dL_together_2 : decode cL_together 2 = .ok (.aload_n 0, 1) := by decide +kernel
theorem dL_together_3 : decode cL_together 3 = .ok (.iload_n 1, 1) := by decide +kernel
theorem dL_together_4 : decode cL_together 4 = .ok (.iload_n 2, 1) := by decide +kernel
theorem dL_together_5 : decode cL_together 5 = .ok (.invokevirtual 52, 3) := by decide +kernel
theorem dL_together_8 : decode cL_together 8 = .ok (.i2l, 1) := by decide +kernel
theorem dL_together_9 : decode cL_together 9 = .ok (.lastore, 1) := by decide +kernel
theorem dL_together_10 : decode cL_together 10 = .ok (.goto 11, 3) := by decide +kernel
theorem dL_together_13 : decode cL_together 13 = .ok (.astore 4, 2) := by decide +kernel
theorem dL_together_15 : decode cL_together 15 = .ok (.iconst 1, 1) := by decide +kernel
theorem dL_together_16 : decode cL_together 16 = .ok (.ireturn, 1) := by decide +kernel
theorem dL_together_17 : decode cL_together 17 = .ok (.astore 4, 2) := by decide +kernel
theorem dL_together_19 : decode cL_together 19 = .ok (.iconst 2, 1) := by decide +kernel
theorem dL_together_20 : decode cL_together 20 = .ok (.ireturn, 1) := by decide +kernel
theorem dL_together_21 : decode cL_together 21 = .ok (.iconst 0, 1) := by decide +kernel
theorem dL_together_22 : decode cL_together 22 = .ok (.ireturn, 1) := by decide +kernel
set_option maxRecDepth 20000 in
theorem ggL_floats_X3_floats : GoodIn wsL_floats wsX3_floats := goodIn_ca (goodIn_ca (goodIn_r _ [7, 8, 9, 10, 6, 11, 12, 13, 14, 15, 16, 17, 18, 19, 20, 21, 22, 23, 24, 25, 26, 27, 28, 29, 30, 31, 32, 33, 34, 35, 36, 37, 38, 39, 40, 41, 42, 43, 44, 45, 46, 47, 48, 49, 50, 51, 52, 53, 54, 55, 56, 57, 58, 59, 60, 61, 62, 63, 64, 65, 66, 67, 68, 69, 70, 71, 72, 73, 74, 75, 76, 77, 78, 79, 80, 81, 82, 83, 84, 85, 86, 87, 88, 89, 90, 91, 92, 93] (by decide +kernel) (by decide +kernel)) (goodIn_sub (fun _ h => List.mem_cons_of_mem _ (List.mem_append_left _ (List.mem_append_right _ h))) (by decide +kernel))) (goodIn_sub (fun _ h => List.mem_cons_of_mem _ (List.mem_append_right _ h)) (by decide +kernel))
set_option maxRecDepth 20000 in
theorem gL_floats_X3_floats : GoodIn wsL_floats (wsV RL 55 RX3 yX3_floats wsX3_floats) := goodIn_app (goodIn_of _ (by decide +kernel)) ggL_floats_X3_floats
theorem dL_floats_0 : decode cL_floats 0 = .ok (.aload_n 3, 1) := by decide +kernel
theorem dL_floats_1 : decode cL_floats 1 = .ok (.iconst 0, 1) := by decide +kernel
theorem dL_floats_2 : decode cL_floats 2 = .ok (.aload_n 0, 1) := by decide +kernel
theorem dL_floats_3 : decode cL_floats 3 = .ok (.iload_n 1, 1) := by decide +kernel
theorem dL_floats_4 : decode cL_floats 4 = .ok (.iload_n 2, 1) := by decide +kernel
theorem dL_floats_5 : decode cL_floats 5 = .ok (.invokevirtual 55, 3) := by decide +kernel
theorem dL_floats_8 : decode cL_floats 8 = .ok (.ifCond .eq 7, 3) := by decide +kernel
theorem dL_floats_11 : decode cL_floats 11 = .ok (.lconst 1, 1) := by decide +kernel
theorem dL_floats_12 : decode cL_floats 12 = .ok (.goto 4, 3) := by decide +kernel
theorem dL_floats_15 : decode cL_floats 15 = .ok (.lconst 0, 1) := by decide +kernel
theorem dL_floats_16 : decode cL_floats 16 = .ok (.lastore, 1) := by decide +kernel
theorem dL_floats_17 : decode cL_floats 17 = .ok (.goto 11, 3) := by decide +kernel
theorem dL_floats_20 : decode cL_floats 20 = .ok (.astore 4, 2) := by decide +kernel
theorem dL_floats_22 : decode cL_floats 22 = .ok (.iconst 1, 1) := by decide +kernel
theorem dL_floats_23 : decode cL_floats 23 = .ok (.ireturn, 1) := by decide +kernel
theorem dL_floats_24 : decode cL_floats 24 = .ok (.astore 4, 2) := by decide +kernel
theorem dL_floats_26 : decode cL_floats 26 = .ok (.iconst 2, 1) := by decide +kernel
theorem dL_floats_27 : decode cL_floats 27 = .ok (.ireturn, 1) := by decide +kernel
theorem dL_floats_28 : decode cL_floats 28 = .ok (.iconst 0, 1) := by decide +kernel
theorem dL_floats_29 : decode cL_floats 29 = .ok (.ireturn, 1) := by decide +kernel
set_option maxRecDepth 20000 in
theorem ggL_potential_X3_potential : GoodIn wsL_potential wsX3_potential := goodIn_ca (goodIn_ca (goodIn_ca (goodIn_r _ [8, 9, 10, 11, 12, 7, 13, 14, 15, 16, 17, 18, 19, 20, 21, 22, 23, 24, 25, 26, 27, 28, 29, 30, 31, 32, 33, 34, 35, 36, 37, 38, 39, 40, 41, 42, 43, 44, 45, 46, 47, 48, 49, 50, 51, 52, 53, 54, 55, 56, 57, 58, 59, 60, 61, 62, 63, 64, 65, 66, 67, 68, 69, 70, 71, 72, 73, 74, 75, 76, 77, 78, 79, 80, 81, 82, 83, 84, 85, 86, 87, 88, 89, 90, 91, 92, 93, 94, 95, 96, 97, 98, 99, 100, 101, 102, 103, 104, 105, 106, 107, 108, 109, 110, 111, 112, 113, 114, 115, 116, 117, 118, 119, 120, 121, 122, 123, 124, 125, 126, 127, 128, 129, 130, 131, 132, 133, 134, 135, 136, 137, 138, 139, 140, 141, 142, 143, 144, 145, 146, 147, 148, 149, 150, 151, 152, 153, 154, 155, 156, 157, 158, 159, 160, 161, 162, 163, 164, 165, 166, 167, 168, 169, 170, 171, 172, 173, 174, 175, 176, 177, 178, 179, 180, 181, 182, 183, 184] (by decide +kernel) (by decide +kernel)) (goodIn_sub (fun _ h => List.mem_cons_of_mem _ (List.mem_append_left _ (List.mem_append_left _ (List.mem_append_right _ h)))) (by decide +kernel))) (goodIn_sub (fun _ h => List.mem_cons_of_mem _ (List.mem_append_left _ (List.mem_append_right _ h))) (by decide +kernel))) (goodIn_sub (fun _ h => List.mem_cons_of_mem _ (List.mem_append_right _ h)) (by decide +kernel))
set_option maxRecDepth 20000 in
theorem gL_potential_X3_potential : GoodIn wsL_potential (wsV RL 58 RX3 yX3_potential wsX3_potential) := goodIn_app (goodIn_of _ (by decide +kernel)) ggL_potential_X3_potential
theorem dL_potential_0 : decode cL_potential 0 = .ok (.aload 4, 2) := by decide +kernel
theorem dL_potential_2 : decode cL_potential 2 = .ok (.iconst 0, 1) := by decide +kernel
theorem dL_potential_3 : decode cL_potential 3 = .ok (.aload_n 0, 1) := by decide +kernel
theorem dL_potential_4 : decode cL_potential 4 = .ok (.iload_n 1, 1) := by decide +kernel
theorem dL_potential_5 : decode cL_potential 5 = .ok (.iload_n 2, 1) := by decide +kernel
theorem dL_potential_6 : decode cL_potential 6 = .ok (.iload_n 3, 1) := by decide +kernel
theorem dL_potential_7 : decode cL_potential 7 = .ok (.invokevirtual 58, 3) := by decide +kernel
theorem dL_potential_10 : decode cL_potential 10 = .ok (.lastore, 1) := by decide +kernel
theorem dL_potential_11 : decode cL_potential 11 = .ok (.goto 15, 3) := by decide +kernel
theorem dL_potential_14 : decode cL_potential 14 = .ok (.astore 5, 2) := by decide +kernel
theorem dL_potential_16 : decode cL_potential 16 = .ok (.iconst 1, 1) := by decide +kernel
theorem dL_potential_17 : decode cL_potential 17 = .ok (.ireturn, 1) := by decide +kernel
theorem dL_potential_18 : decode cL_potential 18 = .ok (.astore 5, 2) := by decide +kernel
theorem dL_potential_20 : decode cL_potential 20 = .ok (.iconst 2, 1) := by decide +kernel
theorem dL_potential_21 : decode cL_potential 21 = .ok (.ireturn, 1) := by decide +kernel
theorem dL_potential_22 : decode cL_potential 22 = .ok (.astore 5, 2) := by decide +kernel
theorem dL_potential_24 : decode cL_potential 24 = .ok (.iconst 3, 1) := by decide +kernel
theorem dL_potential_25 : decode cL_potential 25 = .ok (.ireturn, 1) := by decide +kernel
theorem dL_potential_26 : decode cL_potential 26 = .ok (.iconst 0, 1) := by decide +kernel
theorem dL_potential_27 : decode cL_potential 27 = .ok (.ireturn, 1) := by decide +kernel
set_option maxRecDepth 20000 in
theorem ggL_current_X3_current : GoodIn wsL_current wsX3_current := goodIn_ca (goodIn_ca (goodIn_ca (goodIn_r _ [8, 9, 10, 11, 12, 13, 14, 15, 16, 17, 7, 18, 19, 20, 21, 22, 23, 24, 25, 26, 27, 28, 29, 30, 31, 32, 33, 34, 35, 36, 37, 38, 39, 40, 41, 42, 43, 44, 45, 46, 47, 48, 49, 50, 51, 52, 53, 54, 55, 56, 57, 58, 59, 60, 61, 62, 63, 64, 65, 66, 67, 68, 69, 70, 71, 72, 73, 74, 75, 76, 77, 78, 79, 80, 81, 82, 83, 84, 85, 86, 87, 88, 89, 90, 91, 92, 93, 94, 95, 96, 97, 98, 99, 100, 101, 102, 103, 104, 105, 106, 107, 108, 109, 110, 111, 112, 113, 114, 115, 116, 117, 118, 119, 120, 121, 122, 123, 124, 125, 126, 127, 128, 129, 130, 131, 132, 133, 134, 135, 136, 137, 138, 139, 140, 141, 142, 143, 144, 145, 146, 147, 148, 149, 150, 151, 152, 153, 154, 155, 156, 157, 158, 159, 160, 161, 162, 163, 164, 165, 166, 167, 168, 169, 170, 171, 172, 173, 174, 175, 176, 177, 178, 179, 180, 181, 182, 183, 184, 185, 186, 187, 188] (by decide +kernel) (by decide +kernel)) (goodIn_sub (fun _ h => List.mem_cons_of_mem _ (List.mem_append_left _ (List.mem_append_left _ (List.mem_append_right _ h)))) (by decide +kernel))) (goodIn_sub (fun _ h => List.mem_cons_of_mem _ (List.mem_append_left _ (List.mem_append_right _ h))) (by decide +kernel))) (goodIn_sub (fun _ h => List.mem_cons_of_mem _ (List.mem_append_right _ h)) (by decide +kernel))
set_option maxRecDepth 20000 in
theorem gL_current_X3_current : GoodIn wsL_current (wsV RL 62 RX3 yX3_current wsX3_current) := goodIn_app (goodIn_of _ (by decide +kernel)) ggL_current_X3_current
theorem dL_current_0 : decode cL_current 0 = .ok (.aload 4, 2) := by decide +kernel
theorem dL_current_2 : decode cL_current 2 = .ok (.iconst 0, 1) := by decide +kernel
theorem dL_current_3 : decode cL_current 3 = .ok (.aload_n 0, 1) := by decide +kernel
theorem dL_current_4 : decode cL_current 4 = .ok (.iload_n 1, 1) := by decide +kernel
theorem dL_current_5 : decode cL_current 5 = .ok (.iload_n 2, 1) := by decide +kernel
theorem dL_current_6 : decode cL_current 6 = .ok (.iload_n 3, 1) := by decide +kernel
theorem dL_current_7 : decode cL_current 7 = .ok (.invokevirtual 62, 3) := by decide +kernel
theorem dL_current_10 : decode cL_current 10 = .ok (.lastore, 1) := by decide +kernel
theorem dL_current_11 : decode cL_current 11 = .ok (.goto 15, 3) := by decide +kernel
theorem dL_current_14 : decode cL_current 14 = .ok (.astore 5, 2) := by decide +kernel
theorem dL_current_16 : decode cL_current 16 = .ok (.iconst 1, 1) := by decide +kernel
theorem dL_current_17 : decode cL_current 17 = .ok (.ireturn, 1) := by decide +kernel
theorem dL_current_18 : decode cL_current 18 = .ok (.astore 5, 2) := by decide +kernel
theorem dL_current_20 : decode cL_current 20 = .ok (.iconst 2, 1) := by decide +kernel
theorem dL_current_21 : decode cL_current 21 = .ok (.ireturn, 1) := by decide +kernel
theorem dL_current_22 : decode cL_current 22 = .ok (.astore 5, 2) := by decide +kernel
theorem dL_current_24 : decode cL_current 24 = .ok (.iconst 3, 1) := by decide +kernel
theorem dL_current_25 : decode cL_current 25 = .ok (.ireturn, 1) := by decide +kernel
theorem dL_current_26 : decode cL_current 26 = .ok (.iconst 0, 1) := by decide +kernel
theorem dL_current_27 : decode cL_current 27 = .ok (.ireturn, 1) := by decide +kernel
set_option maxRecDepth 20000 in
theorem ggL_feed_X3_feed : GoodIn wsL_feed wsX3_feed := goodIn_ca (goodIn_ca (goodIn_ca (goodIn_r _ [8, 9, 10, 11, 12, 13, 14, 15, 16, 17, 18, 19, 7, 20, 21, 22, 23, 24, 25, 26, 27, 28, 29, 30, 31, 32, 33, 34, 35, 36, 37, 38, 39, 40, 41, 42, 43, 44, 45, 46, 47, 48, 49, 50, 51, 52, 53, 54, 55, 56, 57, 58, 59, 60, 61, 62, 63, 64, 65, 66, 67, 68, 69, 70, 71, 72, 73, 74, 75, 76, 77, 78, 79, 80, 81, 82, 83, 84, 85, 86, 87, 88, 89, 90, 91, 92, 93, 94, 95, 96, 97, 98, 99, 100, 101, 102, 103, 104, 105, 106, 107, 108, 109, 110, 111, 112, 113, 114, 115, 116, 117, 118, 119, 120, 121, 122, 123, 124, 125, 126, 127, 128, 129, 130, 131, 132, 133, 134, 135, 136, 137, 138, 139, 140, 141, 142, 143, 144, 145, 146, 147, 148, 149, 150, 151, 152, 153, 154, 155, 156, 157, 158, 159, 160, 161, 162, 163, 164, 165, 166, 167, 168, 169, 170, 171, 172, 173, 174, 175, 176, 177, 178, 179, 180, 181, 182, 183, 184] (by decide +kernel) (by decide +kernel)) (goodIn_sub (fun _ h => List.mem_cons_of_mem _ (List.mem_append_left _ (List.mem_append_left _ (List.mem_append_right _ h)))) (by decide +kernel))) (goodIn_sub (fun _ h => List.mem_cons_of_mem _ (List.mem_append_left _ (List.mem_append_right _ h))) (by decide +kernel))) (goodIn_sub (fun _ h => List.mem_cons_of_mem _ (List.mem_append_right _ h)) (by decide +kernel))
set_option maxRecDepth 20000 in
theorem gL_feed_X3_feed : GoodIn wsL_feed (wsV RL 65 RX3 yX3_feed wsX3_feed) := goodIn_app (goodIn_of _ (by decide +kernel)) ggL_feed_X3_feed
theorem dL_feed_0 : decode cL_feed 0 = .ok (.aload 4, 2) := by decide +kernel
theorem dL_feed_2 : decode cL_feed 2 = .ok (.iconst 0, 1) := by decide +kernel
theorem dL_feed_3 : decode cL_feed 3 = .ok (.aload_n 0, 1) := by decide +kernel
theorem dL_feed_4 : decode cL_feed 4 = .ok (.iload_n 1, 1) := by decide +kernel
theorem dL_feed_5 : decode cL_feed 5 = .ok (.iload_n 2, 1) := by decide +kernel
theorem dL_feed_6 : decode cL_feed 6 = .ok (.iload_n 3, 1) := by decide +kernel
theorem dL_feed_7 : decode cL_feed 7 = .ok (.invokevirtual 65, 3) := by decide +kernel
theorem dL_feed_10 : decode cL_feed 10 = .ok (.lastore, 1) := by decide +kernel
theorem dL_feed_11 : decode cL_feed 11 = .ok (.goto 15, 3) := by decide +kernel
theorem dL_feed_14 : decode cL_feed 14 = .ok (.astore 5, 2) := by decide +kernel
theorem dL_feed_16 : decode cL_feed 16 = .ok (.iconst 1, 1) := by decide +kernel
theorem dL_feed_17 : decode cL_feed 17 = .ok (.ireturn, 1) := by decide +kernel
theorem dL_feed_18 : decode cL_feed 18 = .ok (.astore 5, 2) := by decide +kernel
theorem dL_feed_20 : decode cL_feed 20 = .ok (.iconst 2, 1) := by decide +kernel
theorem dL_feed_21 : decode cL_feed 21 = .ok (.ireturn, 1) := by decide +kernel
theorem dL_feed_22 : decode cL_feed 22 = .ok (.astore 5, 2) := by decide +kernel
theorem dL_feed_24 : decode cL_feed 24 = .ok (.iconst 3, 1) := by decide +kernel
theorem dL_feed_25 : decode cL_feed 25 = .ok (.ireturn, 1) := by decide +kernel
theorem dL_feed_26 : decode cL_feed 26 = .ok (.iconst 0, 1) := by decide +kernel
theorem dL_feed_27 : decode cL_feed 27 = .ok (.ireturn, 1) := by decide +kernel
set_option maxRecDepth 20000 in
theorem ggL_resistance_X3_resistance : GoodIn wsL_resistance wsX3_resistance := goodIn_ca (goodIn_ca (goodIn_ca (goodIn_r _ [8, 9, 10, 11, 12, 13, 14, 15, 7, 16, 17, 18, 19, 20, 21, 22, 23, 24, 25, 26, 27, 28, 29, 30, 31, 32, 33, 34, 35, 36, 37, 38, 39, 40, 41, 42, 43, 44, 45, 46, 47, 48, 49, 50, 51, 52, 53, 54, 55, 56, 57, 58, 59, 60, 61, 62, 63, 64, 65, 66, 67, 68, 69, 70, 71, 72, 73, 74, 75, 76, 77, 78, 79, 80, 81, 82, 83, 84, 85, 86, 87, 88, 89, 90, 91, 92, 93, 94, 95, 96, 97, 98, 99, 100, 101, 102, 103, 104, 105, 106, 107, 108, 109, 110, 111, 112, 113, 114, 115, 116, 117, 118, 119, 120, 121, 122, 123, 124, 125, 126, 127, 128, 129, 130, 131, 132, 133, 134, 135, 136, 137, 138, 139, 140, 141, 142, 143, 144, 145, 146, 147, 148, 149, 150, 151, 152, 153, 154, 155, 156, 157, 158, 159, 160, 161, 162, 163, 164, 165, 166, 167] (by decide +kernel) (by decide +kernel)) (goodIn_sub (fun _ h => List.mem_cons_of_mem _ (List.mem_append_left _ (List.mem_append_left _ (List.mem_append_right _ h)))) (by decide +kernel))) (goodIn_sub (fun _ h => List.mem_cons_of_mem _ (List.mem_append_left _ (List.mem_append_right _ h))) (by decide +kernel))) (goodIn_sub (fun _ h => List.mem_cons_of_mem _ (List.mem_append_right _ h)) (by decide +kernel))
set_option maxRecDepth 20000 in
theorem gL_resistance_X3_resistance : GoodIn wsL_resistance (wsV RL 68 RX3 yX3_resistance wsX3_resistance) := goodIn_app (goodIn_of _ (by decide +kernel)) ggL_resistance_X3_resistance
theorem dL_resistance_0 : decode cL_resistance 0 = .ok (.aload 5, 2) := by decide +kernel
theorem dL_resistance_2 : decode cL_resistance 2 = .ok (.iconst 0, 1) := by decide +kernel
theorem dL_resistance_3 : decode cL_resistance 3 = .ok (.aload_n 0, 1) := by decide +kernel
theorem dL_resistance_4 : decode cL_resistance 4 = .ok (.iload_n 1, 1) := by decide +kernel
theorem dL_resistance_5 : decode cL_resistance 5 = .ok (.iload_n 2, 1) := by decide +kernel
theorem dL_resistance_6 : decode cL_resistance 6 = .ok (.iload_n 3, 1) := by decide +kernel
theorem dL_resistance_7 : decode cL_resistance 7 = .ok (.iload 4, 2) := by decide +kernel
theorem dL_resistance_9 : decode cL_resistance 9 = .ok (.invokevirtual 68, 3) := by decide +kernel
theorem dL_resistance_12 : decode cL_resistance 12 = .ok (.lastore, 1) := by decide +kernel
theorem dL_resistance_13 : decode cL_resistance 13 = .ok (.goto 15, 3) := by decide +kernel
theorem dL_resistance_16 : decode cL_resistance 16 = .ok (.astore 6, 2) := by decide +kernel
theorem dL_resistance_18 : decode cL_resistance 18 = .ok (.iconst 1, 1) := by decide +kernel
theorem dL_resistance_19 : decode cL_resistance 19 = .ok (.ireturn, 1) := by decide +kernel
theorem dL_resistance_20 : decode cL_resistance 20 = .ok (.astore 6, 2) := by decide +kernel
theorem dL_resistance_22 : decode cL_resistance 22 = .ok (.iconst 2, 1) := by decide +kernel
theorem dL_resistance_23 : decode cL_resistance 23 = .ok (.ireturn, 1) := by decide +kernel
theorem dL_resistance_24 : decode cL_resistance 24 = .ok (.astore 6, 2) := by decide +kernel
theorem dL_resistance_26 : decode cL_resistance 26 = .ok (.iconst 3, 1) := by decide +kernel
theorem dL_resistance_27 : decode cL_resistance 27 = .ok (.ireturn, 1) := by decide +kernel
theorem dL_resistance_28 : decode cL_resistance 28 = .ok (.iconst 0, 1) := by decide +kernel
theorem dL_resistance_29 : decode cL_resistance 29 = .ok (.ireturn, 1) := by decide +kernel
set_option maxRecDepth 20000 in
theorem ggL_power_X3_power : GoodIn wsL_power wsX3_power := goodIn_ca (goodIn_r _ [6, 7, 8, 9, 10, 11, 12, 13, 14, 5, 15, 16, 17, 18, 19, 20, 21, 22, 23, 24, 25, 26, 27, 28, 29, 30, 31, 32, 33, 34, 35, 36, 37, 38, 39, 40, 41, 42, 43, 44, 45, 46, 47, 48, 49, 50, 51, 52, 53, 54, 55, 56, 57, 58, 59, 60, 61, 62, 63, 64, 65, 66, 67, 68, 69, 70, 71, 72, 73, 74, 75, 76, 77, 78, 79, 80, 81, 82, 83, 84, 85, 86, 87, 88, 89, 90, 91, 92, 93, 94, 95, 96, 97, 98, 99, 100, 101, 102, 103, 104, 105, 106, 107, 108, 109, 110, 111, 112, 113, 114, 115, 116, 117, 118, 119, 120, 121, 122, 123, 124, 125, 126, 127, 128, 129, 130, 131, 132, 133, 134, 135, 136, 137, 138, 139, 140, 141, 142, 143, 144, 145, 146, 147, 148, 149, 150, 151, 152, 153, 154, 155, 156, 157, 158, 159, 160, 161, 162, 163, 164, 165, 166, 167, 168, 169, 170, 171, 172, 173, 174] (by decide +kernel) (by decide +kernel)) (goodIn_sub (fun _ h => List.mem_cons_of_mem _ (List.mem_append_right _ h)) (by decide +kernel))
set_option maxRecDepth 20000 in
theorem gL_power_X3_power : GoodIn wsL_power (wsV RL 72 RX3 yX3_power wsX3_power) := goodIn_app (goodIn_of _ (by decide +kernel)) ggL_power_X3_power
theorem dL_power_0 : decode cL_power 0 = .ok (.aload_n 2, 1) := by decide +kernel
theorem dL_power_1 : decode cL_power 1 = .ok (.iconst 0, 1) := by decide +kernel
theorem dL_power_2 : decode cL_power 2 = .ok (.aload_n 0, 1) := by decide +kernel
theorem dL_power_3 : decode cL_power 3 = .ok (.iload_n 1, 1) := by decide +kernel
theorem dL_power_4 : decode cL_power 4 = .ok (.invokevirtual 72, 3) := by decide +kernel
theorem dL_power_7 : decode cL_power 7 = .ok (.dastore, 1) := by decide +kernel
theorem dL_power_8 : decode cL_power 8 = .ok (.goto 6, 3) := by decide +kernel
theorem dL_power_11 : decode cL_power 11 = .ok (.astore_n 3, 1) := by decide +kernel
theorem dL_power_12 : decode cL_power 12 = .ok (.iconst 1, 1) := by decide +kernel
theorem dL_power_13 : decode cL_power 13 = .ok (.ireturn, 1) := by decide +kernel
theorem dL_power_14 : decode cL_power 14 = .ok (.iconst 0, 1) := by decide +kernel
theorem dL_power_15 : decode cL_power 15 = .ok (.ireturn, 1) := by decide +kernel
set_option maxRecDepth 20000 in
theorem ggL_nextToggle_X3_nextToggle : GoodIn wsL_nextToggle wsX3_nextToggle := goodIn_ca (goodIn_r _ [6, 7, 8, 5, 9, 10, 11, 12, 13, 14, 15, 16, 17, 18, 19, 20, 21, 22, 23, 24, 25, 26, 27, 28, 29, 30, 31, 32, 33, 34, 35, 36, 37, 38, 39, 40, 41, 42, 43, 44, 45, 46, 47, 48, 49, 50, 51, 52, 53, 54, 55, 56, 57, 58, 59, 60, 61, 62, 63, 64, 65, 66, 67, 68, 69] (by decide +kernel) (by decide +kernel)) (goodIn_sub (fun _ h => List.mem_cons_of_mem _ (List.mem_append_right _ h)) (by decide +kernel))
set_option maxRecDepth 20000 in
theorem gL_nextToggle_X3_nextToggle : GoodIn wsL_nextToggle (wsV RL 76 RX3 yX3_nextToggle wsX3_nextToggle) := goodIn_app (goodIn_of _ (by decide +kernel)) ggL_nextToggle_X3_nextToggle
theorem dL_nextToggle_0 : decode cL_nextToggle 0 = .ok (.aload_n 2, 1) := by decide +kernel
theorem dL_nextToggle_1 : decode cL_nextToggle 1 = .ok (.iconst 0, 1) := by decide +kernel
theorem dL_nextToggle_2 : decode cL_nextToggle 2 = .ok (.aload_n 0, 1) := by decide +kernel
theorem dL_nextToggle_3 : decode cL_nextToggle 3 = .ok (.iload_n 1, 1) := by decide +kernel
theorem dL_nextToggle_4 : decode cL_nextToggle 4 = .ok (.invokevirtual 76, 3) := by decide +kernel
theorem dL_nextToggle_7 : decode cL_nextToggle 7 = .ok (.i2l, 1) := by decide +kernel
theorem dL_nextToggle_8 : decode cL_nextToggle 8 = .ok (.lastore, 1) := by decide +kernel
theorem dL_nextToggle_9 : decode cL_nextToggle 9 = .ok (.goto 6, 3) := by decide +kernel
theorem dL_nextToggle_12 : decode cL_nextToggle 12 = .ok (.astore_n 3, 1) := by decide +kernel
theorem dL_nextToggle_13 : decode cL_nextToggle 13 = .ok (.iconst 1, 1) := by decide +kernel
theorem dL_nextToggle_14 : decode cL_nextToggle 14 = .ok (.ireturn, 1) := by decide +kernel
theorem dL_nextToggle_15 : decode cL_nextToggle 15 = .ok (.iconst 0, 1) := by decide +kernel
theorem dL_nextToggle_16 : decode cL_nextToggle 16 = .ok (.ireturn, 1) := by decide +kernel
set_option maxRecDepth 20000 in
theorem ggL_probe_X3_probe : GoodIn wsL_probe wsX3_probe := goodIn_ca (goodIn_ca (goodIn_r _ [7, 8, 9, 10, 11, 12, 13, 6, 14, 15, 16, 17, 18, 19, 20, 21, 22, 23, 24, 25, 26, 27, 28, 29, 30, 31, 32, 33, 34, 35, 36, 37, 38, 39, 40, 41, 42, 43, 44, 45, 46, 47, 48, 49, 50, 51, 52, 53, 54, 55, 56, 57, 58, 59, 60, 61, 62, 63, 64, 65, 66, 67, 68, 69, 70, 71, 72, 73, 74, 75, 76, 77, 78, 79, 80, 81, 82, 83, 84, 85, 86, 87, 88, 89, 90, 91, 92, 93, 94, 95, 96, 97, 98, 99, 100, 101, 102, 103, 104, 105, 106, 107, 108, 109, 110, 111, 112, 113, 114, 115, 116, 117, 118, 119, 120, 121, 122, 123, 124, 125, 126, 127, 128, 129, 130, 131, 132, 133, 134, 135, 136, 137, 138, 139, 140, 141, 142, 143, 144, 145, 146, 147, 148, 149, 150, 151, 152, 153, 154, 155, 156, 157, 158, 159, 160, 161, 162, 163, 164, 165, 166, 167, 168, 169, 170, 171, 172, 173, 174, 175, 176, 177, 178, 179, 180, 181, 182, 183, 184, 185, 186, 187, 188, 189, 190, 191, 192, 193] (by decide +kernel) (by decide +kernel)) (goodIn_sub (fun _ h => List.mem_cons_of_mem _ (List.mem_append_left _ (List.mem_append_right _ h))) (by decide +kernel))) (goodIn_sub (fun _ h => List.mem_cons_of_mem _ (List.mem_append_right _ h)) (by decide +kernel))
set_option maxRecDepth 20000 in
theorem gL_probe_X3_probe : GoodIn wsL_probe (wsV RL 79 RX3 yX3_probe wsX3_probe) := goodIn_app (goodIn_of _ (by decide +kernel)) ggL_probe_X3_probe
theorem dL_probe_0 : decode cL_probe 0 = .ok (.aload 5, 2) := by decide +kernel
theorem dL_probe_2 : decode cL_probe 2 = .ok (.iconst 0, 1) := by decide +kernel
theorem dL_probe_3 : decode cL_probe 3 = .ok (.aload_n 0, 1) := by decide +kernel
theorem dL_probe_4 : decode cL_probe 4 = .ok (.iload_n 1, 1) := by decide +kernel
theorem dL_probe_5 : decode cL_probe 5 = .ok (.iload_n 2, 1) := by decide +kernel
theorem dL_probe_6 : decode cL_probe 6 = .ok (.iload_n 3, 1) := by decide +kernel
theorem dL_probe_7 : decode cL_probe 7 = .ok (.iload 4, 2) := by decide +kernel
theorem dL_probe_9 : decode cL_probe 9 = .ok (.invokevirtual 79, 3) := by decide +kernel
theorem dL_probe_12 : decode cL_probe 12 = .ok (.i2l, 1) := by decide +kernel
theorem dL_probe_13 : decode cL_probe 13 = .ok (.lastore, 1) := by decide +kernel
theorem dL_probe_14 : decode cL_probe 14 = .ok (.goto 11, 3) := by decide +kernel
theorem dL_probe_17 : decode cL_probe 17 = .ok (.astore 6, 2) := by decide +kernel
theorem dL_probe_19 : decode cL_probe 19 = .ok (.iconst 1, 1) := by decide +kernel
theorem dL_probe_20 : decode cL_probe 20 = .ok (.ireturn, 1) := by decide +kernel
theorem dL_probe_21 : decode cL_probe 21 = .ok (.astore 6, 2) := by decide +kernel
theorem dL_probe_23 : decode cL_probe 23 = .ok (.iconst 2, 1) := by decide +kernel
theorem dL_probe_24 : decode cL_probe 24 = .ok (.ireturn, 1) := by decide +kernel
theorem dL_probe_25 : decode cL_probe 25 = .ok (.iconst 0, 1) := by decide +kernel
theorem dL_probe_26 : decode cL_probe 26 = .ok (.ireturn, 1) := by decide +kernel
set_option maxRecDepth 20000 in
theorem ggL_compare_X3_compare : GoodIn wsL_compare wsX3_compare := goodIn_ca (goodIn_ca (goodIn_ca (goodIn_r _ [8, 9, 10, 11, 12, 13, 14, 7, 15, 16, 17, 18, 19, 20, 21, 22, 23, 24, 25, 26, 27, 28, 29, 30, 31, 32, 33, 34, 35, 36, 37, 38, 39, 40, 41, 42, 43, 44, 45, 46, 47, 48, 49, 50, 51, 52, 53, 54, 55, 56, 57, 58, 59, 60, 61, 62, 63, 64, 65, 66, 67, 68, 69, 70, 71, 72, 73, 74, 75, 76, 77, 78, 79, 80, 81, 82, 83, 84, 85, 86, 87, 88, 89, 90, 91, 92, 93, 94, 95, 96, 97, 98, 99, 100, 101, 102, 103, 104, 105, 106, 107, 108, 109, 110, 111, 112, 113, 114, 115, 116, 117, 118, 119, 120, 121, 122, 123, 124, 125, 126, 127, 128, 129, 130, 131, 132, 133, 134, 135, 136, 137, 138, 139, 140, 141, 142, 143, 144, 145, 146, 147, 148, 149, 150, 151, 152, 153, 154, 155, 156, 157, 158, 159, 160, 161, 162, 163, 164, 165, 166, 167, 168, 169, 170, 171, 172, 173, 174, 175, 176, 177, 178, 179, 180, 181, 182, 183, 184, 185, 186, 187, 188] (by decide +kernel) (by decide +kernel)) (goodIn_sub (fun _ h => List.mem_cons_of_mem _ (List.mem_append_left _ (List.mem_append_left _ (List.mem_append_right _ h)))) (by decide +kernel))) (goodIn_sub (fun _ h => List.mem_cons_of_mem _ (List.mem_append_left _ (List.mem_append_right _ h))) (by decide +kernel))) (goodIn_sub (fun _ h => List.mem_cons_of_mem _ (List.mem_append_right _ h)) (by decide +kernel))
set_option maxRecDepth 20000 in
theorem gL_compare_X3_compare : GoodIn wsL_compare (wsV RL 83 RX3 yX3_compare wsX3_compare) := goodIn_app (goodIn_of _ (by decide +kernel)) ggL_compare_X3_compare
theorem dL_compare_0 : decode cL_compare 0 = .ok (.aload 5, 2) := by decide +kernel
theorem dL_compare_2 : decode cL_compare 2 = .ok (.iconst 0, 1) := by decide +kernel
theorem dL_compare_3 : decode cL_compare 3 = .ok (.aload_n 0, 1) := by decide +kernel
theorem dL_compare_4 : decode cL_compare 4 = .ok (.iload_n 1, 1) := by decide +kernel
theorem dL_compare_5 : decode cL_compare 5 = .ok (.iload_n 2, 1) := by decide +kernel
theorem dL_compare_6 : decode cL_compare 6 = .ok (.iload_n 3, 1) := by decide +kernel
theorem dL_compare_7 : decode cL_compare 7 = .ok (.iload 4, 2) := by decide +kernel
theorem dL_compare_9 : decode cL_compare 9 = .ok (.invokevirtual 83, 3) := by decide +kernel
theorem dL_compare_12 : decode cL_compare 12 = .ok (.i2l, 1) := by decide +kernel
theorem dL_compare_13 : decode cL_compare 13 = .ok (.lastore, 1) := by decide +kernel
theorem dL_compare_14 : decode cL_compare 14 = .ok (.goto 15, 3) := by decide +kernel
theorem dL_compare_17 : decode cL_compare 17 = .ok (.astore 6, 2) := by decide +kernel
theorem dL_compare_19 : decode cL_compare 19 = .ok (.iconst 1, 1) := by decide +kernel
theorem dL_compare_20 : decode cL_compare 20 = .ok (.ireturn, 1) := by decide +kernel
theorem dL_compare_21 : decode cL_compare 21 = .ok (.astore 6, 2) := by decide +kernel
theorem dL_compare_23 : decode cL_compare 23 = .ok (.iconst 2, 1) := by decide +kernel
theorem dL_compare_24 : decode cL_compare 24 = .ok (.ireturn, 1) := by decide +kernel
theorem dL_compare_25 : decode cL_compare 25 = .ok (.astore 6, 2) := by decide +kernel
theorem dL_compare_27 : decode cL_compare 27 = .ok (.iconst 3, 1) := by decide +kernel
theorem dL_compare_28 : decode cL_compare 28 = .ok (.ireturn, 1) := by decide +kernel
theorem dL_compare_29 : decode cL_compare 29 = .ok (.iconst 0, 1) := by decide +kernel
theorem dL_compare_30 : decode cL_compare 30 = .ok (.ireturn, 1) := by decide +kernel
set_option maxRecDepth 20000 in
theorem ggL_levels_X3_levels : GoodIn wsL_levels wsX3_levels := goodIn_ca (goodIn_r _ [6, 7, 8, 9, 5, 10, 11, 12, 13, 14, 15, 16, 17, 18, 19, 20, 21, 22, 23, 24, 25, 26, 27, 28, 29, 30, 31, 32, 33, 34, 35, 36, 37, 38, 39, 40, 41, 42, 43, 44, 45, 46, 47, 48, 49, 50, 51, 52, 53, 54, 55, 56, 57, 58, 59, 60, 61, 62, 63, 64, 65, 66, 67, 68, 69, 70, 71, 72, 73, 74, 75, 76, 77, 78, 79, 80, 81, 82, 83, 84, 85, 86, 87, 88, 89, 90, 91, 92, 93, 94, 95, 96, 97, 98, 99, 100, 101, 102, 103, 104, 105, 106, 107, 108, 109, 110, 111, 112, 113, 114, 115, 116, 117, 118, 119, 120, 121, 122, 123, 124, 125, 126, 127, 128, 129, 130, 131, 132, 133, 134, 135, 136, 137, 138, 139, 140, 141, 142, 143, 144, 145, 146, 147, 148, 149, 150, 151, 152, 153, 154, 155, 156, 157, 158, 159, 160, 161, 162, 163] (by decide +kernel) (by decide +kernel)) (goodIn_sub (fun _ h => List.mem_cons_of_mem _ (List.mem_append_right _ h)) (by decide +kernel))
set_option maxRecDepth 20000 in
theorem gL_levels_X3_levels : GoodIn wsL_levels (wsV RL 87 RX3 yX3_levels wsX3_levels) := goodIn_app (goodIn_of _ (by decide +kernel)) ggL_levels_X3_levels
theorem dL_levels_0 : decode cL_levels 0 = .ok (.aload_n 2, 1) := by decide +kernel
theorem dL_levels_1 : decode cL_levels 1 = .ok (.iconst 0, 1) := by decide +kernel
theorem dL_levels_2 : decode cL_levels 2 = .ok (.aload_n 0, 1) := by decide +kernel
theorem dL_levels_3 : decode cL_levels 3 = .ok (.iload_n 1, 1) := by decide +kernel
theorem dL_levels_4 : decode cL_levels 4 = .ok (.invokevirtual 87, 3) := by decide +kernel
theorem dL_levels_7 : decode cL_levels 7 = .ok (.i2l, 1) := by decide +kernel
theorem dL_levels_8 : decode cL_levels 8 = .ok (.lastore, 1) := by decide +kernel
theorem dL_levels_9 : decode cL_levels 9 = .ok (.goto 6, 3) := by decide +kernel
theorem dL_levels_12 : decode cL_levels 12 = .ok (.astore_n 3, 1) := by decide +kernel
theorem dL_levels_13 : decode cL_levels 13 = .ok (.iconst 1, 1) := by decide +kernel
theorem dL_levels_14 : decode cL_levels 14 = .ok (.ireturn, 1) := by decide +kernel
theorem dL_levels_15 : decode cL_levels 15 = .ok (.iconst 0, 1) := by decide +kernel
theorem dL_levels_16 : decode cL_levels 16 = .ok (.ireturn, 1) := by decide +kernel
set_option maxRecDepth 20000 in
theorem ggL_law_X3_init : GoodIn wsL_law wsX3_init := goodIn_r _ [10, 11, 12, 13, 14, 15, 16, 17, 18, 19, 20, 21, 22, 23, 24, 25, 26, 27, 28, 29, 30, 31, 32, 33, 34, 35, 36, 37, 38, 39, 40, 41, 42, 43, 6, 44, 45, 46, 47, 48, 743, 744, 745, 719, 720, 721, 722, 746, 747, 748, 749, 750] (by decide +kernel) (by decide +kernel)
set_option maxRecDepth 20000 in
theorem gL_law_X3_init : GoodIn wsL_law (wsX3_init) := ggL_law_X3_init
set_option maxRecDepth 20000 in
theorem ggL_law_X4_init : GoodIn wsL_law wsX4_init := goodIn_r _ [51, 52, 12, 13, 53, 54, 19, 55, 56, 57, 58, 59, 60, 61, 62, 63, 6, 64, 65, 66, 67, 68, 723, 724, 725, 726, 727, 728, 729, 730, 731, 732, 733, 734, 735, 736, 737, 738, 739, 740, 741, 742] (by decide +kernel) (by decide +kernel)
set_option maxRecDepth 20000 in
theorem gL_law_X4_init : GoodIn wsL_law (wsX4_init) := ggL_law_X4_init
set_option maxRecDepth 20000 in
theorem ggL_law_L_addNode : GoodIn wsL_law wsL_addNode := goodIn_ca (goodIn_r _ [72, 73, 74, 75, 76, 2, 77, 78, 79, 17, 80, 81, 82, 83, 84, 85, 16, 86, 87, 88, 89, 90, 12, 13, 91, 92, 93, 94, 95, 96, 97, 98, 29, 99, 100, 101, 102, 103, 104, 105, 106, 107, 108, 109, 110, 28, 111, 112, 113, 114, 115, 116, 117, 118, 119, 120, 121, 122, 123, 124, 125, 126, 127, 128, 129, 130, 131, 132, 133, 134, 135, 136, 137, 138, 139, 140, 141, 142, 143, 144, 719, 720, 721, 722, 751, 752, 743, 744, 745] (by decide +kernel) (by decide +kernel)) (goodIn_sub (fun _ h => List.mem_append_left _ (List.mem_append_left _ (List.mem_append_right _ h))) (by decide +kernel))
set_option maxRecDepth 20000 in
theorem gL_law_L_addNode : GoodIn wsL_law (va_wsS RL 94 yL_addNode wsL_addNode) := goodIn_app (goodIn_of _ (by decide +kernel)) ggL_law_L_addNode
set_option maxRecDepth 20000 in
theorem ggL_law_X4_addNode : GoodIn wsL_law wsX4_addNode := goodIn_r _ [148, 149, 150, 54, 151, 152, 153, 5, 154, 723, 724, 725, 726, 727, 728, 729, 730, 731, 732, 733, 734, 735, 736, 737, 738, 739, 740, 741, 742] (by decide +kernel) (by decide +kernel)
set_option maxRecDepth 20000 in
theorem gL_law_X4_addNode : GoodIn wsL_law (wsV RL 99 RX4 yX4_addNode wsX4_addNode) := goodIn_app (goodIn_of _ (by decide +kernel)) ggL_law_X4_addNode
set_option maxRecDepth 20000 in
theorem ggL_law_X4_thrown : GoodIn wsL_law wsX4_thrown := goodIn_r _ [158, 149, 723, 724, 725, 726, 727, 728, 729, 730, 731, 732, 733, 734, 735, 736, 737, 738, 739, 740, 741, 742] (by decide +kernel) (by decide +kernel)
set_option maxRecDepth 20000 in
theorem gL_law_X4_thrown : GoodIn wsL_law (wsV RL 100 RX4 yX4_thrown wsX4_thrown) := goodIn_app (goodIn_of _ (by decide +kernel)) ggL_law_X4_thrown
set_option maxRecDepth 20000 in
theorem ggL_law_L_rail : GoodIn wsL_law wsL_rail := goodIn_ca (goodIn_ca (goodIn_r _ [161, 162, 163, 164, 165, 166, 2, 167, 168, 169, 17, 170, 171, 172, 173, 174, 175, 176, 177, 178, 83, 84, 85, 16, 86, 87, 179, 180, 181, 182, 183, 184, 185, 186, 187, 188, 189, 190, 191, 192, 193, 194, 29, 719, 720, 721, 722, 751, 752, 743, 744, 745] (by decide +kernel) (by decide +kernel)) (goodIn_sub (fun _ h => List.mem_append_left _ (List.mem_append_right _ h)) (by decide +kernel))) (goodIn_sub (fun _ h => List.mem_append_right _ h) (by decide +kernel))
set_option maxRecDepth 20000 in
theorem gL_law_L_rail : GoodIn wsL_law (va_wsS RL 103 yL_rail wsL_rail) := goodIn_app (goodIn_of _ (by decide +kernel)) ggL_law_L_rail
set_option maxRecDepth 20000 in
theorem ggL_law_X4_rail : GoodIn wsL_law wsX4_rail := goodIn_r _ [198, 149, 54, 55, 199, 200, 201, 5, 202, 150, 203, 204, 205, 723, 724, 725, 726, 727, 728, 729, 730, 731, 732, 733, 734, 735, 736, 737, 738, 739, 740, 741, 742] (by decide +kernel) (by decide +kernel)
set_option maxRecDepth 20000 in
theorem gL_law_X4_rail : GoodIn wsL_law (wsV RL 106 RX4 yX4_rail wsX4_rail) := goodIn_app (goodIn_of _ (by decide +kernel)) ggL_law_X4_rail
set_option maxRecDepth 20000 in
theorem ggL_law_L_addElement : GoodIn wsL_law wsL_addElement := goodIn_ca (goodIn_ca (goodIn_ca (goodIn_r _ [208, 162, 163, 73, 209, 210, 211, 2, 212, 168, 169, 78, 79, 18, 213, 214, 215, 173, 174, 175, 176, 177, 178, 17, 83, 84, 85, 16, 86, 87, 216, 217, 218, 219, 220, 221, 222, 12, 13, 223, 224, 19, 225, 226, 227, 228, 229, 93, 94, 95, 96, 97, 98, 29, 99, 100, 101, 102, 103, 104, 105, 106, 107, 108, 109, 110, 28, 111, 112, 113, 114, 115, 116, 117, 118, 119, 120, 121, 122, 123, 124, 125, 126, 127, 128, 129, 130, 131, 132, 133, 134, 135, 136, 137, 138, 139, 140, 141, 142, 143, 144, 719, 720, 721, 722, 753, 754, 755, 756, 757, 758, 759, 743, 744, 745] (by decide +kernel) (by decide +kernel)) (goodIn_sub (fun _ h => List.mem_append_left _ (List.mem_append_right _ h)) (by decide +kernel))) (goodIn_sub (fun _ h => List.mem_append_left _ (List.mem_append_left _ (List.mem_append_right _ h))) (by decide +kernel))) (goodIn_sub (fun _ h => List.mem_append_right _ h) (by decide +kernel))
set_option maxRecDepth 20000 in
theorem gL_law_L_addElement : GoodIn wsL_law (va_wsS RL 107 yL_addElement wsL_addElement) := goodIn_app (goodIn_of _ (by decide +kernel)) ggL_law_L_addElement
set_option maxRecDepth 20000 in
theorem ggL_law_X4_addElement : GoodIn wsL_law wsX4_addElement := goodIn_r _ [233, 149, 234, 56, 57, 58, 59, 60, 61, 199, 200, 201, 5, 202, 150, 203, 204, 205, 151, 152, 153, 154, 235, 236, 237, 723, 724, 725, 726, 727, 728, 729, 730, 731, 732, 733, 734, 735, 736, 737, 738, 739, 740, 741, 742] (by decide +kernel) (by decide +kernel)
set_option maxRecDepth 20000 in
theorem gL_law_X4_addElement : GoodIn wsL_law (wsV RL 110 RX4 yX4_addElement wsX4_addElement) := goodIn_app (goodIn_of _ (by decide +kernel)) ggL_law_X4_addElement
set_option maxRecDepth 20000 in
theorem ggL_law_L_resize : GoodIn wsL_law wsL_resize := goodIn_ca (goodIn_ca (goodIn_r _ [240, 162, 163, 241, 242, 243, 2, 244, 18, 245, 246, 247, 248, 249, 250, 251, 177, 178, 83, 84, 85, 16, 86, 87, 179, 180, 181, 182, 183, 184, 185, 186, 187, 188, 189, 190, 191, 192, 193, 194, 29, 216, 217, 218, 168, 169, 719, 720, 721, 722, 753, 754, 755, 756, 757, 758, 759, 743, 744, 745] (by decide +kernel) (by decide +kernel)) (goodIn_sub (fun _ h => List.mem_append_right _ h) (by decide +kernel))) (goodIn_sub (fun _ h => List.mem_append_left _ (List.mem_append_right _ h)) (by decide +kernel))
set_option maxRecDepth 20000 in
theorem gL_law_L_resize : GoodIn wsL_law (va_wsS RL 111 yL_resize wsL_resize) := goodIn_app (goodIn_of _ (by decide +kernel)) ggL_law_L_resize
set_option maxRecDepth 20000 in
theorem ggL_law_X4_resize : GoodIn wsL_law wsX4_resize := goodIn_r _ [255, 149, 56, 59, 256, 257, 258, 5, 259, 234, 203, 204, 205, 151, 152, 153, 154, 235, 236, 237, 723, 724, 725, 726, 727, 728, 729, 730, 731, 732, 733, 734, 735, 736, 737, 738, 739, 740, 741, 742] (by decide +kernel) (by decide +kernel)
set_option maxRecDepth 20000 in
theorem gL_law_X4_resize : GoodIn wsL_law (wsV RL 114 RX4 yX4_resize wsX4_resize) := goodIn_app (goodIn_of _ (by decide +kernel)) ggL_law_X4_resize
set_option maxRecDepth 20000 in
theorem ggL_law_L_begin : GoodIn wsL_law wsL_begin := goodIn_ca (goodIn_r _ [262, 162, 263, 264, 265, 2, 266, 18, 245, 267, 248, 249, 250, 251, 177, 178, 83, 84, 85, 16, 86, 87, 179, 180, 181, 182, 183, 184, 185, 186, 187, 188, 189, 190, 191, 192, 193, 194, 29, 719, 720, 721, 722, 753, 754, 755, 756, 757, 758, 759, 743, 744, 745] (by decide +kernel) (by decide +kernel)) (goodIn_sub (fun _ h => List.mem_append_right _ h) (by decide +kernel))
set_option maxRecDepth 20000 in
theorem gL_law_L_begin : GoodIn wsL_law (va_wsS RL 115 yL_begin wsL_begin) := goodIn_app (goodIn_of _ (by decide +kernel)) ggL_law_L_begin
set_option maxRecDepth 20000 in
theorem ggL_law_X4_begin : GoodIn wsL_law wsX4_begin := goodIn_r _ [271, 149, 60, 256, 257, 258, 5, 259, 234, 203, 204, 205, 723, 724, 725, 726, 727, 728, 729, 730, 731, 732, 733, 734, 735, 736, 737, 738, 739, 740, 741, 742] (by decide +kernel) (by decide +kernel)
set_option maxRecDepth 20000 in
theorem gL_law_X4_begin : GoodIn wsL_law (wsV RL 118 RX4 yX4_begin wsX4_begin) := goodIn_app (goodIn_of _ (by decide +kernel)) ggL_law_X4_begin
set_option maxRecDepth 20000 in
theorem ggL_law_L_toggle : GoodIn wsL_law wsL_toggle := goodIn_ca (goodIn_ca (goodIn_ca (goodIn_r _ [274, 162, 163, 73, 275, 276, 277, 2, 278, 168, 169, 78, 79, 18, 245, 279, 248, 249, 250, 251, 177, 178, 83, 84, 85, 16, 86, 87, 179, 180, 181, 182, 183, 184, 185, 186, 187, 188, 189, 190, 191, 192, 193, 194, 29, 280, 281, 282, 215, 283, 284, 285, 286, 287, 224, 225, 288, 289, 290, 291, 292, 293, 294, 295, 719, 720, 721, 722, 753, 754, 755, 756, 757, 758, 759, 743, 744, 745] (by decide +kernel) (by decide +kernel)) (goodIn_sub (fun _ h => List.mem_append_left _ (List.mem_append_right _ h)) (by decide +kernel))) (goodIn_sub (fun _ h => List.mem_append_left _ (List.mem_append_left _ (List.mem_append_right _ h))) (by decide +kernel))) (goodIn_sub (fun _ h => List.mem_append_right _ h) (by decide +kernel))
set_option maxRecDepth 20000 in
theorem gL_law_L_toggle : GoodIn wsL_law (va_wsS RL 119 yL_toggle wsL_toggle) := goodIn_app (goodIn_of _ (by decide +kernel)) ggL_law_L_toggle
set_option maxRecDepth 20000 in
theorem ggL_law_X4_toggle : GoodIn wsL_law wsX4_toggle := goodIn_r _ [299, 149, 61, 62, 300, 142, 143, 144, 256, 257, 258, 5, 259, 234, 203, 204, 205, 151, 152, 153, 154, 723, 724, 725, 726, 727, 728, 729, 730, 731, 732, 733, 734, 735, 736, 737, 738, 739, 740, 741, 742] (by decide +kernel) (by decide +kernel)
set_option maxRecDepth 20000 in
theorem gL_law_X4_toggle : GoodIn wsL_law (wsV RL 121 RX4 yX4_toggle wsX4_toggle) := goodIn_app (goodIn_of _ (by decide +kernel)) ggL_law_X4_toggle
set_option maxRecDepth 20000 in
theorem ggL_law_L_count : GoodIn wsL_law wsL_count := goodIn_ca (goodIn_r _ [303, 162, 304, 305, 306, 2, 307, 177, 178, 308, 309, 310, 311, 17, 18, 83, 84, 85, 16, 86, 87, 312, 313, 314, 315, 170, 171, 179, 180, 181, 182, 183, 184, 185, 186, 187, 188, 189, 190, 191, 192, 193, 194, 29, 316, 317, 318, 319, 245, 279, 719, 720, 721, 722, 743, 744, 745, 751, 752, 753, 754, 755, 756, 757, 758, 759] (by decide +kernel) (by decide +kernel)) (goodIn_sub (fun _ h => List.mem_append_right _ h) (by decide +kernel))
set_option maxRecDepth 20000 in
theorem gL_law_L_count : GoodIn wsL_law (va_wsS RL 122 yL_count wsL_count) := goodIn_app (goodIn_of _ (by decide +kernel)) ggL_law_L_count
set_option maxRecDepth 20000 in
theorem ggL_law_X4_count : GoodIn wsL_law wsX4_count := goodIn_r _ [323, 149, 203, 204, 5, 205, 324, 325, 326, 327, 150, 234, 54, 61, 151, 152, 153, 154, 723, 724, 725, 726, 727, 728, 729, 730, 731, 732, 733, 734, 735, 736, 737, 738, 739, 740, 741, 742] (by decide +kernel) (by decide +kernel)
set_option maxRecDepth 20000 in
theorem gL_law_X4_count : GoodIn wsL_law (wsV RL 125 RX4 yX4_count wsX4_count) := goodIn_app (goodIn_of _ (by decide +kernel)) ggL_law_X4_count
set_option maxRecDepth 20000 in
theorem ggL_law_L_element : GoodIn wsL_law wsL_element := goodIn_ca (goodIn_r _ [330, 162, 331, 332, 333, 2, 334, 177, 178, 18, 245, 248, 249, 250, 251, 83, 84, 85, 16, 86, 87, 179, 180, 181, 182, 183, 184, 185, 186, 187, 188, 189, 190, 191, 192, 193, 194, 29, 335, 336, 337, 215, 338, 226, 227, 228, 229, 223, 224, 719, 720, 721, 722, 743, 744, 745, 753, 754, 755, 756, 757, 758, 759] (by decide +kernel) (by decide +kernel)) (goodIn_sub (fun _ h => List.mem_append_right _ h) (by decide +kernel))
set_option maxRecDepth 20000 in
theorem gL_law_L_element : GoodIn wsL_law (va_wsS RL 126 yL_element wsL_element) := goodIn_app (goodIn_of _ (by decide +kernel)) ggL_law_L_element
set_option maxRecDepth 20000 in
theorem ggL_law_X4_element : GoodIn wsL_law wsX4_element := goodIn_r _ [342, 149, 256, 257, 258, 5, 259, 234, 203, 204, 205, 343, 344, 345, 346, 56, 57, 58, 59, 60, 61, 151, 152, 153, 154, 723, 724, 725, 726, 727, 728, 729, 730, 731, 732, 733, 734, 735, 736, 737, 738, 739, 740, 741, 742] (by decide +kernel) (by decide +kernel)
set_option maxRecDepth 20000 in
theorem gL_law_X4_element : GoodIn wsL_law (wsV RL 128 RX4 yX4_element wsX4_element) := goodIn_app (goodIn_of _ (by decide +kernel)) ggL_law_X4_element
set_option maxRecDepth 20000 in
theorem ggL_law_L_toggleAt : GoodIn wsL_law wsL_toggleAt := goodIn_ca (goodIn_r _ [349, 162, 350, 351, 352, 2, 353, 177, 178, 18, 245, 279, 248, 249, 250, 251, 83, 84, 85, 16, 86, 87, 179, 180, 181, 182, 183, 184, 185, 186, 187, 188, 189, 190, 191, 192, 193, 194, 29, 354, 355, 356, 215, 357, 224, 225, 719, 720, 721, 722, 753, 754, 755, 756, 757, 758, 759, 743, 744, 745] (by decide +kernel) (by decide +kernel)) (goodIn_sub (fun _ h => List.mem_append_right _ h) (by decide +kernel))
set_option maxRecDepth 20000 in
theorem gL_law_L_toggleAt : GoodIn wsL_law (va_wsS RL 129 yL_toggleAt wsL_toggleAt) := goodIn_app (goodIn_of _ (by decide +kernel)) ggL_law_L_toggleAt
set_option maxRecDepth 20000 in
theorem ggL_law_X4_toggleAt : GoodIn wsL_law wsX4_toggleAt := goodIn_r _ [361, 149, 61, 62, 256, 257, 258, 5, 259, 234, 203, 204, 205, 151, 152, 153, 154, 723, 724, 725, 726, 727, 728, 729, 730, 731, 732, 733, 734, 735, 736, 737, 738, 739, 740, 741, 742] (by decide +kernel) (by decide +kernel)
set_option maxRecDepth 20000 in
theorem gL_law_X4_toggleAt : GoodIn wsL_law (wsV RL 131 RX4 yX4_toggleAt wsX4_toggleAt) := goodIn_app (goodIn_of _ (by decide +kernel)) ggL_law_X4_toggleAt
set_option maxRecDepth 20000 in
theorem ggL_law_L_isOn : GoodIn wsL_law wsL_isOn := goodIn_ca (goodIn_ca (goodIn_r _ [364, 162, 163, 365, 366, 367, 2, 368, 18, 245, 248, 249, 250, 251, 177, 178, 83, 84, 85, 16, 86, 87, 369, 370, 371, 168, 169, 179, 180, 181, 182, 183, 184, 185, 186, 187, 188, 189, 190, 191, 192, 193, 194, 29, 372, 373, 374, 215, 375, 223, 284, 285, 286, 287, 224, 225, 719, 720, 721, 722, 743, 744, 745, 753, 754, 755, 756, 757, 758, 759] (by decide +kernel) (by decide +kernel)) (goodIn_sub (fun _ h => List.mem_append_right _ h) (by decide +kernel))) (goodIn_sub (fun _ h => List.mem_append_left _ (List.mem_append_right _ h)) (by decide +kernel))
set_option maxRecDepth 20000 in
theorem gL_law_L_isOn : GoodIn wsL_law (va_wsS RL 132 yL_isOn wsL_isOn) := goodIn_app (goodIn_of _ (by decide +kernel)) ggL_law_L_isOn
set_option maxRecDepth 20000 in
theorem ggL_law_X4_isOn : GoodIn wsL_law wsX4_isOn := goodIn_r _ [379, 149, 256, 257, 258, 5, 259, 234, 203, 204, 205, 380, 381, 382, 383, 384, 385, 386, 60, 61, 62, 723, 724, 725, 726, 727, 728, 729, 730, 731, 732, 733, 734, 735, 736, 737, 738, 739, 740, 741, 742] (by decide +kernel) (by decide +kernel)
set_option maxRecDepth 20000 in
theorem gL_law_X4_isOn : GoodIn wsL_law (wsV RL 134 RX4 yX4_isOn wsX4_isOn) := goodIn_app (goodIn_of _ (by decide +kernel)) ggL_law_X4_isOn
set_option maxRecDepth 20000 in
theorem ggL_law_L_together : GoodIn wsL_law wsL_together := goodIn_ca (goodIn_ca (goodIn_r _ [389, 162, 163, 390, 391, 392, 2, 393, 20, 173, 174, 175, 176, 177, 178, 17, 83, 84, 85, 16, 86, 87, 369, 370, 371, 168, 169, 394, 395, 396, 397, 18, 245, 246, 398, 399, 179, 180, 181, 182, 183, 184, 185, 186, 187, 188, 189, 190, 191, 192, 193, 194, 29, 372, 373, 374, 215, 375, 223, 284, 285, 286, 287, 224, 225, 400, 401, 402, 403, 404, 405, 406, 719, 720, 721, 722, 743, 744, 745, 753, 754, 755, 756, 757, 758, 759] (by decide +kernel) (by decide +kernel)) (goodIn_sub (fun _ h => List.mem_append_right _ h) (by decide +kernel))) (goodIn_sub (fun _ h => List.mem_append_left _ (List.mem_append_right _ h)) (by decide +kernel))
set_option maxRecDepth 20000 in
theorem gL_law_L_together : GoodIn wsL_law (va_wsS RL 135 yL_together wsL_together) := goodIn_app (goodIn_of _ (by decide +kernel)) ggL_law_L_together
set_option maxRecDepth 20000 in
theorem ggL_law_X4_together : GoodIn wsL_law wsX4_together := goodIn_r _ [410, 149, 199, 200, 201, 5, 202, 150, 203, 204, 205, 151, 152, 153, 154, 380, 381, 382, 411, 412, 413, 414, 234, 57, 58, 415, 416, 417, 418, 56, 383, 384, 385, 386, 60, 61, 62, 723, 724, 725, 726, 727, 728, 729, 730, 731, 732, 733, 734, 735, 736, 737, 738, 739, 740, 741, 742] (by decide +kernel) (by decide +kernel)
set_option maxRecDepth 20000 in
theorem gL_law_X4_together : GoodIn wsL_law (wsV RL 137 RX4 yX4_together wsX4_together) := goodIn_app (goodIn_of _ (by decide +kernel)) ggL_law_X4_together
set_option maxRecDepth 20000 in
theorem ggL_law_L_floats : GoodIn wsL_law wsL_floats := goodIn_ca (goodIn_ca (goodIn_r _ [421, 162, 163, 422, 423, 424, 2, 425, 173, 174, 175, 176, 177, 178, 17, 83, 84, 85, 16, 86, 87, 369, 370, 371, 168, 169, 394, 395, 396, 397, 20, 18, 245, 246, 398, 399, 179, 180, 181, 182, 183, 184, 185, 186, 187, 188, 189, 190, 191, 192, 193, 194, 29, 372, 373, 374, 215, 375, 223, 284, 285, 286, 287, 224, 225, 400, 401, 402, 403, 404, 405, 406, 426, 427, 428, 429, 170, 171, 719, 720, 721, 722, 743, 744, 745, 753, 754, 755, 756, 757, 758, 759, 751, 752] (by decide +kernel) (by decide +kernel)) (goodIn_sub (fun _ h => List.mem_append_right _ h) (by decide +kernel))) (goodIn_sub (fun _ h => List.mem_append_left _ (List.mem_append_right _ h)) (by decide +kernel))
set_option maxRecDepth 20000 in
theorem gL_law_L_floats : GoodIn wsL_law (va_wsS RL 138 yL_floats wsL_floats) := goodIn_app (goodIn_of _ (by decide +kernel)) ggL_law_L_floats
set_option maxRecDepth 20000 in
theorem ggL_law_X4_floats : GoodIn wsL_law wsX4_floats := goodIn_r _ [433, 149, 199, 200, 201, 5, 202, 150, 203, 204, 205, 380, 381, 382, 434, 435, 436, 437, 54, 411, 412, 413, 414, 234, 57, 58, 415, 416, 417, 418, 56, 383, 384, 385, 386, 60, 61, 62, 723, 724, 725, 726, 727, 728, 729, 730, 731, 732, 733, 734, 735, 736, 737, 738, 739, 740, 741, 742] (by decide +kernel) (by decide +kernel)
set_option maxRecDepth 20000 in
theorem gL_law_X4_floats : GoodIn wsL_law (wsV RL 140 RX4 yX4_floats wsX4_floats) := goodIn_app (goodIn_of _ (by decide +kernel)) ggL_law_X4_floats
set_option maxRecDepth 20000 in
theorem ggL_law_L_potential : GoodIn wsL_law wsL_potential := goodIn_ca (goodIn_ca (goodIn_ca (goodIn_r _ [440, 162, 163, 73, 441, 442, 443, 2, 444, 24, 173, 174, 175, 176, 177, 178, 17, 83, 84, 85, 16, 86, 87, 369, 370, 371, 168, 169, 445, 446, 447, 448, 170, 171, 172, 18, 245, 246, 398, 247, 399, 394, 395, 396, 397, 20, 179, 180, 181, 182, 183, 184, 185, 186, 187, 188, 189, 190, 191, 192, 193, 194, 29, 372, 373, 374, 215, 375, 223, 284, 285, 286, 287, 224, 225, 400, 401, 402, 403, 404, 405, 406, 449, 450, 451, 23, 452, 48, 43, 44, 46, 453, 454, 455, 456, 426, 427, 428, 429, 457, 458, 459, 460, 461, 462, 463, 464, 465, 466, 467, 468, 469, 470, 471, 472, 473, 474, 475, 476, 477, 478, 479, 480, 47, 481, 482, 483, 484, 485, 486, 487, 488, 489, 490, 491, 492, 493, 494, 495, 496, 497, 498, 499, 78, 79, 500, 501, 502, 503, 504, 505, 506, 507, 508, 509, 510, 511, 512, 513, 113, 514, 515, 516, 517, 719, 720, 721, 722, 743, 744, 745, 751, 752, 753, 754, 755, 756, 757, 758, 759, 746, 747, 748, 749, 750] (by decide +kernel) (by decide +kernel)) (goodIn_sub (fun _ h => List.mem_append_right _ h) (by decide +kernel))) (goodIn_sub (fun _ h => List.mem_append_left _ (List.mem_append_right _ h)) (by decide +kernel))) (goodIn_sub (fun _ h => List.mem_append_left _ (List.mem_append_left _ (List.mem_append_right _ h))) (by decide +kernel))
set_option maxRecDepth 20000 in
theorem gL_law_L_potential : GoodIn wsL_law (va_wsS RL 141 yL_potential wsL_potential) := goodIn_app (goodIn_of _ (by decide +kernel)) ggL_law_L_potential
set_option maxRecDepth 20000 in
theorem ggL_law_X4_potential : GoodIn wsL_law wsX4_potential := goodIn_r _ [521, 149, 67, 522, 199, 200, 201, 5, 202, 150, 203, 204, 205, 380, 381, 382, 434, 435, 436, 437, 54, 411, 412, 413, 414, 234, 57, 58, 415, 416, 417, 418, 56, 383, 384, 385, 386, 60, 61, 62, 523, 524, 525, 526, 68, 63, 527, 59, 65, 55, 528, 529, 530, 531, 64, 532, 533, 534, 535, 536, 537, 538, 539, 66, 540, 490, 491, 492, 493, 494, 495, 541, 542, 543, 544, 545, 546, 547, 513, 113, 514, 723, 724, 725, 726, 727, 728, 729, 730, 731, 732, 733, 734, 735, 736, 737, 738, 739, 740, 741, 742] (by decide +kernel) (by decide +kernel)
set_option maxRecDepth 20000 in
theorem gL_law_X4_potential : GoodIn wsL_law (wsV RL 144 RX4 yX4_potential wsX4_potential) := goodIn_app (goodIn_of _ (by decide +kernel)) ggL_law_X4_potential
set_option maxRecDepth 20000 in
theorem ggL_law_L_current : GoodIn wsL_law wsL_current := goodIn_ca (goodIn_ca (goodIn_ca (goodIn_r _ [550, 162, 163, 73, 551, 552, 553, 2, 554, 18, 245, 246, 247, 398, 24, 248, 249, 250, 251, 177, 178, 83, 84, 85, 16, 86, 87, 369, 370, 371, 168, 169, 179, 180, 181, 182, 183, 184, 185, 186, 187, 188, 189, 190, 191, 192, 193, 194, 29, 372, 373, 374, 215, 375, 223, 284, 285, 286, 287, 224, 225, 509, 510, 511, 512, 513, 113, 514, 515, 516, 517, 445, 446, 447, 448, 17, 170, 171, 172, 399, 394, 395, 396, 397, 20, 400, 401, 402, 403, 404, 405, 406, 449, 450, 451, 23, 452, 48, 43, 44, 46, 453, 454, 455, 456, 426, 427, 428, 429, 457, 458, 459, 460, 461, 462, 463, 464, 465, 466, 467, 468, 469, 470, 471, 472, 473, 474, 475, 476, 477, 478, 479, 480, 47, 481, 482, 483, 484, 485, 486, 487, 488, 489, 490, 491, 492, 493, 494, 495, 496, 497, 498, 499, 78, 79, 555, 556, 557, 558, 508, 505, 506, 507, 500, 501, 502, 503, 504, 719, 720, 721, 722, 753, 754, 755, 756, 757, 758, 759, 743, 744, 745, 751, 752, 746, 747, 748, 749, 750] (by decide +kernel) (by decide +kernel)) (goodIn_sub (fun _ h => List.mem_append_right _ h) (by decide +kernel))) (goodIn_sub (fun _ h => List.mem_append_left _ (List.mem_append_right _ h)) (by decide +kernel))) (goodIn_sub (fun _ h => List.mem_append_left _ (List.mem_append_left _ (List.mem_append_right _ h))) (by decide +kernel))
set_option maxRecDepth 20000 in
theorem gL_law_L_current : GoodIn wsL_law (va_wsS RL 145 yL_current wsL_current) := goodIn_app (goodIn_of _ (by decide +kernel)) ggL_law_L_current
set_option maxRecDepth 20000 in
theorem ggL_law_X4_current : GoodIn wsL_law wsX4_current := goodIn_r _ [562, 57, 149, 56, 59, 67, 58, 522, 256, 257, 258, 5, 259, 234, 203, 204, 205, 380, 381, 382, 415, 416, 417, 418, 383, 384, 385, 386, 60, 61, 62, 434, 435, 436, 437, 150, 54, 411, 412, 413, 414, 523, 524, 525, 526, 68, 63, 527, 65, 55, 528, 529, 530, 531, 64, 532, 533, 534, 535, 536, 537, 538, 539, 66, 540, 490, 491, 492, 493, 494, 495, 541, 542, 543, 544, 545, 546, 547, 513, 113, 514, 723, 724, 725, 726, 727, 728, 729, 730, 731, 732, 733, 734, 735, 736, 737, 738, 739, 740, 741, 742] (by decide +kernel) (by decide +kernel)
set_option maxRecDepth 20000 in
theorem gL_law_X4_current : GoodIn wsL_law (wsV RL 147 RX4 yX4_current wsX4_current) := goodIn_app (goodIn_of _ (by decide +kernel)) ggL_law_X4_current
set_option maxRecDepth 20000 in
theorem ggL_law_L_feed : GoodIn wsL_law wsL_feed := goodIn_ca (goodIn_ca (goodIn_ca (goodIn_r _ [565, 162, 163, 73, 566, 567, 568, 2, 569, 78, 79, 17, 170, 171, 18, 245, 24, 173, 174, 175, 176, 177, 178, 83, 84, 85, 16, 86, 87, 369, 370, 371, 168, 169, 179, 180, 181, 182, 183, 184, 185, 186, 187, 188, 189, 190, 191, 192, 193, 194, 29, 445, 446, 447, 448, 172, 246, 398, 247, 399, 394, 395, 396, 397, 20, 372, 373, 374, 215, 375, 223, 284, 285, 286, 287, 224, 225, 400, 401, 402, 403, 404, 405, 406, 449, 450, 451, 23, 452, 48, 43, 44, 46, 453, 454, 455, 456, 426, 427, 428, 429, 457, 458, 459, 460, 461, 462, 463, 464, 465, 466, 467, 468, 469, 470, 471, 472, 473, 474, 475, 476, 477, 478, 479, 480, 47, 481, 482, 483, 484, 485, 486, 487, 488, 489, 490, 491, 492, 493, 494, 495, 555, 556, 557, 558, 508, 505, 506, 507, 500, 501, 502, 503, 504, 509, 510, 511, 512, 513, 113, 514, 515, 516, 517, 719, 720, 721, 722, 751, 752, 743, 744, 745, 753, 754, 755, 756, 757, 758, 759, 746, 747, 748, 749, 750] (by decide +kernel) (by decide +kernel)) (goodIn_sub (fun _ h => List.mem_append_left _ (List.mem_append_left _ (List.mem_append_right _ h))) (by decide +kernel))) (goodIn_sub (fun _ h => List.mem_append_right _ h) (by decide +kernel))) (goodIn_sub (fun _ h => List.mem_append_left _ (List.mem_append_right _ h)) (by decide +kernel))
set_option maxRecDepth 20000 in
theorem gL_law_L_feed : GoodIn wsL_law (va_wsS RL 148 yL_feed wsL_feed) := goodIn_app (goodIn_of _ (by decide +kernel)) ggL_law_L_feed
set_option maxRecDepth 20000 in
theorem ggL_law_X4_feed : GoodIn wsL_law wsX4_feed := goodIn_r _ [573, 54, 149, 234, 57, 58, 56, 59, 522, 67, 199, 200, 201, 5, 202, 150, 203, 204, 205, 380, 381, 382, 523, 524, 525, 526, 68, 63, 527, 65, 55, 528, 529, 530, 531, 64, 434, 435, 436, 437, 411, 412, 413, 414, 415, 416, 417, 418, 383, 384, 385, 386, 60, 61, 62, 532, 533, 534, 535, 536, 537, 538, 539, 66, 540, 490, 491, 492, 493, 494, 495, 541, 542, 543, 544, 545, 546, 547, 513, 113, 514, 723, 724, 725, 726, 727, 728, 729, 730, 731, 732, 733, 734, 735, 736, 737, 738, 739, 740, 741, 742] (by decide +kernel) (by decide +kernel)
set_option maxRecDepth 20000 in
theorem gL_law_X4_feed : GoodIn wsL_law (wsV RL 150 RX4 yX4_feed wsX4_feed) := goodIn_app (goodIn_of _ (by decide +kernel)) ggL_law_X4_feed
set_option maxRecDepth 20000 in
theorem ggL_law_L_resistance : GoodIn wsL_law wsL_resistance := goodIn_ca (goodIn_ca (goodIn_ca (goodIn_r _ [576, 162, 163, 73, 577, 578, 579, 2, 580, 78, 79, 20, 24, 173, 174, 175, 176, 177, 178, 17, 83, 84, 85, 16, 86, 87, 369, 370, 371, 168, 169, 394, 395, 396, 397, 18, 245, 246, 398, 399, 179, 180, 181, 182, 183, 184, 185, 186, 187, 188, 189, 190, 191, 192, 193, 194, 29, 372, 373, 374, 215, 375, 223, 284, 285, 286, 287, 224, 225, 400, 401, 402, 403, 404, 405, 406, 581, 582, 583, 584, 449, 450, 451, 23, 452, 48, 43, 44, 46, 457, 458, 459, 460, 461, 462, 463, 464, 465, 466, 467, 468, 247, 469, 470, 471, 472, 473, 474, 475, 476, 477, 478, 479, 480, 47, 481, 482, 483, 484, 485, 486, 487, 488, 489, 490, 491, 492, 493, 494, 495, 500, 501, 502, 503, 504, 505, 506, 507, 508, 509, 510, 511, 512, 513, 113, 514, 515, 516, 517, 719, 720, 721, 722, 743, 744, 745, 753, 754, 755, 756, 757, 758, 759, 746, 747, 748, 749, 750] (by decide +kernel) (by decide +kernel)) (goodIn_sub (fun _ h => List.mem_append_left _ (List.mem_append_left _ (List.mem_append_right _ h))) (by decide +kernel))) (goodIn_sub (fun _ h => List.mem_append_right _ h) (by decide +kernel))) (goodIn_sub (fun _ h => List.mem_append_left _ (List.mem_append_right _ h)) (by decide +kernel))
set_option maxRecDepth 20000 in
theorem gL_law_L_resistance : GoodIn wsL_law (va_wsS RL 151 yL_resistance wsL_resistance) := goodIn_app (goodIn_of _ (by decide +kernel)) ggL_law_L_resistance
set_option maxRecDepth 20000 in
theorem ggL_law_X4_resistance : GoodIn wsL_law wsX4_resistance := goodIn_r _ [588, 149, 150, 63, 527, 234, 57, 58, 59, 65, 199, 200, 201, 5, 202, 203, 204, 205, 380, 381, 382, 411, 412, 413, 414, 415, 416, 417, 418, 56, 383, 384, 385, 386, 60, 61, 62, 528, 529, 530, 531, 64, 532, 533, 534, 535, 55, 536, 537, 538, 539, 66, 540, 490, 491, 492, 493, 494, 495, 541, 542, 543, 544, 545, 546, 547, 513, 113, 514, 723, 724, 725, 726, 727, 728, 729, 730, 731, 732, 733, 734, 735, 736, 737, 738, 739, 740, 741, 742] (by decide +kernel) (by decide +kernel)
set_option maxRecDepth 20000 in
theorem gL_law_X4_resistance : GoodIn wsL_law (wsV RL 154 RX4 yX4_resistance wsX4_resistance) := goodIn_app (goodIn_of _ (by decide +kernel)) ggL_law_X4_resistance
set_option maxRecDepth 20000 in
theorem ggL_law_L_power : GoodIn wsL_law wsL_power := goodIn_ca (goodIn_r _ [591, 163, 592, 593, 594, 2, 595, 18, 245, 246, 398, 399, 247, 369, 370, 371, 168, 169, 445, 446, 447, 448, 24, 17, 170, 171, 172, 394, 395, 396, 397, 20, 83, 84, 85, 16, 86, 87, 179, 180, 181, 182, 183, 184, 185, 186, 187, 188, 189, 190, 191, 192, 193, 194, 29, 372, 373, 374, 215, 375, 223, 284, 285, 286, 287, 224, 225, 400, 401, 402, 403, 404, 405, 406, 449, 450, 451, 23, 452, 48, 43, 44, 46, 453, 454, 455, 456, 426, 427, 428, 429, 457, 458, 459, 460, 461, 462, 463, 464, 465, 466, 467, 468, 469, 470, 471, 472, 473, 474, 475, 476, 477, 478, 479, 480, 47, 481, 482, 483, 484, 485, 486, 487, 488, 489, 490, 491, 492, 493, 494, 495, 596, 597, 598, 599, 500, 501, 502, 503, 504, 505, 506, 507, 508, 509, 510, 511, 512, 513, 113, 514, 515, 516, 517, 719, 720, 721, 722, 753, 754, 755, 756, 757, 758, 759, 751, 752, 743, 744, 745, 746, 747, 748, 749, 750] (by decide +kernel) (by decide +kernel)) (goodIn_sub (fun _ h => List.mem_append_left _ (List.mem_append_right _ h)) (by decide +kernel))
set_option maxRecDepth 20000 in
theorem gL_law_L_power : GoodIn wsL_law (va_wsS RL 155 yL_power wsL_power) := goodIn_app (goodIn_of _ (by decide +kernel)) ggL_law_L_power
set_option maxRecDepth 20000 in
theorem ggL_law_X4_power : GoodIn wsL_law wsX4_power := goodIn_r _ [603, 149, 234, 68, 57, 58, 59, 380, 381, 5, 382, 203, 204, 205, 523, 524, 525, 526, 150, 54, 63, 527, 56, 65, 522, 67, 55, 528, 529, 530, 531, 64, 434, 435, 436, 437, 411, 412, 413, 414, 415, 416, 417, 418, 383, 384, 385, 386, 60, 61, 62, 532, 533, 534, 535, 536, 537, 538, 539, 66, 540, 490, 491, 492, 493, 494, 495, 604, 605, 606, 607, 541, 542, 543, 544, 545, 546, 547, 513, 113, 514, 723, 724, 725, 726, 727, 728, 729, 730, 731, 732, 733, 734, 735, 736, 737, 738, 739, 740, 741, 742] (by decide +kernel) (by decide +kernel)
set_option maxRecDepth 20000 in
theorem gL_law_X4_power : GoodIn wsL_law (wsV RL 158 RX4 yX4_power wsX4_power) := goodIn_app (goodIn_of _ (by decide +kernel)) ggL_law_X4_power
set_option maxRecDepth 20000 in
theorem ggL_law_L_nextToggle : GoodIn wsL_law wsL_nextToggle := goodIn_ca (goodIn_r _ [610, 163, 611, 612, 613, 2, 614, 369, 370, 371, 168, 169, 615, 616, 617, 618, 18, 245, 83, 84, 85, 16, 86, 87, 179, 180, 181, 182, 183, 184, 185, 186, 187, 188, 189, 190, 191, 192, 193, 194, 29, 619, 620, 621, 215, 622, 284, 285, 286, 287, 224, 225, 623, 355, 356, 357, 719, 720, 721, 722, 743, 744, 745, 753, 754, 755, 756, 757, 758, 759] (by decide +kernel) (by decide +kernel)) (goodIn_sub (fun _ h => List.mem_append_left _ (List.mem_append_right _ h)) (by decide +kernel))
set_option maxRecDepth 20000 in
theorem gL_law_L_nextToggle : GoodIn wsL_law (va_wsS RL 159 yL_nextToggle wsL_nextToggle) := goodIn_app (goodIn_of _ (by decide +kernel)) ggL_law_L_nextToggle
set_option maxRecDepth 20000 in
theorem ggL_law_X4_nextToggle : GoodIn wsL_law wsX4_nextToggle := goodIn_r _ [627, 149, 380, 381, 5, 382, 203, 204, 205, 628, 629, 630, 631, 234, 61, 62, 151, 152, 153, 154, 723, 724, 725, 726, 727, 728, 729, 730, 731, 732, 733, 734, 735, 736, 737, 738, 739, 740, 741, 742] (by decide +kernel) (by decide +kernel)
set_option maxRecDepth 20000 in
theorem gL_law_X4_nextToggle : GoodIn wsL_law (wsV RL 161 RX4 yX4_nextToggle wsX4_nextToggle) := goodIn_app (goodIn_of _ (by decide +kernel)) ggL_law_X4_nextToggle
set_option maxRecDepth 20000 in
theorem ggL_law_L_probe : GoodIn wsL_law wsL_probe := goodIn_ca (goodIn_ca (goodIn_r _ [634, 162, 163, 635, 636, 637, 2, 638, 168, 169, 24, 173, 174, 175, 176, 177, 178, 17, 83, 84, 85, 16, 86, 87, 369, 370, 371, 445, 446, 447, 448, 170, 171, 172, 18, 245, 246, 398, 247, 399, 394, 395, 396, 397, 20, 179, 180, 181, 182, 183, 184, 185, 186, 187, 188, 189, 190, 191, 192, 193, 194, 29, 372, 373, 374, 215, 375, 223, 284, 285, 286, 287, 224, 225, 400, 401, 402, 403, 404, 405, 406, 449, 450, 451, 23, 452, 48, 43, 44, 46, 453, 454, 455, 456, 426, 427, 428, 429, 457, 458, 459, 460, 461, 462, 463, 464, 465, 466, 467, 468, 469, 470, 471, 472, 473, 474, 475, 476, 477, 478, 479, 480, 47, 481, 482, 483, 484, 485, 486, 487, 488, 489, 490, 491, 492, 493, 494, 495, 500, 501, 502, 503, 504, 505, 506, 507, 508, 639, 640, 641, 642, 643, 644, 645, 646, 647, 648, 649, 650, 651, 652, 615, 616, 617, 618, 619, 620, 621, 622, 623, 355, 356, 357, 719, 720, 721, 722, 743, 744, 745, 751, 752, 753, 754, 755, 756, 757, 758, 759, 746, 747, 748, 749, 750] (by decide +kernel) (by decide +kernel)) (goodIn_sub (fun _ h => List.mem_append_left _ (List.mem_append_right _ h)) (by decide +kernel))) (goodIn_sub (fun _ h => List.mem_append_right _ h) (by decide +kernel))
set_option maxRecDepth 20000 in
theorem gL_law_L_probe : GoodIn wsL_law (va_wsS RL 162 yL_probe wsL_probe) := goodIn_app (goodIn_of _ (by decide +kernel)) ggL_law_L_probe
set_option maxRecDepth 20000 in
theorem ggL_law_X4_probe : GoodIn wsL_law wsX4_probe := goodIn_r _ [656, 149, 67, 522, 199, 200, 201, 5, 202, 150, 203, 204, 205, 151, 152, 153, 154, 380, 381, 382, 434, 435, 436, 437, 54, 411, 412, 413, 414, 234, 57, 58, 415, 416, 417, 418, 56, 383, 384, 385, 386, 60, 61, 62, 523, 524, 525, 526, 68, 63, 527, 59, 65, 55, 528, 529, 530, 531, 64, 532, 533, 534, 535, 536, 537, 538, 539, 66, 540, 490, 491, 492, 493, 494, 495, 657, 658, 659, 660, 643, 644, 645, 628, 629, 630, 631, 723, 724, 725, 726, 727, 728, 729, 730, 731, 732, 733, 734, 735, 736, 737, 738, 739, 740, 741, 742] (by decide +kernel) (by decide +kernel)
set_option maxRecDepth 20000 in
theorem gL_law_X4_probe : GoodIn wsL_law (wsV RL 164 RX4 yX4_probe wsX4_probe) := goodIn_app (goodIn_of _ (by decide +kernel)) ggL_law_X4_probe
set_option maxRecDepth 20000 in
theorem ggL_law_L_compare : GoodIn wsL_law wsL_compare := goodIn_ca (goodIn_ca (goodIn_ca (goodIn_r _ [663, 162, 163, 73, 664, 665, 666, 2, 667, 168, 169, 24, 173, 174, 175, 176, 177, 178, 17, 83, 84, 85, 16, 86, 87, 369, 370, 371, 445, 446, 447, 448, 170, 171, 172, 18, 245, 246, 398, 247, 399, 394, 395, 396, 397, 20, 179, 180, 181, 182, 183, 184, 185, 186, 187, 188, 189, 190, 191, 192, 193, 194, 29, 372, 373, 374, 215, 375, 223, 284, 285, 286, 287, 224, 225, 400, 401, 402, 403, 404, 405, 406, 449, 450, 451, 23, 452, 48, 43, 44, 46, 453, 454, 455, 456, 426, 427, 428, 429, 457, 458, 459, 460, 461, 462, 463, 464, 465, 466, 467, 468, 469, 470, 471, 472, 473, 474, 475, 476, 477, 478, 479, 480, 47, 481, 482, 483, 484, 485, 486, 487, 488, 489, 490, 491, 492, 493, 494, 495, 496, 497, 498, 499, 78, 79, 500, 501, 502, 503, 504, 505, 506, 507, 508, 639, 640, 641, 642, 643, 644, 645, 646, 647, 648, 649, 650, 651, 652, 719, 720, 721, 722, 743, 744, 745, 751, 752, 753, 754, 755, 756, 757, 758, 759, 746, 747, 748, 749, 750] (by decide +kernel) (by decide +kernel)) (goodIn_sub (fun _ h => List.mem_append_left _ (List.mem_append_right _ h)) (by decide +kernel))) (goodIn_sub (fun _ h => List.mem_append_right _ h) (by decide +kernel))) (goodIn_sub (fun _ h => List.mem_append_left _ (List.mem_append_left _ (List.mem_append_right _ h))) (by decide +kernel))
set_option maxRecDepth 20000 in
theorem gL_law_L_compare : GoodIn wsL_law (va_wsS RL 165 yL_compare wsL_compare) := goodIn_app (goodIn_of _ (by decide +kernel)) ggL_law_L_compare
set_option maxRecDepth 20000 in
theorem ggL_law_X4_compare : GoodIn wsL_law wsX4_compare := goodIn_r _ [671, 149, 67, 522, 199, 200, 201, 5, 202, 150, 203, 204, 205, 151, 152, 153, 154, 380, 381, 382, 434, 435, 436, 437, 54, 411, 412, 413, 414, 234, 57, 58, 415, 416, 417, 418, 56, 383, 384, 385, 386, 60, 61, 62, 523, 524, 525, 526, 68, 63, 527, 59, 65, 55, 528, 529, 530, 531, 64, 532, 533, 534, 535, 536, 537, 538, 539, 66, 540, 490, 491, 492, 493, 494, 495, 657, 658, 659, 660, 643, 644, 645, 723, 724, 725, 726, 727, 728, 729, 730, 731, 732, 733, 734, 735, 736, 737, 738, 739, 740, 741, 742] (by decide +kernel) (by decide +kernel)
set_option maxRecDepth 20000 in
theorem gL_law_X4_compare : GoodIn wsL_law (wsV RL 168 RX4 yX4_compare wsX4_compare) := goodIn_app (goodIn_of _ (by decide +kernel)) ggL_law_X4_compare
set_option maxRecDepth 20000 in
theorem ggL_law_L_levels : GoodIn wsL_law wsL_levels := goodIn_ca (goodIn_r _ [674, 163, 675, 676, 677, 2, 678, 17, 369, 370, 371, 168, 169, 445, 446, 447, 448, 24, 170, 171, 172, 18, 245, 246, 398, 247, 399, 394, 395, 396, 397, 20, 83, 84, 85, 16, 86, 87, 179, 180, 181, 182, 183, 184, 185, 186, 187, 188, 189, 190, 191, 192, 193, 194, 29, 372, 373, 374, 215, 375, 223, 284, 285, 286, 287, 224, 225, 400, 401, 402, 403, 404, 405, 406, 449, 450, 451, 23, 452, 48, 43, 44, 46, 453, 454, 455, 456, 426, 427, 428, 429, 457, 458, 459, 460, 461, 462, 463, 464, 465, 466, 467, 468, 469, 470, 471, 472, 473, 474, 475, 476, 477, 478, 479, 480, 47, 481, 482, 483, 484, 485, 486, 487, 488, 489, 490, 491, 492, 493, 494, 495, 679, 680, 681, 682, 500, 501, 502, 503, 504, 505, 506, 507, 719, 720, 721, 722, 751, 752, 753, 754, 755, 756, 757, 758, 759, 743, 744, 745, 746, 747, 748, 749, 750] (by decide +kernel) (by decide +kernel)) (goodIn_sub (fun _ h => List.mem_append_left _ (List.mem_append_right _ h)) (by decide +kernel))
set_option maxRecDepth 20000 in
theorem gL_law_L_levels : GoodIn wsL_law (va_wsS RL 169 yL_levels wsL_levels) := goodIn_app (goodIn_of _ (by decide +kernel)) ggL_law_L_levels
set_option maxRecDepth 20000 in
theorem ggL_law_X4_levels : GoodIn wsL_law wsX4_levels := goodIn_r _ [686, 149, 150, 68, 67, 380, 381, 5, 382, 203, 204, 205, 151, 152, 153, 154, 523, 524, 525, 526, 54, 63, 527, 234, 56, 57, 58, 59, 65, 522, 55, 528, 529, 530, 531, 64, 434, 435, 436, 437, 411, 412, 413, 414, 415, 416, 417, 418, 383, 384, 385, 386, 60, 61, 62, 532, 533, 534, 535, 536, 537, 538, 539, 66, 540, 490, 491, 492, 493, 494, 495, 723, 724, 725, 726, 727, 728, 729, 730, 731, 732, 733, 734, 735, 736, 737, 738, 739, 740, 741, 742] (by decide +kernel) (by decide +kernel)
set_option maxRecDepth 20000 in
theorem gL_law_X4_levels : GoodIn wsL_law (wsV RL 171 RX4 yX4_levels wsX4_levels) := goodIn_app (goodIn_of _ (by decide +kernel)) ggL_law_X4_levels
set_option maxRecDepth 20000 in
theorem ggL_law_X3_digest : GoodIn wsL_law wsX3_digest := goodIn_r _ [690, 691, 692, 693, 694, 2, 695, 17, 170, 171, 18, 245, 308, 309, 310, 311, 83, 84, 85, 16, 86, 87, 312, 313, 314, 315, 179, 180, 181, 182, 183, 184, 185, 186, 187, 188, 189, 190, 191, 192, 193, 194, 29, 316, 317, 318, 319, 279, 696, 697, 698, 699, 700, 701, 702, 335, 336, 337, 215, 338, 226, 227, 228, 229, 223, 224, 354, 355, 356, 357, 225, 703, 704, 705, 706, 707, 24, 445, 446, 447, 448, 172, 246, 398, 247, 399, 394, 395, 396, 397, 20, 372, 373, 374, 375, 284, 285, 286, 287, 400, 401, 402, 403, 404, 405, 406, 449, 450, 451, 23, 452, 48, 43, 44, 46, 453, 454, 455, 456, 426, 427, 428, 429, 457, 458, 459, 460, 461, 462, 463, 464, 465, 466, 467, 468, 469, 470, 471, 472, 473, 474, 475, 476, 477, 478, 479, 480, 47, 481, 482, 483, 484, 485, 486, 487, 488, 489, 490, 491, 492, 493, 494, 495, 500, 501, 502, 503, 504, 505, 506, 507, 508, 509, 510, 511, 512, 513, 113, 514, 515, 516, 517, 615, 616, 617, 618, 619, 620, 621, 622, 623, 719, 720, 721, 722, 751, 752, 743, 744, 745, 753, 754, 755, 756, 757, 758, 759, 746, 747, 748, 749, 750] (by decide +kernel) (by decide +kernel)
set_option maxRecDepth 20000 in
theorem gL_law_X3_digest : GoodIn wsL_law (wsV RL 172 RX3 yX3_digest wsX3_digest) := goodIn_app (goodIn_of _ (by decide +kernel)) ggL_law_X3_digest
set_option maxRecDepth 20000 in
theorem ggL_law_X4_digest : GoodIn wsL_law wsX4_digest := goodIn_r _ [711, 149, 712, 713, 150, 54, 234, 61, 62, 324, 325, 326, 5, 327, 343, 344, 345, 346, 56, 57, 58, 59, 60, 714, 715, 716, 717, 68, 718, 67, 522, 523, 524, 525, 526, 63, 527, 65, 55, 528, 529, 530, 531, 64, 434, 435, 436, 437, 411, 412, 413, 414, 415, 416, 417, 418, 383, 384, 385, 386, 532, 533, 534, 535, 536, 537, 538, 539, 66, 540, 490, 491, 492, 493, 494, 495, 541, 542, 543, 544, 545, 546, 547, 513, 113, 514, 628, 629, 630, 631, 723, 724, 725, 726, 727, 728, 729, 730, 731, 732, 733, 734, 735, 736, 737, 738, 739, 740, 741, 742] (by decide +kernel) (by decide +kernel)
set_option maxRecDepth 20000 in
theorem gL_law_X4_digest : GoodIn wsL_law (wsV RL 176 RX4 yX4_digest wsX4_digest) := goodIn_app (goodIn_of _ (by decide +kernel)) ggL_law_X4_digest
theorem dL_law_0 : decode cL_law 0 = .ok (.new 8, 3) := by decide +kernel
