theorem dJ9_abs_067f4_7 : decode cJ9_abs_067f4 7 = .ok (.lneg, 1) := by decide +kernel
theorem dJ9_abs_067f4_8 : decode cJ9_abs_067f4 8 = .ok (.goto 4, 3) := by decide +kernel
theorem dJ9_abs_067f4_11 : decode cJ9_abs_067f4 11 = .ok (.lload_n 0, 1) := by decide +kernel
theorem dJ9_abs_067f4_12 : decode cJ9_abs_067f4 12 = .ok (.lreturn, 1) := by decide +kernel
theorem dJ9_max_7cf53_0 : decode cJ9_max_7cf53 0 = .ok (.iload_n 0, 1) := by decide +kernel
theorem dJ9_max_7cf53_1 : decode cJ9_max_7cf53 1 = .ok (.iload_n 1, 1) := by decide +kernel
theorem dJ9_max_7cf53_2 : decode cJ9_max_7cf53 2 = .ok (.if_icmp .lt 7, 3) := by decide +kernel
theorem dJ9_max_7cf53_5 : decode cJ9_max_7cf53 5 = .ok (.iload_n 0, 1) := by decide +kernel
theorem dJ9_max_7cf53_6 : decode cJ9_max_7cf53 6 = .ok (.goto 4, 3) := by decide +kernel
theorem dJ9_max_7cf53_9 : decode cJ9_max_7cf53 9 = .ok (.iload_n 1, 1) := by decide +kernel
theorem dJ9_max_7cf53_10 : decode cJ9_max_7cf53 10 = .ok (.ireturn, 1) := by decide +kernel
theorem dJ9_min_7cf53_0 : decode cJ9_min_7cf53 0 = .ok (.iload_n 0, 1) := by decide +kernel
theorem dJ9_min_7cf53_1 : decode cJ9_min_7cf53 1 = .ok (.iload_n 1, 1) := by decide +kernel
theorem dJ9_min_7cf53_2 : decode cJ9_min_7cf53 2 = .ok (.if_icmp .gt 7, 3) := by decide +kernel
theorem dJ9_min_7cf53_5 : decode cJ9_min_7cf53 5 = .ok (.iload_n 0, 1) := by decide +kernel
theorem dJ9_min_7cf53_6 : decode cJ9_min_7cf53 6 = .ok (.goto 4, 3) := by decide +kernel
theorem dJ9_min_7cf53_9 : decode cJ9_min_7cf53 9 = .ok (.iload_n 1, 1) := by decide +kernel
theorem dJ9_min_7cf53_10 : decode cJ9_min_7cf53 10 = .ok (.ireturn, 1) := by decide +kernel
theorem dJxa1e45_init_da8c8_0 : decode cJxa1e45_init_da8c8 0 = .ok (.aload_n 0, 1) := by decide +kernel
theorem dJxa1e45_init_da8c8_1 : decode cJxa1e45_init_da8c8 1 = .ok (.invokespecial 1, 3) := by decide +kernel
theorem dJxa1e45_init_da8c8_4 : decode cJxa1e45_init_da8c8 4 = .ok (.return_, 1) := by decide +kernel
theorem dJxc12de_init_da8c8_0 : decode cJxc12de_init_da8c8 0 = .ok (.aload_n 0, 1) := by decide +kernel
theorem dJxc12de_init_da8c8_1 : decode cJxc12de_init_da8c8 1 = .ok (.invokespecial 1, 3) := by decide +kernel
theorem dJxc12de_init_da8c8_4 : decode cJxc12de_init_da8c8 4 = .ok (.aload_n 0, 1) := by decide +kernel
theorem dJxc12de_init_da8c8_5 : decode cJxc12de_init_da8c8 5 = .ok (.iconst 0, 1) := by decide +kernel
theorem dJxc12de_init_da8c8_6 : decode cJxc12de_init_da8c8 6 = .ok (.putfield 7, 3) := by decide +kernel
theorem dJxc12de_init_da8c8_9 : decode cJxc12de_init_da8c8 9 = .ok (.return_, 1) := by decide +kernel
theorem dJx4a65c_init_da8c8_0 : decode cJx4a65c_init_da8c8 0 = .ok (.aload_n 0, 1) := by decide +kernel
theorem dJx4a65c_init_da8c8_1 : decode cJx4a65c_init_da8c8 1 = .ok (.invokespecial 1, 3) := by decide +kernel
theorem dJx4a65c_init_da8c8_4 : decode cJx4a65c_init_da8c8 4 = .ok (.aload_n 0, 1) := by decide +kernel
theorem dJx4a65c_init_da8c8_5 : decode cJx4a65c_init_da8c8 5 = .ok (.getstatic 39, 3) := by decide +kernel
theorem dJx4a65c_init_da8c8_8 : decode cJx4a65c_init_da8c8 8 = .ok (.putfield 9, 3) := by decide +kernel
theorem dJx4a65c_init_da8c8_11 : decode cJx4a65c_init_da8c8 11 = .ok (.return_, 1) := by decide +kernel
theorem dJx4a65c_grow_92f84_0 : decode cJx4a65c_grow_92f84 0 = .ok (.aload_n 0, 1) := by decide +kernel
theorem dJx4a65c_grow_92f84_1 : decode cJx4a65c_grow_92f84 1 = .ok (.getfield 9, 3) := by decide +kernel
theorem dJx4a65c_grow_92f84_4 : decode cJx4a65c_grow_92f84 4 = .ok (.arraylength, 1) := by decide +kernel
theorem dJx4a65c_grow_92f84_5 : decode cJx4a65c_grow_92f84 5 = .ok (.istore_n 2, 1) := by decide +kernel
theorem dJx4a65c_grow_92f84_6 : decode cJx4a65c_grow_92f84 6 = .ok (.iload_n 2, 1) := by decide +kernel
theorem dJx4a65c_grow_92f84_7 : decode cJx4a65c_grow_92f84 7 = .ok (.ifCond .gt 13, 3) := by decide +kernel
theorem dJx4a65c_grow_92f84_10 : decode cJx4a65c_grow_92f84 10 = .ok (.aload_n 0, 1) := by decide +kernel
theorem dJx4a65c_grow_92f84_11 : decode cJx4a65c_grow_92f84 11 = .ok (.getfield 9, 3) := by decide +kernel
theorem dJx4a65c_grow_92f84_14 : decode cJx4a65c_grow_92f84 14 = .ok (.getstatic 39, 3) := by decide +kernel
theorem dJx4a65c_grow_92f84_17 : decode cJx4a65c_grow_92f84 17 = .ok (.if_acmp .eq 28, 3) := by decide +kernel
theorem dJx4a65c_grow_92f84_20 : decode cJx4a65c_grow_92f84 20 = .ok (.iload_n 2, 1) := by decide +kernel
theorem dJx4a65c_grow_92f84_21 : decode cJx4a65c_grow_92f84 21 = .ok (.iload_n 1, 1) := by decide +kernel
theorem dJx4a65c_grow_92f84_22 : decode cJx4a65c_grow_92f84 22 = .ok (.iload_n 2, 1) := by decide +kernel
theorem dJx4a65c_grow_92f84_23 : decode cJx4a65c_grow_92f84 23 = .ok (.isub, 1) := by decide +kernel
theorem dJx4a65c_grow_92f84_24 : decode cJx4a65c_grow_92f84 24 = .ok (.iload_n 2, 1) := by decide +kernel
theorem dJx4a65c_grow_92f84_25 : decode cJx4a65c_grow_92f84 25 = .ok (.iconst 1, 1) := by decide +kernel
theorem dJx4a65c_grow_92f84_26 : decode cJx4a65c_grow_92f84 26 = .ok (.ishr, 1) := by decide +kernel
theorem dJx4a65c_grow_92f84_27 : decode cJx4a65c_grow_92f84 27 = .ok (.invokestatic 73, 3) := by decide +kernel
theorem dJx4a65c_grow_92f84_30 : decode cJx4a65c_grow_92f84 30 = .ok (.istore_n 3, 1) := by decide +kernel
theorem dJx4a65c_grow_92f84_31 : decode cJx4a65c_grow_92f84 31 = .ok (.aload_n 0, 1) := by decide +kernel
theorem dJx4a65c_grow_92f84_32 : decode cJx4a65c_grow_92f84 32 = .ok (.aload_n 0, 1) := by decide +kernel
theorem dJx4a65c_grow_92f84_33 : decode cJx4a65c_grow_92f84 33 = .ok (.getfield 9, 3) := by decide +kernel
theorem dJx4a65c_grow_92f84_36 : decode cJx4a65c_grow_92f84 36 = .ok (.iload_n 3, 1) := by decide +kernel
theorem dJx4a65c_grow_92f84_37 : decode cJx4a65c_grow_92f84 37 = .ok (.invokestatic 66, 3) := by decide +kernel
theorem dJx4a65c_grow_92f84_40 : decode cJx4a65c_grow_92f84 40 = .ok (.dup_x1, 1) := by decide +kernel
theorem dJx4a65c_grow_92f84_41 : decode cJx4a65c_grow_92f84 41 = .ok (.putfield 9, 3) := by decide +kernel
theorem dJx4a65c_grow_92f84_44 : decode cJx4a65c_grow_92f84 44 = .ok (.areturn, 1) := by decide +kernel
theorem dJx4a65c_grow_92f84_45 : decode cJx4a65c_grow_92f84 45 = .ok (.aload_n 0, 1) := by decide +kernel
theorem dJx4a65c_grow_92f84_46 : decode cJx4a65c_grow_92f84 46 = .ok (.bipush 10, 2) := by decide +kernel
theorem dJx4a65c_grow_92f84_48 : decode cJx4a65c_grow_92f84 48 = .ok (.iload_n 1, 1) := by decide +kernel
theorem dJx4a65c_grow_92f84_49 : decode cJx4a65c_grow_92f84 49 = .ok (.invokestatic 79, 3) := by decide +kernel
theorem dJx4a65c_grow_92f84_52 : decode cJx4a65c_grow_92f84 52 = .ok (.anewarray 7, 3) := by decide +kernel
theorem dJx4a65c_grow_92f84_55 : decode cJx4a65c_grow_92f84 55 = .ok (.dup_x1, 1) := by decide +kernel
theorem dJx4a65c_grow_92f84_56 : decode cJx4a65c_grow_92f84 56 = .ok (.putfield 9, 3) := by decide +kernel
theorem dJx4a65c_grow_92f84_59 : decode cJx4a65c_grow_92f84 59 = .ok (.areturn, 1) := by decide +kernel
theorem dJx4a65c_grow_d5877_0 : decode cJx4a65c_grow_d5877 0 = .ok (.aload_n 0, 1) := by decide +kernel
theorem dJx4a65c_grow_d5877_1 : decode cJx4a65c_grow_d5877 1 = .ok (.aload_n 0, 1) := by decide +kernel
theorem dJx4a65c_grow_d5877_2 : decode cJx4a65c_grow_d5877 2 = .ok (.getfield 48, 3) := by decide +kernel
theorem dJx4a65c_grow_d5877_5 : decode cJx4a65c_grow_d5877 5 = .ok (.iconst 1, 1) := by decide +kernel
theorem dJx4a65c_grow_d5877_6 : decode cJx4a65c_grow_d5877 6 = .ok (.iadd, 1) := by decide +kernel
theorem dJx4a65c_grow_d5877_7 : decode cJx4a65c_grow_d5877 7 = .ok (.invokevirtual 69, 3) := by decide +kernel
theorem dJx4a65c_grow_d5877_10 : decode cJx4a65c_grow_d5877 10 = .ok (.areturn, 1) := by decide +kernel
theorem dJx4a65c_size_8abf5_0 : decode cJx4a65c_size_8abf5 0 = .ok (.aload_n 0, 1) := by decide +kernel
theorem dJx4a65c_size_8abf5_1 : decode cJx4a65c_size_8abf5 1 = .ok (.getfield 48, 3) := by decide +kernel
theorem dJx4a65c_size_8abf5_4 : decode cJx4a65c_size_8abf5 4 = .ok (.ireturn, 1) := by decide +kernel
theorem dJx4a65c_elementData_915e3_0 : decode cJx4a65c_elementData_915e3 0 = .ok (.aload_n 0, 1) := by decide +kernel
theorem dJx4a65c_elementData_915e3_1 : decode cJx4a65c_elementData_915e3 1 = .ok (.getfield 9, 3) := by decide +kernel
theorem dJx4a65c_elementData_915e3_4 : decode cJx4a65c_elementData_915e3 4 = .ok (.iload_n 1, 1) := by decide +kernel
theorem dJx4a65c_elementData_915e3_5 : decode cJx4a65c_elementData_915e3 5 = .ok (.aaload, 1) := by decide +kernel
theorem dJx4a65c_elementData_915e3_6 : decode cJx4a65c_elementData_915e3 6 = .ok (.areturn, 1) := by decide +kernel
theorem dJx4a65c_get_915e3_0 : decode cJx4a65c_get_915e3 0 = .ok (.iload_n 1, 1) := by decide +kernel
theorem dJx4a65c_get_915e3_1 : decode cJx4a65c_get_915e3 1 = .ok (.aload_n 0, 1) := by decide +kernel
theorem dJx4a65c_get_915e3_2 : decode cJx4a65c_get_915e3 2 = .ok (.getfield 48, 3) := by decide +kernel
theorem dJx4a65c_get_915e3_5 : decode cJx4a65c_get_915e3 5 = .ok (.invokestatic 118, 3) := by decide +kernel
theorem dJx4a65c_get_915e3_8 : decode cJx4a65c_get_915e3 8 = .ok (.pop, 1) := by decide +kernel
theorem dJx4a65c_get_915e3_9 : decode cJx4a65c_get_915e3 9 = .ok (.aload_n 0, 1) := by decide +kernel
theorem dJx4a65c_get_915e3_10 : decode cJx4a65c_get_915e3 10 = .ok (.iload_n 1, 1) := by decide +kernel
theorem dJx4a65c_get_915e3_11 : decode cJx4a65c_get_915e3 11 = .ok (.invokevirtual 123, 3) := by decide +kernel
theorem dJx4a65c_get_915e3_14 : decode cJx4a65c_get_915e3 14 = .ok (.areturn, 1) := by decide +kernel
theorem dJx4a65c_add_72be8_0 : decode cJx4a65c_add_72be8 0 = .ok (.iload_n 3, 1) := by decide +kernel
theorem dJx4a65c_add_72be8_1 : decode cJx4a65c_add_72be8 1 = .ok (.aload_n 2, 1) := by decide +kernel
theorem dJx4a65c_add_72be8_2 : decode cJx4a65c_add_72be8 2 = .ok (.arraylength, 1) := by decide +kernel
theorem dJx4a65c_add_72be8_3 : decode cJx4a65c_add_72be8 3 = .ok (.if_icmp .ne 8, 3) := by decide +kernel
theorem dJx4a65c_add_72be8_6 : decode cJx4a65c_add_72be8 6 = .ok (.aload_n 0, 1) := by decide +kernel
theorem dJx4a65c_add_72be8_7 : decode cJx4a65c_add_72be8 7 = .ok (.invokevirtual 129, 3) := by decide +kernel
theorem dJx4a65c_add_72be8_10 : decode cJx4a65c_add_72be8 10 = .ok (.astore_n 2, 1) := by decide +kernel
theorem dJx4a65c_add_72be8_11 : decode cJx4a65c_add_72be8 11 = .ok (.aload_n 2, 1) := by decide +kernel
theorem dJx4a65c_add_72be8_12 : decode cJx4a65c_add_72be8 12 = .ok (.iload_n 3, 1) := by decide +kernel
theorem dJx4a65c_add_72be8_13 : decode cJx4a65c_add_72be8 13 = .ok (.aload_n 1, 1) := by decide +kernel
theorem dJx4a65c_add_72be8_14 : decode cJx4a65c_add_72be8 14 = .ok (.aastore, 1) := by decide +kernel
theorem dJx4a65c_add_72be8_15 : decode cJx4a65c_add_72be8 15 = .ok (.aload_n 0, 1) := by decide +kernel
theorem dJx4a65c_add_72be8_16 : decode cJx4a65c_add_72be8 16 = .ok (.iload_n 3, 1) := by decide +kernel
theorem dJx4a65c_add_72be8_17 : decode cJx4a65c_add_72be8 17 = .ok (.iconst 1, 1) := by decide +kernel
theorem dJx4a65c_add_72be8_18 : decode cJx4a65c_add_72be8 18 = .ok (.iadd, 1) := by decide +kernel
theorem dJx4a65c_add_72be8_19 : decode cJx4a65c_add_72be8 19 = .ok (.putfield 48, 3) := by decide +kernel
theorem dJx4a65c_add_72be8_22 : decode cJx4a65c_add_72be8 22 = .ok (.return_, 1) := by decide +kernel
theorem dJx4a65c_add_9ea2d_0 : decode cJx4a65c_add_9ea2d 0 = .ok (.aload_n 0, 1) := by decide +kernel
theorem dJx4a65c_add_9ea2d_1 : decode cJx4a65c_add_9ea2d 1 = .ok (.dup, 1) := by decide +kernel
theorem dJx4a65c_add_9ea2d_2 : decode cJx4a65c_add_9ea2d 2 = .ok (.getfield 63, 3) := by decide +kernel
theorem dJx4a65c_add_9ea2d_5 : decode cJx4a65c_add_9ea2d 5 = .ok (.iconst 1, 1) := by decide +kernel
theorem dJx4a65c_add_9ea2d_6 : decode cJx4a65c_add_9ea2d 6 = .ok (.iadd, 1) := by decide +kernel
theorem dJx4a65c_add_9ea2d_7 : decode cJx4a65c_add_9ea2d 7 = .ok (.putfield 63, 3) := by decide +kernel
theorem dJx4a65c_add_9ea2d_10 : decode cJx4a65c_add_9ea2d 10 = .ok (.aload_n 0, 1) := by decide +kernel
theorem dJx4a65c_add_9ea2d_11 : decode cJx4a65c_add_9ea2d 11 = .ok (.aload_n 1, 1) := by decide +kernel
theorem dJx4a65c_add_9ea2d_12 : decode cJx4a65c_add_9ea2d 12 = .ok (.aload_n 0, 1) := by decide +kernel
theorem dJx4a65c_add_9ea2d_13 : decode cJx4a65c_add_9ea2d 13 = .ok (.getfield 9, 3) := by decide +kernel
theorem dJx4a65c_add_9ea2d_16 : decode cJx4a65c_add_9ea2d 16 = .ok (.aload_n 0, 1) := by decide +kernel
theorem dJx4a65c_add_9ea2d_17 : decode cJx4a65c_add_9ea2d 17 = .ok (.getfield 48, 3) := by decide +kernel
theorem dJx4a65c_add_9ea2d_20 : decode cJx4a65c_add_9ea2d 20 = .ok (.invokevirtual 131, 3) := by decide +kernel
theorem dJx4a65c_add_9ea2d_23 : decode cJx4a65c_add_9ea2d 23 = .ok (.iconst 1, 1) := by decide +kernel
theorem dJx4a65c_add_9ea2d_24 : decode cJx4a65c_add_9ea2d 24 = .ok (.ireturn, 1) := by decide +kernel
theorem dJ7_copyOf_1904c_0 : decode cJ7_copyOf_1904c 0 = .ok (.aload_n 0, 1) := by decide +kernel
theorem dJ7_copyOf_1904c_1 : decode cJ7_copyOf_1904c 1 = .ok (.iload_n 1, 1) := by decide +kernel
theorem dJ7_copyOf_1904c_2 : decode cJ7_copyOf_1904c 2 = .ok (.aload_n 0, 1) := by decide +kernel
theorem dJ7_copyOf_1904c_3 : decode cJ7_copyOf_1904c 3 = .ok (.invokevirtual 86, 3) := by decide +kernel
theorem dJ7_copyOf_1904c_6 : decode cJ7_copyOf_1904c 6 = .ok (.invokestatic 300, 3) := by decide +kernel
theorem dJ7_copyOf_1904c_9 : decode cJ7_copyOf_1904c 9 = .ok (.areturn, 1) := by decide +kernel
theorem dJ7_copyOf_6403c_0 : decode cJ7_copyOf_6403c 0 = .ok (.aload_n 2, 1) := by decide +kernel
theorem dJ7_copyOf_6403c_1 : decode cJ7_copyOf_6403c 1 = .ok (.ldc 110, 2) := by decide +kernel
theorem dJ7_copyOf_6403c_3 : decode cJ7_copyOf_6403c 3 = .ok (.if_acmp .ne 10, 3) := by decide +kernel
theorem dJ7_copyOf_6403c_6 : decode cJ7_copyOf_6403c 6 = .ok (.iload_n 1, 1) := by decide +kernel
theorem dJ7_copyOf_6403c_7 : decode cJ7_copyOf_6403c 7 = .ok (.anewarray 2, 3) := by decide +kernel
theorem dJ7_copyOf_6403c_10 : decode cJ7_copyOf_6403c 10 = .ok (.goto 14, 3) := by decide +kernel
theorem dJ7_copyOf_6403c_13 : decode cJ7_copyOf_6403c 13 = .ok (.aload_n 2, 1) := by decide +kernel
theorem dJ7_copyOf_6403c_14 : decode cJ7_copyOf_6403c 14 = .ok (.invokevirtual 90, 3) := by decide +kernel
theorem dJ7_copyOf_6403c_17 : decode cJ7_copyOf_6403c 17 = .ok (.iload_n 1, 1) := by decide +kernel
theorem dJ7_copyOf_6403c_18 : decode cJ7_copyOf_6403c 18 = .ok (.invokestatic 95, 3) := by decide +kernel
theorem dJ7_copyOf_6403c_21 : decode cJ7_copyOf_6403c 21 = .ok (.checkcast 110, 3) := by decide +kernel
theorem dJ7_copyOf_6403c_24 : decode cJ7_copyOf_6403c 24 = .ok (.astore_n 3, 1) := by decide +kernel
theorem dJ7_copyOf_6403c_25 : decode cJ7_copyOf_6403c 25 = .ok (.aload_n 0, 1) := by decide +kernel
theorem dJ7_copyOf_6403c_26 : decode cJ7_copyOf_6403c 26 = .ok (.iconst 0, 1) := by decide +kernel
theorem dJ7_copyOf_6403c_27 : decode cJ7_copyOf_6403c 27 = .ok (.aload_n 3, 1) := by decide +kernel
theorem dJ7_copyOf_6403c_28 : decode cJ7_copyOf_6403c 28 = .ok (.iconst 0, 1) := by decide +kernel
theorem dJ7_copyOf_6403c_29 : decode cJ7_copyOf_6403c 29 = .ok (.aload_n 0, 1) := by decide +kernel
theorem dJ7_copyOf_6403c_30 : decode cJ7_copyOf_6403c 30 = .ok (.arraylength, 1) := by decide +kernel
theorem dJ7_copyOf_6403c_31 : decode cJ7_copyOf_6403c 31 = .ok (.iload_n 1, 1) := by decide +kernel
theorem dJ7_copyOf_6403c_32 : decode cJ7_copyOf_6403c 32 = .ok (.invokestatic 304, 3) := by decide +kernel
theorem dJ7_copyOf_6403c_35 : decode cJ7_copyOf_6403c 35 = .ok (.invokestatic 150, 3) := by decide +kernel
theorem dJ7_copyOf_6403c_38 : decode cJ7_copyOf_6403c 38 = .ok (.aload_n 3, 1) := by decide +kernel
theorem dJ7_copyOf_6403c_39 : decode cJ7_copyOf_6403c 39 = .ok (.areturn, 1) := by decide +kernel
theorem dJ15_checkIndex_7cf53_0 : decode cJ15_checkIndex_7cf53 0 = .ok (.iload_n 0, 1) := by decide +kernel
theorem dJ15_checkIndex_7cf53_1 : decode cJ15_checkIndex_7cf53 1 = .ok (.iload_n 1, 1) := by decide +kernel
theorem dJ15_checkIndex_7cf53_2 : decode cJ15_checkIndex_7cf53 2 = .ok (.aconst_null, 1) := by decide +kernel
theorem dJ15_checkIndex_7cf53_3 : decode cJ15_checkIndex_7cf53 3 = .ok (.invokestatic 105, 3) := by decide +kernel
theorem dJ15_checkIndex_7cf53_6 : decode cJ15_checkIndex_7cf53 6 = .ok (.ireturn, 1) := by decide +kernel
theorem dJ8_newLength_cabcc_0 : decode cJ8_newLength_cabcc 0 = .ok (.iload_n 0, 1) := by decide +kernel
theorem dJ8_newLength_cabcc_1 : decode cJ8_newLength_cabcc 1 = .ok (.iload_n 1, 1) := by decide +kernel
theorem dJ8_newLength_cabcc_2 : decode cJ8_newLength_cabcc 2 = .ok (.iload_n 2, 1) := by decide +kernel
theorem dJ8_newLength_cabcc_3 : decode cJ8_newLength_cabcc 3 = .ok (.invokestatic 194, 3) := by decide +kernel
theorem dJ8_newLength_cabcc_6 : decode cJ8_newLength_cabcc 6 = .ok (.iadd, 1) := by decide +kernel
theorem dJ8_newLength_cabcc_7 : decode cJ8_newLength_cabcc 7 = .ok (.istore_n 3, 1) := by decide +kernel
theorem dJ8_newLength_cabcc_8 : decode cJ8_newLength_cabcc 8 = .ok (.iconst 0, 1) := by decide +kernel
theorem dJ8_newLength_cabcc_9 : decode cJ8_newLength_cabcc 9 = .ok (.iload_n 3, 1) := by decide +kernel
theorem dJ8_newLength_cabcc_10 : decode cJ8_newLength_cabcc 10 = .ok (.if_icmp .ge 11, 3) := by decide +kernel
theorem dJ8_newLength_cabcc_13 : decode cJ8_newLength_cabcc 13 = .ok (.iload_n 3, 1) := by decide +kernel
theorem dJ8_newLength_cabcc_14 : decode cJ8_newLength_cabcc 14 = .ok (.ldc 200, 2) := by decide +kernel
theorem dJ8_newLength_cabcc_16 : decode cJ8_newLength_cabcc 16 = .ok (.if_icmp .gt 5, 3) := by decide +kernel
theorem dJ8_newLength_cabcc_19 : decode cJ8_newLength_cabcc 19 = .ok (.iload_n 3, 1) := by decide +kernel
theorem dJ8_newLength_cabcc_20 : decode cJ8_newLength_cabcc 20 = .ok (.ireturn, 1) := by decide +kernel
theorem dJ8_newLength_cabcc_21 : decode cJ8_newLength_cabcc 21 = .ok (.iload_n 0, 1) := by decide +kernel
theorem dJ8_newLength_cabcc_22 : decode cJ8_newLength_cabcc 22 = .ok (.iload_n 1, 1) := by decide +kernel
theorem dJ8_newLength_cabcc_23 : decode cJ8_newLength_cabcc 23 = .ok (.invokestatic 201, 3) := by decide +kernel
theorem dJ8_newLength_cabcc_26 : decode cJ8_newLength_cabcc 26 = .ok (.ireturn, 1) := by decide +kernel
theorem dJ8_hugeLength_7cf53_0 : decode cJ8_hugeLength_7cf53 0 = .ok (.iload_n 0, 1) := by decide +kernel
theorem dJ8_hugeLength_7cf53_1 : decode cJ8_hugeLength_7cf53 1 = .ok (.iload_n 1, 1) := by decide +kernel
theorem dJ8_hugeLength_7cf53_2 : decode cJ8_hugeLength_7cf53 2 = .ok (.iadd, 1) := by decide +kernel
theorem dJ8_hugeLength_7cf53_3 : decode cJ8_hugeLength_7cf53 3 = .ok (.istore_n 2, 1) := by decide +kernel
theorem dJ8_hugeLength_7cf53_4 : decode cJ8_hugeLength_7cf53 4 = .ok (.iload_n 2, 1) := by decide +kernel
theorem dJ8_hugeLength_7cf53_5 : decode cJ8_hugeLength_7cf53 5 = .ok (.ifCond .ge 44, 3) := by decide +kernel
theorem dJ8_hugeLength_7cf53_8 : decode cJ8_hugeLength_7cf53 8 = .ok (.new 204, 3) := by decide +kernel
theorem dJ8_hugeLength_7cf53_11 : decode cJ8_hugeLength_7cf53 11 = .ok (.dup, 1) := by decide +kernel
theorem dJ8_hugeLength_7cf53_12 : decode cJ8_hugeLength_7cf53 12 = .ok (.new 89, 3) := by decide +kernel
theorem dJ8_hugeLength_7cf53_15 : decode cJ8_hugeLength_7cf53 15 = .ok (.dup, 1) := by decide +kernel
theorem dJ8_hugeLength_7cf53_16 : decode cJ8_hugeLength_7cf53 16 = .ok (.invokespecial 91, 3) := by decide +kernel
theorem dJ8_hugeLength_7cf53_19 : decode cJ8_hugeLength_7cf53 19 = .ok (.ldc 206, 2) := by decide +kernel
theorem dJ8_hugeLength_7cf53_21 : decode cJ8_hugeLength_7cf53 21 = .ok (.invokevirtual 94, 3) := by decide +kernel
theorem dJ8_hugeLength_7cf53_24 : decode cJ8_hugeLength_7cf53 24 = .ok (.iload_n 0, 1) := by decide +kernel
theorem dJ8_hugeLength_7cf53_25 : decode cJ8_hugeLength_7cf53 25 = .ok (.invokevirtual 98, 3) := by decide +kernel
theorem dJ8_hugeLength_7cf53_28 : decode cJ8_hugeLength_7cf53 28 = .ok (.ldc 208, 2) := by decide +kernel
theorem dJ8_hugeLength_7cf53_30 : decode cJ8_hugeLength_7cf53 30 = .ok (.invokevirtual 94, 3) := by decide +kernel
theorem dJ8_hugeLength_7cf53_33 : decode cJ8_hugeLength_7cf53 33 = .ok (.iload_n 1, 1) := by decide +kernel
theorem dJ8_hugeLength_7cf53_34 : decode cJ8_hugeLength_7cf53 34 = .ok (.invokevirtual 98, 3) := by decide +kernel
theorem dJ8_hugeLength_7cf53_37 : decode cJ8_hugeLength_7cf53 37 = .ok (.ldc 210, 2) := by decide +kernel
theorem dJ8_hugeLength_7cf53_39 : decode cJ8_hugeLength_7cf53 39 = .ok (.invokevirtual 94, 3) := by decide +kernel
theorem dJ8_hugeLength_7cf53_42 : decode cJ8_hugeLength_7cf53 42 = .ok (.invokevirtual 101, 3) := by decide +kernel
theorem dJ8_hugeLength_7cf53_45 : decode cJ8_hugeLength_7cf53 45 = .ok (.invokespecial 212, 3) := by decide +kernel
theorem dJ8_hugeLength_7cf53_48 : decode cJ8_hugeLength_7cf53 48 = .ok (.athrow, 1) := by decide +kernel
theorem dJ8_hugeLength_7cf53_49 : decode cJ8_hugeLength_7cf53 49 = .ok (.iload_n 2, 1) := by decide +kernel
theorem dJ8_hugeLength_7cf53_50 : decode cJ8_hugeLength_7cf53 50 = .ok (.ldc 200, 2) := by decide +kernel
theorem dJ8_hugeLength_7cf53_52 : decode cJ8_hugeLength_7cf53 52 = .ok (.if_icmp .gt 6, 3) := by decide +kernel
theorem dJ8_hugeLength_7cf53_55 : decode cJ8_hugeLength_7cf53 55 = .ok (.ldc 200, 2) := by decide +kernel
theorem dJ8_hugeLength_7cf53_57 : decode cJ8_hugeLength_7cf53 57 = .ok (.ireturn, 1) := by decide +kernel
theorem dJ8_hugeLength_7cf53_58 : decode cJ8_hugeLength_7cf53 58 = .ok (.iload_n 2, 1) := by decide +kernel
theorem dJ8_hugeLength_7cf53_59 : decode cJ8_hugeLength_7cf53 59 = .ok (.ireturn, 1) := by decide +kernel
theorem dJ3_checkIndex_8e157_0 : decode cJ3_checkIndex_8e157 0 = .ok (.iload_n 0, 1) := by decide +kernel
theorem dJ3_checkIndex_8e157_1 : decode cJ3_checkIndex_8e157 1 = .ok (.ifCond .lt 8, 3) := by decide +kernel
theorem dJ3_checkIndex_8e157_4 : decode cJ3_checkIndex_8e157 4 = .ok (.iload_n 0, 1) := by decide +kernel
theorem dJ3_checkIndex_8e157_5 : decode cJ3_checkIndex_8e157 5 = .ok (.iload_n 1, 1) := by decide +kernel
theorem dJ3_checkIndex_8e157_6 : decode cJ3_checkIndex_8e157 6 = .ok (.if_icmp .lt 10, 3) := by decide +kernel
theorem dJ3_checkIndex_8e157_9 : decode cJ3_checkIndex_8e157 9 = .ok (.aload_n 2, 1) := by decide +kernel
theorem dJ3_checkIndex_8e157_10 : decode cJ3_checkIndex_8e157 10 = .ok (.iload_n 0, 1) := by decide +kernel
theorem dJ3_checkIndex_8e157_11 : decode cJ3_checkIndex_8e157 11 = .ok (.iload_n 1, 1) := by decide +kernel
theorem dJ3_checkIndex_8e157_12 : decode cJ3_checkIndex_8e157 12 = .ok (.invokestatic 95, 3) := by decide +kernel
theorem dJ3_checkIndex_8e157_15 : decode cJ3_checkIndex_8e157 15 = .ok (.athrow, 1) := by decide +kernel
theorem dJ3_checkIndex_8e157_16 : decode cJ3_checkIndex_8e157 16 = .ok (.iload_n 0, 1) := by decide +kernel
theorem dJ3_checkIndex_8e157_17 : decode cJ3_checkIndex_8e157 17 = .ok (.ireturn, 1) := by decide +kernel
theorem dL_below_0 : decode cL_below 0 = .ok (.iload_n 0, 1) := by decide +kernel
theorem dL_below_1 : decode cL_below 1 = .ok (.ldc 7, 2) := by decide +kernel
theorem dL_below_3 : decode cL_below 3 = .ok (.iand, 1) := by decide +kernel
theorem dL_below_4 : decode cL_below 4 = .ok (.iload_n 1, 1) := by decide +kernel
theorem dL_below_5 : decode cL_below 5 = .ok (.irem, 1) := by decide +kernel
theorem dL_below_6 : decode cL_below 6 = .ok (.ireturn, 1) := by decide +kernel
theorem dL_cell_0 : decode cL_cell 0 = .ok (.iload_n 1, 1) := by decide +kernel
theorem dL_cell_1 : decode cL_cell 1 = .ok (.aload_n 0, 1) := by decide +kernel
theorem dL_cell_2 : decode cL_cell 2 = .ok (.arraylength, 1) := by decide +kernel
theorem dL_cell_3 : decode cL_cell 3 = .ok (.if_icmp .ge 9, 3) := by decide +kernel
theorem dL_cell_6 : decode cL_cell 6 = .ok (.aload_n 0, 1) := by decide +kernel
theorem dL_cell_7 : decode cL_cell 7 = .ok (.iload_n 1, 1) := by decide +kernel
theorem dL_cell_8 : decode cL_cell 8 = .ok (.iaload, 1) := by decide +kernel
theorem dL_cell_9 : decode cL_cell 9 = .ok (.goto 9, 3) := by decide +kernel
theorem dL_cell_12 : decode cL_cell 12 = .ok (.ldc 8, 2) := by decide +kernel
theorem dL_cell_14 : decode cL_cell 14 = .ok (.iload_n 1, 1) := by decide +kernel
theorem dL_cell_15 : decode cL_cell 15 = .ok (.iconst 3, 1) := by decide +kernel
theorem dL_cell_16 : decode cL_cell 16 = .ok (.iadd, 1) := by decide +kernel
theorem dL_cell_17 : decode cL_cell 17 = .ok (.imul, 1) := by decide +kernel
theorem dL_cell_18 : decode cL_cell 18 = .ok (.ireturn, 1) := by decide +kernel
theorem dL_build_0 : decode cL_build 0 = .ok (.new 21, 3) := by decide +kernel
theorem dL_build_3 : decode cL_build 3 = .ok (.dup, 1) := by decide +kernel
theorem dL_build_4 : decode cL_build 4 = .ok (.invokespecial 23, 3) := by decide +kernel
theorem dL_build_7 : decode cL_build 7 = .ok (.astore 4, 2) := by decide +kernel
theorem dL_build_9 : decode cL_build 9 = .ok (.iconst 0, 1) := by decide +kernel
theorem dL_build_10 : decode cL_build 10 = .ok (.istore 5, 2) := by decide +kernel
theorem dL_build_12 : decode cL_build 12 = .ok (.iload 5, 2) := by decide +kernel
theorem dL_build_14 : decode cL_build 14 = .ok (.iload_n 2, 1) := by decide +kernel
theorem dL_build_15 : decode cL_build 15 = .ok (.if_icmp .ge 107, 3) := by decide +kernel
theorem dL_build_18 : decode cL_build 18 = .ok (.aload_n 0, 1) := by decide +kernel
theorem dL_build_19 : decode cL_build 19 = .ok (.invokevirtual 24, 3) := by decide +kernel
theorem dL_build_22 : decode cL_build 22 = .ok (.iload 5, 2) := by decide +kernel
theorem dL_build_24 : decode cL_build 24 = .ok (.if_icmp .eq 5, 3) := by decide +kernel
theorem dL_build_27 : decode cL_build 27 = .ok (.aconst_null, 1) := by decide +kernel
theorem dL_build_28 : decode cL_build 28 = .ok (.areturn, 1) := by decide +kernel
theorem dL_build_29 : decode cL_build 29 = .ok (.iload 5, 2) := by decide +kernel
theorem dL_build_31 : decode cL_build 31 = .ok (.ifCond .eq 19, 3) := by decide +kernel
theorem dL_build_34 : decode cL_build 34 = .ok (.aload_n 1, 1) := by decide +kernel
theorem dL_build_35 : decode cL_build 35 = .ok (.iload 5, 2) := by decide +kernel
theorem dL_build_37 : decode cL_build 37 = .ok (.invokestatic 30, 3) := by decide +kernel
theorem dL_build_40 : decode cL_build 40 = .ok (.bipush 9, 2) := by decide +kernel
theorem dL_build_42 : decode cL_build 42 = .ok (.ishr, 1) := by decide +kernel
theorem dL_build_43 : decode cL_build 43 = .ok (.iconst 4, 1) := by decide +kernel
theorem dL_build_44 : decode cL_build 44 = .ok (.invokestatic 34, 3) := by decide +kernel
theorem dL_build_47 : decode cL_build 47 = .ok (.ifCond .ne 7, 3) := by decide +kernel
theorem dL_build_50 : decode cL_build 50 = .ok (.iconst 1, 1) := by decide +kernel
theorem dL_build_51 : decode cL_build 51 = .ok (.goto 4, 3) := by decide +kernel
theorem dL_build_54 : decode cL_build 54 = .ok (.iconst 0, 1) := by decide +kernel
theorem dL_build_55 : decode cL_build 55 = .ok (.istore 6, 2) := by decide +kernel
theorem dL_build_57 : decode cL_build 57 = .ok (.aload_n 1, 1) := by decide +kernel
theorem dL_build_58 : decode cL_build 58 = .ok (.iload 5, 2) := by decide +kernel
theorem dL_build_60 : decode cL_build 60 = .ok (.invokestatic 30, 3) := by decide +kernel
theorem dL_build_63 : decode cL_build 63 = .ok (.iconst 2, 1) := by decide +kernel
theorem dL_build_64 : decode cL_build 64 = .ok (.ishr, 1) := by decide +kernel
theorem dL_build_65 : decode cL_build 65 = .ok (.sipush 199, 3) := by decide +kernel
theorem dL_build_68 : decode cL_build 68 = .ok (.invokestatic 34, 3) := by decide +kernel
theorem dL_build_71 : decode cL_build 71 = .ok (.bipush 99, 2) := by decide +kernel
theorem dL_build_73 : decode cL_build 73 = .ok (.isub, 1) := by decide +kernel
theorem dL_build_74 : decode cL_build 74 = .ok (.istore 7, 2) := by decide +kernel
theorem dL_build_76 : decode cL_build 76 = .ok (.aload_n 0, 1) := by decide +kernel
theorem dL_build_77 : decode cL_build 77 = .ok (.iload 5, 2) := by decide +kernel
theorem dL_build_79 : decode cL_build 79 = .ok (.iload 6, 2) := by decide +kernel
theorem dL_build_81 : decode cL_build 81 = .ok (.iload 7, 2) := by decide +kernel
theorem dL_build_83 : decode cL_build 83 = .ok (.invokevirtual 38, 3) := by decide +kernel
theorem dL_build_86 : decode cL_build 86 = .ok (.ifCond .eq 5, 3) := by decide +kernel
theorem dL_build_89 : decode cL_build 89 = .ok (.aconst_null, 1) := by decide +kernel
theorem dL_build_90 : decode cL_build 90 = .ok (.areturn, 1) := by decide +kernel
theorem dL_build_91 : decode cL_build 91 = .ok (.aload 4, 2) := by decide +kernel
theorem dL_build_93 : decode cL_build 93 = .ok (.aload 4, 2) := by decide +kernel
theorem dL_build_95 : decode cL_build 95 = .ok (.getfield 42, 3) := by decide +kernel
theorem dL_build_98 : decode cL_build 98 = .ok (.iload 6, 2) := by decide +kernel
theorem dL_build_100 : decode cL_build 100 = .ok (.ifCond .eq 8, 3) := by decide +kernel
theorem dL_build_103 : decode cL_build 103 = .ok (.iload 7, 2) := by decide +kernel
theorem dL_build_105 : decode cL_build 105 = .ok (.goto 5, 3) := by decide +kernel
theorem dL_build_108 : decode cL_build 108 = .ok (.bipush 100, 2) := by decide +kernel
theorem dL_build_110 : decode cL_build 110 = .ok (.invokestatic 46, 3) := by decide +kernel
theorem dL_build_113 : decode cL_build 113 = .ok (.putfield 42, 3) := by decide +kernel
theorem dL_build_116 : decode cL_build 116 = .ok (.iinc 5 1, 3) := by decide +kernel
theorem dL_build_119 : decode cL_build 119 = .ok (.goto (-107), 3) := by decide +kernel
theorem dL_build_122 : decode cL_build 122 = .ok (.iconst 1, 1) := by decide +kernel
theorem dL_build_123 : decode cL_build 123 = .ok (.aload_n 1, 1) := by decide +kernel
theorem dL_build_124 : decode cL_build 124 = .ok (.iconst 0, 1) := by decide +kernel
theorem dL_build_125 : decode cL_build 125 = .ok (.invokestatic 30, 3) := by decide +kernel
theorem dL_build_128 : decode cL_build 128 = .ok (.iload_n 3, 1) := by decide +kernel
theorem dL_build_129 : decode cL_build 129 = .ok (.invokestatic 34, 3) := by decide +kernel
theorem dL_build_132 : decode cL_build 132 = .ok (.iadd, 1) := by decide +kernel
theorem dL_build_133 : decode cL_build 133 = .ok (.istore 5, 2) := by decide +kernel
theorem dL_build_135 : decode cL_build 135 = .ok (.iconst 0, 1) := by decide +kernel
theorem dL_build_136 : decode cL_build 136 = .ok (.istore 6, 2) := by decide +kernel
theorem dL_build_138 : decode cL_build 138 = .ok (.iload 6, 2) := by decide +kernel
theorem dL_build_140 : decode cL_build 140 = .ok (.iload 5, 2) := by decide +kernel
theorem dL_build_142 : decode cL_build 142 = .ok (.if_icmp .ge 371, 3) := by decide +kernel
theorem dL_build_145 : decode cL_build 145 = .ok (.aload_n 1, 1) := by decide +kernel
theorem dL_build_146 : decode cL_build 146 = .ok (.iload 6, 2) := by decide +kernel
theorem dL_build_148 : decode cL_build 148 = .ok (.bipush 16, 2) := by decide +kernel
theorem dL_build_150 : decode cL_build 150 = .ok (.irem, 1) := by decide +kernel
theorem dL_build_151 : decode cL_build 151 = .ok (.invokestatic 30, 3) := by decide +kernel
theorem dL_build_154 : decode cL_build 154 = .ok (.iload 6, 2) := by decide +kernel
theorem dL_build_156 : decode cL_build 156 = .ok (.bipush 16, 2) := by decide +kernel
theorem dL_build_158 : decode cL_build 158 = .ok (.idiv, 1) := by decide +kernel
theorem dL_build_159 : decode cL_build 159 = .ok (.iconst 3, 1) := by decide +kernel
theorem dL_build_160 : decode cL_build 160 = .ok (.imul, 1) := by decide +kernel
theorem dL_build_161 : decode cL_build 161 = .ok (.ishr, 1) := by decide +kernel
theorem dL_build_162 : decode cL_build 162 = .ok (.istore 7, 2) := by decide +kernel
theorem dL_build_164 : decode cL_build 164 = .ok (.iload 7, 2) := by decide +kernel
theorem dL_build_166 : decode cL_build 166 = .ok (.iload_n 2, 1) := by decide +kernel
theorem dL_build_167 : decode cL_build 167 = .ok (.invokestatic 34, 3) := by decide +kernel
theorem dL_build_170 : decode cL_build 170 = .ok (.istore 8, 2) := by decide +kernel
theorem dL_build_172 : decode cL_build 172 = .ok (.iload 8, 2) := by decide +kernel
theorem dL_build_174 : decode cL_build 174 = .ok (.iconst 1, 1) := by decide +kernel
theorem dL_build_175 : decode cL_build 175 = .ok (.iadd, 1) := by decide +kernel
theorem dL_build_176 : decode cL_build 176 = .ok (.iload 7, 2) := by decide +kernel
theorem dL_build_178 : decode cL_build 178 = .ok (.iconst 4, 1) := by decide +kernel
theorem dL_build_179 : decode cL_build 179 = .ok (.ishr, 1) := by decide +kernel
theorem dL_build_180 : decode cL_build 180 = .ok (.iload_n 2, 1) := by decide +kernel
theorem dL_build_181 : decode cL_build 181 = .ok (.iconst 1, 1) := by decide +kernel
theorem dL_build_182 : decode cL_build 182 = .ok (.isub, 1) := by decide +kernel
theorem dL_build_183 : decode cL_build 183 = .ok (.invokestatic 34, 3) := by decide +kernel
theorem dL_build_186 : decode cL_build 186 = .ok (.iadd, 1) := by decide +kernel
theorem dL_build_187 : decode cL_build 187 = .ok (.iload_n 2, 1) := by decide +kernel
theorem dL_build_188 : decode cL_build 188 = .ok (.irem, 1) := by decide +kernel
theorem dL_build_189 : decode cL_build 189 = .ok (.istore 9, 2) := by decide +kernel
theorem dL_build_191 : decode cL_build 191 = .ok (.iload 7, 2) := by decide +kernel
theorem dL_build_193 : decode cL_build 193 = .ok (.bipush 7, 2) := by decide +kernel
theorem dL_build_195 : decode cL_build 195 = .ok (.ishr, 1) := by decide +kernel
theorem dL_build_196 : decode cL_build 196 = .ok (.iconst 4, 1) := by decide +kernel
theorem dL_build_197 : decode cL_build 197 = .ok (.invokestatic 34, 3) := by decide +kernel
theorem dL_build_200 : decode cL_build 200 = .ok (.ifCond .ne 7, 3) := by decide +kernel
theorem dL_build_203 : decode cL_build 203 = .ok (.iconst 1, 1) := by decide +kernel
theorem dL_build_204 : decode cL_build 204 = .ok (.goto 4, 3) := by decide +kernel
theorem dL_build_207 : decode cL_build 207 = .ok (.iconst 0, 1) := by decide +kernel
theorem dL_build_208 : decode cL_build 208 = .ok (.istore 10, 2) := by decide +kernel
theorem dL_build_210 : decode cL_build 210 = .ok (.iload 10, 2) := by decide +kernel
theorem dL_build_212 : decode cL_build 212 = .ok (.ifCond .eq 19, 3) := by decide +kernel
theorem dL_build_215 : decode cL_build 215 = .ok (.iload 7, 2) := by decide +kernel
theorem dL_build_217 : decode cL_build 217 = .ok (.iconst 3, 1) := by decide +kernel
theorem dL_build_218 : decode cL_build 218 = .ok (.ishr, 1) := by decide +kernel
theorem dL_build_219 : decode cL_build 219 = .ok (.sipush 199, 3) := by decide +kernel
theorem dL_build_222 : decode cL_build 222 = .ok (.invokestatic 34, 3) := by decide +kernel
theorem dL_build_225 : decode cL_build 225 = .ok (.bipush 99, 2) := by decide +kernel
theorem dL_build_227 : decode cL_build 227 = .ok (.isub, 1) := by decide +kernel
theorem dL_build_228 : decode cL_build 228 = .ok (.goto 14, 3) := by decide +kernel
theorem dL_build_231 : decode cL_build 231 = .ok (.iconst 1, 1) := by decide +kernel
theorem dL_build_232 : decode cL_build 232 = .ok (.iload 7, 2) := by decide +kernel
theorem dL_build_234 : decode cL_build 234 = .ok (.iconst 5, 1) := by decide +kernel
theorem dL_build_235 : decode cL_build 235 = .ok (.ishr, 1) := by decide +kernel
theorem dL_build_236 : decode cL_build 236 = .ok (.bipush 9, 2) := by decide +kernel
theorem dL_build_238 : decode cL_build 238 = .ok (.invokestatic 34, 3) := by decide +kernel
theorem dL_build_241 : decode cL_build 241 = .ok (.iadd, 1) := by decide +kernel
theorem dL_build_242 : decode cL_build 242 = .ok (.istore 11, 2) := by decide +kernel
theorem dL_build_244 : decode cL_build 244 = .ok (.aload_n 0, 1) := by decide +kernel
theorem dL_build_245 : decode cL_build 245 = .ok (.iload 10, 2) := by decide +kernel
theorem dL_build_247 : decode cL_build 247 = .ok (.iload 8, 2) := by decide +kernel
theorem dL_build_249 : decode cL_build 249 = .ok (.iload 9, 2) := by decide +kernel
theorem dL_build_251 : decode cL_build 251 = .ok (.iload 11, 2) := by decide +kernel
theorem dL_build_253 : decode cL_build 253 = .ok (.invokevirtual 50, 3) := by decide +kernel
theorem dL_build_256 : decode cL_build 256 = .ok (.iload 6, 2) := by decide +kernel
theorem dL_build_258 : decode cL_build 258 = .ok (.if_icmp .eq 5, 3) := by decide +kernel
theorem dL_build_261 : decode cL_build 261 = .ok (.aconst_null, 1) := by decide +kernel
theorem dL_build_262 : decode cL_build 262 = .ok (.areturn, 1) := by decide +kernel
theorem dL_build_263 : decode cL_build 263 = .ok (.iconst 5, 1) := by decide +kernel
theorem dL_build_264 : decode cL_build 264 = .ok (.newarray .int, 2) := by decide +kernel
theorem dL_build_266 : decode cL_build 266 = .ok (.dup, 1) := by decide +kernel
theorem dL_build_267 : decode cL_build 267 = .ok (.iconst 0, 1) := by decide +kernel
theorem dL_build_268 : decode cL_build 268 = .ok (.iload 10, 2) := by decide +kernel
theorem dL_build_270 : decode cL_build 270 = .ok (.ifCond .eq 7, 3) := by decide +kernel
theorem dL_build_273 : decode cL_build 273 = .ok (.iconst 1, 1) := by decide +kernel
theorem dL_build_274 : decode cL_build 274 = .ok (.goto 4, 3) := by decide +kernel
theorem dL_build_277 : decode cL_build 277 = .ok (.iconst 0, 1) := by decide +kernel
theorem dL_build_278 : decode cL_build 278 = .ok (.iastore, 1) := by decide +kernel
theorem dL_build_279 : decode cL_build 279 = .ok (.dup, 1) := by decide +kernel
theorem dL_build_280 : decode cL_build 280 = .ok (.iconst 1, 1) := by decide +kernel
theorem dL_build_281 : decode cL_build 281 = .ok (.iload 8, 2) := by decide +kernel
theorem dL_build_283 : decode cL_build 283 = .ok (.iastore, 1) := by decide +kernel
theorem dL_build_284 : decode cL_build 284 = .ok (.dup, 1) := by decide +kernel
theorem dL_build_285 : decode cL_build 285 = .ok (.iconst 2, 1) := by decide +kernel
theorem dL_build_286 : decode cL_build 286 = .ok (.iload 9, 2) := by decide +kernel
theorem dL_build_288 : decode cL_build 288 = .ok (.iastore, 1) := by decide +kernel
theorem dL_build_289 : decode cL_build 289 = .ok (.dup, 1) := by decide +kernel
theorem dL_build_290 : decode cL_build 290 = .ok (.iconst 3, 1) := by decide +kernel
theorem dL_build_291 : decode cL_build 291 = .ok (.iload 11, 2) := by decide +kernel
theorem dL_build_293 : decode cL_build 293 = .ok (.iastore, 1) := by decide +kernel
theorem dL_build_294 : decode cL_build 294 = .ok (.dup, 1) := by decide +kernel
theorem dL_build_295 : decode cL_build 295 = .ok (.iconst 4, 1) := by decide +kernel
theorem dL_build_296 : decode cL_build 296 = .ok (.iconst 1, 1) := by decide +kernel
theorem dL_build_297 : decode cL_build 297 = .ok (.iastore, 1) := by decide +kernel
theorem dL_build_298 : decode cL_build 298 = .ok (.astore 12, 2) := by decide +kernel
theorem dL_build_300 : decode cL_build 300 = .ok (.iload 7, 2) := by decide +kernel
theorem dL_build_302 : decode cL_build 302 = .ok (.bipush 6, 2) := by decide +kernel
theorem dL_build_304 : decode cL_build 304 = .ok (.ishr, 1) := by decide +kernel
theorem dL_build_305 : decode cL_build 305 = .ok (.iconst 4, 1) := by decide +kernel
theorem dL_build_306 : decode cL_build 306 = .ok (.invokestatic 34, 3) := by decide +kernel
theorem dL_build_309 : decode cL_build 309 = .ok (.ifCond .ne 20, 3) := by decide +kernel
theorem dL_build_312 : decode cL_build 312 = .ok (.aload_n 0, 1) := by decide +kernel
theorem dL_build_313 : decode cL_build 313 = .ok (.iload 6, 2) := by decide +kernel
theorem dL_build_315 : decode cL_build 315 = .ok (.iconst 0, 1) := by decide +kernel
theorem dL_build_316 : decode cL_build 316 = .ok (.invokevirtual 54, 3) := by decide +kernel
theorem dL_build_319 : decode cL_build 319 = .ok (.ifCond .ne 5, 3) := by decide +kernel
theorem dL_build_322 : decode cL_build 322 = .ok (.aconst_null, 1) := by decide +kernel
theorem dL_build_323 : decode cL_build 323 = .ok (.areturn, 1) := by decide +kernel
theorem dL_build_324 : decode cL_build 324 = .ok (.aload 12, 2) := by decide +kernel
theorem dL_build_326 : decode cL_build 326 = .ok (.iconst 4, 1) := by decide +kernel
theorem dL_build_327 : decode cL_build 327 = .ok (.iconst 0, 1) := by decide +kernel
theorem dL_build_328 : decode cL_build 328 = .ok (.iastore, 1) := by decide +kernel
theorem dL_build_329 : decode cL_build 329 = .ok (.iload 7, 2) := by decide +kernel
theorem dL_build_331 : decode cL_build 331 = .ok (.bipush 8, 2) := by decide +kernel
theorem dL_build_333 : decode cL_build 333 = .ok (.ishr, 1) := by decide +kernel
theorem dL_build_334 : decode cL_build 334 = .ok (.iconst 4, 1) := by decide +kernel
theorem dL_build_335 : decode cL_build 335 = .ok (.invokestatic 34, 3) := by decide +kernel
theorem dL_build_338 : decode cL_build 338 = .ok (.istore 13, 2) := by decide +kernel
theorem dL_build_340 : decode cL_build 340 = .ok (.iconst 0, 1) := by decide +kernel
theorem dL_build_341 : decode cL_build 341 = .ok (.istore 14, 2) := by decide +kernel
theorem dL_build_343 : decode cL_build 343 = .ok (.iload 14, 2) := by decide +kernel
theorem dL_build_345 : decode cL_build 345 = .ok (.iload 13, 2) := by decide +kernel
theorem dL_build_347 : decode cL_build 347 = .ok (.if_icmp .ge 108, 3) := by decide +kernel
theorem dL_build_350 : decode cL_build 350 = .ok (.iconst 1, 1) := by decide +kernel
theorem dL_build_351 : decode cL_build 351 = .ok (.iload 7, 2) := by decide +kernel
theorem dL_build_353 : decode cL_build 353 = .ok (.iconst 3, 1) := by decide +kernel
theorem dL_build_354 : decode cL_build 354 = .ok (.iload 14, 2) := by decide +kernel
theorem dL_build_356 : decode cL_build 356 = .ok (.imul, 1) := by decide +kernel
theorem dL_build_357 : decode cL_build 357 = .ok (.ishr, 1) := by decide +kernel
theorem dL_build_358 : decode cL_build 358 = .ok (.bipush 97, 2) := by decide +kernel
theorem dL_build_360 : decode cL_build 360 = .ok (.iload 14, 2) := by decide +kernel
theorem dL_build_362 : decode cL_build 362 = .ok (.imul, 1) := by decide +kernel
theorem dL_build_363 : decode cL_build 363 = .ok (.iadd, 1) := by decide +kernel
theorem dL_build_364 : decode cL_build 364 = .ok (.bipush 30, 2) := by decide +kernel
theorem dL_build_366 : decode cL_build 366 = .ok (.invokestatic 34, 3) := by decide +kernel
theorem dL_build_369 : decode cL_build 369 = .ok (.iadd, 1) := by decide +kernel
theorem dL_build_370 : decode cL_build 370 = .ok (.istore 15, 2) := by decide +kernel
theorem dL_build_372 : decode cL_build 372 = .ok (.iconst 0, 1) := by decide +kernel
theorem dL_build_373 : decode cL_build 373 = .ok (.istore 16, 2) := by decide +kernel
theorem dL_build_375 : decode cL_build 375 = .ok (.iconst 5, 1) := by decide +kernel
theorem dL_build_376 : decode cL_build 376 = .ok (.istore 17, 2) := by decide +kernel
theorem dL_build_378 : decode cL_build 378 = .ok (.iload 17, 2) := by decide +kernel
theorem dL_build_380 : decode cL_build 380 = .ok (.aload 12, 2) := by decide +kernel
theorem dL_build_382 : decode cL_build 382 = .ok (.arraylength, 1) := by decide +kernel
theorem dL_build_383 : decode cL_build 383 = .ok (.if_icmp .ge 31, 3) := by decide +kernel
theorem dL_build_386 : decode cL_build 386 = .ok (.iload 16, 2) := by decide +kernel
theorem dL_build_388 : decode cL_build 388 = .ok (.ifCond .ne 13, 3) := by decide +kernel
theorem dL_build_391 : decode cL_build 391 = .ok (.aload 12, 2) := by decide +kernel
theorem dL_build_393 : decode cL_build 393 = .ok (.iload 17, 2) := by decide +kernel
theorem dL_build_395 : decode cL_build 395 = .ok (.iaload, 1) := by decide +kernel
theorem dL_build_396 : decode cL_build 396 = .ok (.iload 15, 2) := by decide +kernel
theorem dL_build_398 : decode cL_build 398 = .ok (.if_icmp .ne 7, 3) := by decide +kernel
theorem dL_build_401 : decode cL_build 401 = .ok (.iconst 1, 1) := by decide +kernel
theorem dL_build_402 : decode cL_build 402 = .ok (.goto 4, 3) := by decide +kernel
theorem dL_build_405 : decode cL_build 405 = .ok (.iconst 0, 1) := by decide +kernel
theorem dL_build_406 : decode cL_build 406 = .ok (.istore 16, 2) := by decide +kernel
theorem dL_build_408 : decode cL_build 408 = .ok (.iinc 17 1, 3) := by decide +kernel
theorem dL_build_411 : decode cL_build 411 = .ok (.goto (-33), 3) := by decide +kernel
theorem dL_build_414 : decode cL_build 414 = .ok (.iload 16, 2) := by decide +kernel
theorem dL_build_416 : decode cL_build 416 = .ok (.ifCond .eq 6, 3) := by decide +kernel
theorem dL_build_419 : decode cL_build 419 = .ok (.goto 30, 3) := by decide +kernel
theorem dL_build_422 : decode cL_build 422 = .ok (.aload 12, 2) := by decide +kernel
theorem dL_build_424 : decode cL_build 424 = .ok (.iload 15, 2) := by decide +kernel
theorem dL_build_426 : decode cL_build 426 = .ok (.invokestatic 46, 3) := by decide +kernel
theorem dL_build_429 : decode cL_build 429 = .ok (.astore 12, 2) := by decide +kernel
theorem dL_build_431 : decode cL_build 431 = .ok (.aload_n 0, 1) := by decide +kernel
theorem dL_build_432 : decode cL_build 432 = .ok (.iload 6, 2) := by decide +kernel
theorem dL_build_434 : decode cL_build 434 = .ok (.iload 15, 2) := by decide +kernel
theorem dL_build_436 : decode cL_build 436 = .ok (.invokevirtual 58, 3) := by decide +kernel
theorem dL_build_439 : decode cL_build 439 = .ok (.aload 12, 2) := by decide +kernel
theorem dL_build_441 : decode cL_build 441 = .ok (.arraylength, 1) := by decide +kernel
theorem dL_build_442 : decode cL_build 442 = .ok (.iconst 5, 1) := by decide +kernel
theorem dL_build_443 : decode cL_build 443 = .ok (.isub, 1) := by decide +kernel
theorem dL_build_444 : decode cL_build 444 = .ok (.if_icmp .eq 5, 3) := by decide +kernel
theorem dL_build_447 : decode cL_build 447 = .ok (.aconst_null, 1) := by decide +kernel
theorem dL_build_448 : decode cL_build 448 = .ok (.areturn, 1) := by decide +kernel
theorem dL_build_449 : decode cL_build 449 = .ok (.iinc 14 1, 3) := by decide +kernel
theorem dL_build_452 : decode cL_build 452 = .ok (.goto (-109), 3) := by decide +kernel
theorem dL_build_455 : decode cL_build 455 = .ok (.iload 6, 2) := by decide +kernel
theorem dL_build_457 : decode cL_build 457 = .ok (.iconst 1, 1) := by decide +kernel
theorem dL_build_458 : decode cL_build 458 = .ok (.iadd, 1) := by decide +kernel
theorem dL_build_459 : decode cL_build 459 = .ok (.anewarray 61, 3) := by decide +kernel
theorem dL_build_462 : decode cL_build 462 = .ok (.astore 14, 2) := by decide +kernel
theorem dL_build_464 : decode cL_build 464 = .ok (.iconst 0, 1) := by decide +kernel
theorem dL_build_465 : decode cL_build 465 = .ok (.istore 15, 2) := by decide +kernel
theorem dL_build_467 : decode cL_build 467 = .ok (.iload 15, 2) := by decide +kernel
theorem dL_build_469 : decode cL_build 469 = .ok (.iload 6, 2) := by decide +kernel
theorem dL_build_471 : decode cL_build 471 = .ok (.if_icmp .ge 22, 3) := by decide +kernel
theorem dL_build_474 : decode cL_build 474 = .ok (.aload 14, 2) := by decide +kernel
theorem dL_build_476 : decode cL_build 476 = .ok (.iload 15, 2) := by decide +kernel
theorem dL_build_478 : decode cL_build 478 = .ok (.aload 4, 2) := by decide +kernel
theorem dL_build_480 : decode cL_build 480 = .ok (.getfield 62, 3) := by decide +kernel
theorem dL_build_483 : decode cL_build 483 = .ok (.iload 15, 2) := by decide +kernel
theorem dL_build_485 : decode cL_build 485 = .ok (.aaload, 1) := by decide +kernel
theorem dL_build_486 : decode cL_build 486 = .ok (.aastore, 1) := by decide +kernel
theorem dL_build_487 : decode cL_build 487 = .ok (.iinc 15 1, 3) := by decide +kernel
theorem dL_build_490 : decode cL_build 490 = .ok (.goto (-23), 3) := by decide +kernel
theorem dL_build_493 : decode cL_build 493 = .ok (.aload 14, 2) := by decide +kernel
theorem dL_build_495 : decode cL_build 495 = .ok (.iload 6, 2) := by decide +kernel
theorem dL_build_497 : decode cL_build 497 = .ok (.aload 12, 2) := by decide +kernel
theorem dL_build_499 : decode cL_build 499 = .ok (.aastore, 1) := by decide +kernel
theorem dL_build_500 : decode cL_build 500 = .ok (.aload 4, 2) := by decide +kernel
theorem dL_build_502 : decode cL_build 502 = .ok (.aload 14, 2) := by decide +kernel
theorem dL_build_504 : decode cL_build 504 = .ok (.putfield 62, 3) := by decide +kernel
theorem dL_build_507 : decode cL_build 507 = .ok (.iinc 6 1, 3) := by decide +kernel
theorem dL_build_510 : decode cL_build 510 = .ok (.goto (-372), 3) := by decide +kernel
theorem dL_build_513 : decode cL_build 513 = .ok (.aload 4, 2) := by decide +kernel
theorem dL_build_515 : decode cL_build 515 = .ok (.areturn, 1) := by decide +kernel
theorem dL_law_0 : decode cL_law 0 = .ok (.new 25, 3) := by decide +kernel
