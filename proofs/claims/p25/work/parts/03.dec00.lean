theorem dX0_init_0 : decode cX0_init 0 = .ok (.aload_n 0, 1) := by decide +kernel
theorem dX0_init_1 : decode cX0_init 1 = .ok (.invokespecial 3, 3) := by decide +kernel
theorem dX0_init_4 : decode cX0_init 4 = .ok (.aload_n 0, 1) := by decide +kernel
theorem dX0_init_5 : decode cX0_init 5 = .ok (.iconst 1, 1) := by decide +kernel
theorem dX0_init_6 : decode cX0_init 6 = .ok (.putfield 9, 3) := by decide +kernel
theorem dX0_init_9 : decode cX0_init 9 = .ok (.aload_n 0, 1) := by decide +kernel
theorem dX0_init_10 : decode cX0_init 10 = .ok (.iconst 0, 1) := by decide +kernel
theorem dX0_init_11 : decode cX0_init 11 = .ok (.putfield 15, 3) := by decide +kernel
theorem dX0_init_14 : decode cX0_init 14 = .ok (.aload_n 0, 1) := by decide +kernel
theorem dX0_init_15 : decode cX0_init 15 = .ok (.bipush 6, 2) := by decide +kernel
theorem dX0_init_17 : decode cX0_init 17 = .ok (.newarray .int, 2) := by decide +kernel
theorem dX0_init_19 : decode cX0_init 19 = .ok (.putfield 19, 3) := by decide +kernel
theorem dX0_init_22 : decode cX0_init 22 = .ok (.aload_n 0, 1) := by decide +kernel
theorem dX0_init_23 : decode cX0_init 23 = .ok (.iload_n 1, 1) := by decide +kernel
theorem dX0_init_24 : decode cX0_init 24 = .ok (.putfield 23, 3) := by decide +kernel
theorem dX0_init_27 : decode cX0_init 27 = .ok (.aload_n 0, 1) := by decide +kernel
theorem dX0_init_28 : decode cX0_init 28 = .ok (.iload_n 2, 1) := by decide +kernel
theorem dX0_init_29 : decode cX0_init 29 = .ok (.putfield 26, 3) := by decide +kernel
theorem dX0_init_32 : decode cX0_init 32 = .ok (.aload_n 0, 1) := by decide +kernel
theorem dX0_init_33 : decode cX0_init 33 = .ok (.iload_n 3, 1) := by decide +kernel
theorem dX0_init_34 : decode cX0_init 34 = .ok (.putfield 29, 3) := by decide +kernel
theorem dX0_init_37 : decode cX0_init 37 = .ok (.aload_n 0, 1) := by decide +kernel
theorem dX0_init_38 : decode cX0_init 38 = .ok (.iload 4, 2) := by decide +kernel
theorem dX0_init_40 : decode cX0_init 40 = .ok (.putfield 32, 3) := by decide +kernel
theorem dX0_init_43 : decode cX0_init 43 = .ok (.return_, 1) := by decide +kernel
theorem dX0_runsAt_0 : decode cX0_runsAt 0 = .ok (.aload_n 0, 1) := by decide +kernel
theorem dX0_runsAt_1 : decode cX0_runsAt 1 = .ok (.getfield 9, 3) := by decide +kernel
theorem dX0_runsAt_4 : decode cX0_runsAt 4 = .ok (.aload_n 0, 1) := by decide +kernel
theorem dX0_runsAt_5 : decode cX0_runsAt 5 = .ok (.iload_n 1, 1) := by decide +kernel
theorem dX0_runsAt_6 : decode cX0_runsAt 6 = .ok (.iconst 1, 1) := by decide +kernel
theorem dX0_runsAt_7 : decode cX0_runsAt 7 = .ok (.iadd, 1) := by decide +kernel
theorem dX0_runsAt_8 : decode cX0_runsAt 8 = .ok (.invokevirtual 35, 3) := by decide +kernel
theorem dX0_runsAt_11 : decode cX0_runsAt 11 = .ok (.iconst 2, 1) := by decide +kernel
theorem dX0_runsAt_12 : decode cX0_runsAt 12 = .ok (.irem, 1) := by decide +kernel
theorem dX0_runsAt_13 : decode cX0_runsAt 13 = .ok (.ifCond .ne 7, 3) := by decide +kernel
theorem dX0_runsAt_16 : decode cX0_runsAt 16 = .ok (.iconst 1, 1) := by decide +kernel
theorem dX0_runsAt_17 : decode cX0_runsAt 17 = .ok (.goto 4, 3) := by decide +kernel
theorem dX0_runsAt_20 : decode cX0_runsAt 20 = .ok (.iconst 0, 1) := by decide +kernel
theorem dX0_runsAt_21 : decode cX0_runsAt 21 = .ok (.if_icmp .ne 7, 3) := by decide +kernel
theorem dX0_runsAt_24 : decode cX0_runsAt 24 = .ok (.iconst 1, 1) := by decide +kernel
theorem dX0_runsAt_25 : decode cX0_runsAt 25 = .ok (.goto 4, 3) := by decide +kernel
theorem dX0_runsAt_28 : decode cX0_runsAt 28 = .ok (.iconst 0, 1) := by decide +kernel
theorem dX0_runsAt_29 : decode cX0_runsAt 29 = .ok (.ireturn, 1) := by decide +kernel
theorem dX0_hasToggle_0 : decode cX0_hasToggle 0 = .ok (.aload_n 0, 1) := by decide +kernel
theorem dX0_hasToggle_1 : decode cX0_hasToggle 1 = .ok (.iload_n 1, 1) := by decide +kernel
theorem dX0_hasToggle_2 : decode cX0_hasToggle 2 = .ok (.invokevirtual 35, 3) := by decide +kernel
theorem dX0_hasToggle_5 : decode cX0_hasToggle 5 = .ok (.aload_n 0, 1) := by decide +kernel
theorem dX0_hasToggle_6 : decode cX0_hasToggle 6 = .ok (.iload_n 1, 1) := by decide +kernel
theorem dX0_hasToggle_7 : decode cX0_hasToggle 7 = .ok (.iconst 1, 1) := by decide +kernel
theorem dX0_hasToggle_8 : decode cX0_hasToggle 8 = .ok (.iadd, 1) := by decide +kernel
theorem dX0_hasToggle_9 : decode cX0_hasToggle 9 = .ok (.invokevirtual 35, 3) := by decide +kernel
theorem dX0_hasToggle_12 : decode cX0_hasToggle 12 = .ok (.if_icmp .ge 7, 3) := by decide +kernel
theorem dX0_hasToggle_15 : decode cX0_hasToggle 15 = .ok (.iconst 1, 1) := by decide +kernel
theorem dX0_hasToggle_16 : decode cX0_hasToggle 16 = .ok (.goto 4, 3) := by decide +kernel
theorem dX0_hasToggle_19 : decode cX0_hasToggle 19 = .ok (.iconst 0, 1) := by decide +kernel
theorem dX0_hasToggle_20 : decode cX0_hasToggle 20 = .ok (.ireturn, 1) := by decide +kernel
theorem dX0_toggleTime_0 : decode cX0_toggleTime 0 = .ok (.iload_n 1, 1) := by decide +kernel
theorem dX0_toggleTime_1 : decode cX0_toggleTime 1 = .ok (.ifCond .lt 20, 3) := by decide +kernel
theorem dX0_toggleTime_4 : decode cX0_toggleTime 4 = .ok (.iload_n 1, 1) := by decide +kernel
theorem dX0_toggleTime_5 : decode cX0_toggleTime 5 = .ok (.aload_n 0, 1) := by decide +kernel
theorem dX0_toggleTime_6 : decode cX0_toggleTime 6 = .ok (.getfield 15, 3) := by decide +kernel
theorem dX0_toggleTime_9 : decode cX0_toggleTime 9 = .ok (.if_icmp .ge 12, 3) := by decide +kernel
theorem dX0_toggleTime_12 : decode cX0_toggleTime 12 = .ok (.aload_n 0, 1) := by decide +kernel
theorem dX0_toggleTime_13 : decode cX0_toggleTime 13 = .ok (.getfield 19, 3) := by decide +kernel
theorem dX0_toggleTime_16 : decode cX0_toggleTime 16 = .ok (.iload_n 1, 1) := by decide +kernel
theorem dX0_toggleTime_17 : decode cX0_toggleTime 17 = .ok (.iaload, 1) := by decide +kernel
theorem dX0_toggleTime_18 : decode cX0_toggleTime 18 = .ok (.goto 4, 3) := by decide +kernel
theorem dX0_toggleTime_21 : decode cX0_toggleTime 21 = .ok (.iconst (-1), 1) := by decide +kernel
theorem dX0_toggleTime_22 : decode cX0_toggleTime 22 = .ok (.ireturn, 1) := by decide +kernel
theorem dX0_toggleBehind_0 : decode cX0_toggleBehind 0 = .ok (.aload_n 0, 1) := by decide +kernel
theorem dX0_toggleBehind_1 : decode cX0_toggleBehind 1 = .ok (.aload_n 0, 1) := by decide +kernel
theorem dX0_toggleBehind_2 : decode cX0_toggleBehind 2 = .ok (.iload_n 1, 1) := by decide +kernel
theorem dX0_toggleBehind_3 : decode cX0_toggleBehind 3 = .ok (.iconst 1, 1) := by decide +kernel
theorem dX0_toggleBehind_4 : decode cX0_toggleBehind 4 = .ok (.iadd, 1) := by decide +kernel
theorem dX0_toggleBehind_5 : decode cX0_toggleBehind 5 = .ok (.invokevirtual 35, 3) := by decide +kernel
theorem dX0_toggleBehind_8 : decode cX0_toggleBehind 8 = .ok (.invokevirtual 39, 3) := by decide +kernel
theorem dX0_toggleBehind_11 : decode cX0_toggleBehind 11 = .ok (.ireturn, 1) := by decide +kernel
theorem dX0_putToggle_0 : decode cX0_putToggle 0 = .ok (.aload_n 0, 1) := by decide +kernel
theorem dX0_putToggle_1 : decode cX0_putToggle 1 = .ok (.getfield 15, 3) := by decide +kernel
theorem dX0_putToggle_4 : decode cX0_putToggle 4 = .ok (.bipush 6, 2) := by decide +kernel
theorem dX0_putToggle_6 : decode cX0_putToggle 6 = .ok (.if_icmp .lt 4, 3) := by decide +kernel
theorem dX0_putToggle_9 : decode cX0_putToggle 9 = .ok (.return_, 1) := by decide +kernel
theorem dX0_putToggle_10 : decode cX0_putToggle 10 = .ok (.aload_n 0, 1) := by decide +kernel
theorem dX0_putToggle_11 : decode cX0_putToggle 11 = .ok (.iload_n 1, 1) := by decide +kernel
theorem dX0_putToggle_12 : decode cX0_putToggle 12 = .ok (.invokevirtual 35, 3) := by decide +kernel
theorem dX0_putToggle_15 : decode cX0_putToggle 15 = .ok (.istore_n 2, 1) := by decide +kernel
theorem dX0_putToggle_16 : decode cX0_putToggle 16 = .ok (.aload_n 0, 1) := by decide +kernel
theorem dX0_putToggle_17 : decode cX0_putToggle 17 = .ok (.getfield 15, 3) := by decide +kernel
theorem dX0_putToggle_20 : decode cX0_putToggle 20 = .ok (.istore_n 3, 1) := by decide +kernel
theorem dX0_putToggle_21 : decode cX0_putToggle 21 = .ok (.iload_n 3, 1) := by decide +kernel
theorem dX0_putToggle_22 : decode cX0_putToggle 22 = .ok (.iload_n 2, 1) := by decide +kernel
theorem dX0_putToggle_23 : decode cX0_putToggle 23 = .ok (.if_icmp .le 23, 3) := by decide +kernel
theorem dX0_putToggle_26 : decode cX0_putToggle 26 = .ok (.aload_n 0, 1) := by decide +kernel
theorem dX0_putToggle_27 : decode cX0_putToggle 27 = .ok (.getfield 19, 3) := by decide +kernel
theorem dX0_putToggle_30 : decode cX0_putToggle 30 = .ok (.iload_n 3, 1) := by decide +kernel
theorem dX0_putToggle_31 : decode cX0_putToggle 31 = .ok (.aload_n 0, 1) := by decide +kernel
theorem dX0_putToggle_32 : decode cX0_putToggle 32 = .ok (.getfield 19, 3) := by decide +kernel
theorem dX0_putToggle_35 : decode cX0_putToggle 35 = .ok (.iload_n 3, 1) := by decide +kernel
theorem dX0_putToggle_36 : decode cX0_putToggle 36 = .ok (.iconst 1, 1) := by decide +kernel
theorem dX0_putToggle_37 : decode cX0_putToggle 37 = .ok (.isub, 1) := by decide +kernel
theorem dX0_putToggle_38 : decode cX0_putToggle 38 = .ok (.iaload, 1) := by decide +kernel
theorem dX0_putToggle_39 : decode cX0_putToggle 39 = .ok (.iastore, 1) := by decide +kernel
theorem dX0_putToggle_40 : decode cX0_putToggle 40 = .ok (.iinc 3 (-1), 3) := by decide +kernel
theorem dX0_putToggle_43 : decode cX0_putToggle 43 = .ok (.goto (-22), 3) := by decide +kernel
theorem dX0_putToggle_46 : decode cX0_putToggle 46 = .ok (.aload_n 0, 1) := by decide +kernel
theorem dX0_putToggle_47 : decode cX0_putToggle 47 = .ok (.getfield 19, 3) := by decide +kernel
theorem dX0_putToggle_50 : decode cX0_putToggle 50 = .ok (.iload_n 2, 1) := by decide +kernel
theorem dX0_putToggle_51 : decode cX0_putToggle 51 = .ok (.iload_n 1, 1) := by decide +kernel
theorem dX0_putToggle_52 : decode cX0_putToggle 52 = .ok (.iastore, 1) := by decide +kernel
theorem dX0_putToggle_53 : decode cX0_putToggle 53 = .ok (.aload_n 0, 1) := by decide +kernel
theorem dX0_putToggle_54 : decode cX0_putToggle 54 = .ok (.dup, 1) := by decide +kernel
theorem dX0_putToggle_55 : decode cX0_putToggle 55 = .ok (.getfield 15, 3) := by decide +kernel
theorem dX0_putToggle_58 : decode cX0_putToggle 58 = .ok (.iconst 1, 1) := by decide +kernel
theorem dX0_putToggle_59 : decode cX0_putToggle 59 = .ok (.iadd, 1) := by decide +kernel
theorem dX0_putToggle_60 : decode cX0_putToggle 60 = .ok (.putfield 15, 3) := by decide +kernel
theorem dX0_putToggle_63 : decode cX0_putToggle 63 = .ok (.return_, 1) := by decide +kernel
theorem dX0_dropToggle_0 : decode cX0_dropToggle 0 = .ok (.aload_n 0, 1) := by decide +kernel
theorem dX0_dropToggle_1 : decode cX0_dropToggle 1 = .ok (.iload_n 1, 1) := by decide +kernel
theorem dX0_dropToggle_2 : decode cX0_dropToggle 2 = .ok (.invokevirtual 35, 3) := by decide +kernel
theorem dX0_dropToggle_5 : decode cX0_dropToggle 5 = .ok (.iconst 1, 1) := by decide +kernel
theorem dX0_dropToggle_6 : decode cX0_dropToggle 6 = .ok (.iadd, 1) := by decide +kernel
theorem dX0_dropToggle_7 : decode cX0_dropToggle 7 = .ok (.istore_n 2, 1) := by decide +kernel
theorem dX0_dropToggle_8 : decode cX0_dropToggle 8 = .ok (.iload_n 2, 1) := by decide +kernel
theorem dX0_dropToggle_9 : decode cX0_dropToggle 9 = .ok (.aload_n 0, 1) := by decide +kernel
theorem dX0_dropToggle_10 : decode cX0_dropToggle 10 = .ok (.getfield 15, 3) := by decide +kernel
theorem dX0_dropToggle_13 : decode cX0_dropToggle 13 = .ok (.if_icmp .ge 23, 3) := by decide +kernel
theorem dX0_dropToggle_16 : decode cX0_dropToggle 16 = .ok (.aload_n 0, 1) := by decide +kernel
theorem dX0_dropToggle_17 : decode cX0_dropToggle 17 = .ok (.getfield 19, 3) := by decide +kernel
theorem dX0_dropToggle_20 : decode cX0_dropToggle 20 = .ok (.iload_n 2, 1) := by decide +kernel
theorem dX0_dropToggle_21 : decode cX0_dropToggle 21 = .ok (.iconst 1, 1) := by decide +kernel
theorem dX0_dropToggle_22 : decode cX0_dropToggle 22 = .ok (.isub, 1) := by decide +kernel
theorem dX0_dropToggle_23 : decode cX0_dropToggle 23 = .ok (.aload_n 0, 1) := by decide +kernel
theorem dX0_dropToggle_24 : decode cX0_dropToggle 24 = .ok (.getfield 19, 3) := by decide +kernel
theorem dX0_dropToggle_27 : decode cX0_dropToggle 27 = .ok (.iload_n 2, 1) := by decide +kernel
theorem dX0_dropToggle_28 : decode cX0_dropToggle 28 = .ok (.iaload, 1) := by decide +kernel
theorem dX0_dropToggle_29 : decode cX0_dropToggle 29 = .ok (.iastore, 1) := by decide +kernel
theorem dX0_dropToggle_30 : decode cX0_dropToggle 30 = .ok (.iinc 2 1, 3) := by decide +kernel
theorem dX0_dropToggle_33 : decode cX0_dropToggle 33 = .ok (.goto (-25), 3) := by decide +kernel
theorem dX0_dropToggle_36 : decode cX0_dropToggle 36 = .ok (.aload_n 0, 1) := by decide +kernel
theorem dX0_dropToggle_37 : decode cX0_dropToggle 37 = .ok (.dup, 1) := by decide +kernel
theorem dX0_dropToggle_38 : decode cX0_dropToggle 38 = .ok (.getfield 15, 3) := by decide +kernel
theorem dX0_dropToggle_41 : decode cX0_dropToggle 41 = .ok (.iconst 1, 1) := by decide +kernel
theorem dX0_dropToggle_42 : decode cX0_dropToggle 42 = .ok (.isub, 1) := by decide +kernel
theorem dX0_dropToggle_43 : decode cX0_dropToggle 43 = .ok (.putfield 15, 3) := by decide +kernel
theorem dX0_dropToggle_46 : decode cX0_dropToggle 46 = .ok (.return_, 1) := by decide +kernel
theorem dX0_togglesBefore_0 : decode cX0_togglesBefore 0 = .ok (.iconst 0, 1) := by decide +kernel
theorem dX0_togglesBefore_1 : decode cX0_togglesBefore 1 = .ok (.istore_n 2, 1) := by decide +kernel
theorem dX0_togglesBefore_2 : decode cX0_togglesBefore 2 = .ok (.iconst 0, 1) := by decide +kernel
theorem dX0_togglesBefore_3 : decode cX0_togglesBefore 3 = .ok (.istore_n 3, 1) := by decide +kernel
theorem dX0_togglesBefore_4 : decode cX0_togglesBefore 4 = .ok (.iload_n 3, 1) := by decide +kernel
theorem dX0_togglesBefore_5 : decode cX0_togglesBefore 5 = .ok (.aload_n 0, 1) := by decide +kernel
theorem dX0_togglesBefore_6 : decode cX0_togglesBefore 6 = .ok (.getfield 15, 3) := by decide +kernel
theorem dX0_togglesBefore_9 : decode cX0_togglesBefore 9 = .ok (.if_icmp .ge 22, 3) := by decide +kernel
theorem dX0_togglesBefore_12 : decode cX0_togglesBefore 12 = .ok (.aload_n 0, 1) := by decide +kernel
theorem dX0_togglesBefore_13 : decode cX0_togglesBefore 13 = .ok (.getfield 19, 3) := by decide +kernel
theorem dX0_togglesBefore_16 : decode cX0_togglesBefore 16 = .ok (.iload_n 3, 1) := by decide +kernel
theorem dX0_togglesBefore_17 : decode cX0_togglesBefore 17 = .ok (.iaload, 1) := by decide +kernel
theorem dX0_togglesBefore_18 : decode cX0_togglesBefore 18 = .ok (.iload_n 1, 1) := by decide +kernel
theorem dX0_togglesBefore_19 : decode cX0_togglesBefore 19 = .ok (.if_icmp .ge 6, 3) := by decide +kernel
theorem dX0_togglesBefore_22 : decode cX0_togglesBefore 22 = .ok (.iinc 2 1, 3) := by decide +kernel
theorem dX0_togglesBefore_25 : decode cX0_togglesBefore 25 = .ok (.iinc 3 1, 3) := by decide +kernel
theorem dX0_togglesBefore_28 : decode cX0_togglesBefore 28 = .ok (.goto (-24), 3) := by decide +kernel
theorem dX0_togglesBefore_31 : decode cX0_togglesBefore 31 = .ok (.iload_n 2, 1) := by decide +kernel
theorem dX0_togglesBefore_32 : decode cX0_togglesBefore 32 = .ok (.ireturn, 1) := by decide +kernel
theorem dX1_init_0 : decode cX1_init 0 = .ok (.aload_n 0, 1) := by decide +kernel
theorem dX1_init_1 : decode cX1_init 1 = .ok (.invokespecial 3, 3) := by decide +kernel
theorem dX1_init_4 : decode cX1_init 4 = .ok (.aload_n 0, 1) := by decide +kernel
theorem dX1_init_5 : decode cX1_init 5 = .ok (.bipush 8, 2) := by decide +kernel
theorem dX1_init_7 : decode cX1_init 7 = .ok (.newarray .int, 2) := by decide +kernel
theorem dX1_init_9 : decode cX1_init 9 = .ok (.putfield 9, 3) := by decide +kernel
theorem dX1_init_12 : decode cX1_init 12 = .ok (.aload_n 0, 1) := by decide +kernel
theorem dX1_init_13 : decode cX1_init 13 = .ok (.bipush 8, 2) := by decide +kernel
theorem dX1_init_15 : decode cX1_init 15 = .ok (.newarray .long, 2) := by decide +kernel
theorem dX1_init_17 : decode cX1_init 17 = .ok (.putfield 15, 3) := by decide +kernel
theorem dX1_init_20 : decode cX1_init 20 = .ok (.aload_n 0, 1) := by decide +kernel
theorem dX1_init_21 : decode cX1_init 21 = .ok (.bipush 7, 2) := by decide +kernel
theorem dX1_init_23 : decode cX1_init 23 = .ok (.bipush 8, 2) := by decide +kernel
theorem dX1_init_25 : decode cX1_init 25 = .ok (.multianewarray 19 2, 4) := by decide +kernel
theorem dX1_init_29 : decode cX1_init 29 = .ok (.putfield 21, 3) := by decide +kernel
theorem dX1_init_32 : decode cX1_init 32 = .ok (.aload_n 0, 1) := by decide +kernel
theorem dX1_init_33 : decode cX1_init 33 = .ok (.sipush 256, 3) := by decide +kernel
theorem dX1_init_36 : decode cX1_init 36 = .ok (.newarray .long, 2) := by decide +kernel
theorem dX1_init_38 : decode cX1_init 38 = .ok (.putfield 24, 3) := by decide +kernel
theorem dX1_init_41 : decode cX1_init 41 = .ok (.aload_n 0, 1) := by decide +kernel
theorem dX1_init_42 : decode cX1_init 42 = .ok (.iconst 0, 1) := by decide +kernel
theorem dX1_init_43 : decode cX1_init 43 = .ok (.putfield 27, 3) := by decide +kernel
theorem dX1_init_46 : decode cX1_init 46 = .ok (.return_, 1) := by decide +kernel
theorem dX1_clear_0 : decode cX1_clear 0 = .ok (.aload_n 0, 1) := by decide +kernel
theorem dX1_clear_1 : decode cX1_clear 1 = .ok (.iconst 0, 1) := by decide +kernel
theorem dX1_clear_2 : decode cX1_clear 2 = .ok (.putfield 27, 3) := by decide +kernel
theorem dX1_clear_5 : decode cX1_clear 5 = .ok (.iconst 0, 1) := by decide +kernel
theorem dX1_clear_6 : decode cX1_clear 6 = .ok (.istore_n 1, 1) := by decide +kernel
theorem dX1_clear_7 : decode cX1_clear 7 = .ok (.iload_n 1, 1) := by decide +kernel
theorem dX1_clear_8 : decode cX1_clear 8 = .ok (.bipush 8, 2) := by decide +kernel
theorem dX1_clear_10 : decode cX1_clear 10 = .ok (.if_icmp .ge 23, 3) := by decide +kernel
theorem dX1_clear_13 : decode cX1_clear 13 = .ok (.aload_n 0, 1) := by decide +kernel
theorem dX1_clear_14 : decode cX1_clear 14 = .ok (.getfield 9, 3) := by decide +kernel
theorem dX1_clear_17 : decode cX1_clear 17 = .ok (.iload_n 1, 1) := by decide +kernel
theorem dX1_clear_18 : decode cX1_clear 18 = .ok (.iconst (-1), 1) := by decide +kernel
theorem dX1_clear_19 : decode cX1_clear 19 = .ok (.iastore, 1) := by decide +kernel
theorem dX1_clear_20 : decode cX1_clear 20 = .ok (.aload_n 0, 1) := by decide +kernel
theorem dX1_clear_21 : decode cX1_clear 21 = .ok (.getfield 15, 3) := by decide +kernel
theorem dX1_clear_24 : decode cX1_clear 24 = .ok (.iload_n 1, 1) := by decide +kernel
theorem dX1_clear_25 : decode cX1_clear 25 = .ok (.lconst 0, 1) := by decide +kernel
theorem dX1_clear_26 : decode cX1_clear 26 = .ok (.lastore, 1) := by decide +kernel
theorem dX1_clear_27 : decode cX1_clear 27 = .ok (.iinc 1 1, 3) := by decide +kernel
theorem dX1_clear_30 : decode cX1_clear 30 = .ok (.goto (-23), 3) := by decide +kernel
theorem dX1_clear_33 : decode cX1_clear 33 = .ok (.iconst 0, 1) := by decide +kernel
theorem dX1_clear_34 : decode cX1_clear 34 = .ok (.istore_n 1, 1) := by decide +kernel
theorem dX1_clear_35 : decode cX1_clear 35 = .ok (.iload_n 1, 1) := by decide +kernel
theorem dX1_clear_36 : decode cX1_clear 36 = .ok (.bipush 7, 2) := by decide +kernel
theorem dX1_clear_38 : decode cX1_clear 38 = .ok (.if_icmp .ge 32, 3) := by decide +kernel
theorem dX1_clear_41 : decode cX1_clear 41 = .ok (.iconst 0, 1) := by decide +kernel
theorem dX1_clear_42 : decode cX1_clear 42 = .ok (.istore_n 2, 1) := by decide +kernel
theorem dX1_clear_43 : decode cX1_clear 43 = .ok (.iload_n 2, 1) := by decide +kernel
theorem dX1_clear_44 : decode cX1_clear 44 = .ok (.bipush 7, 2) := by decide +kernel
theorem dX1_clear_46 : decode cX1_clear 46 = .ok (.if_icmp .gt 18, 3) := by decide +kernel
theorem dX1_clear_49 : decode cX1_clear 49 = .ok (.aload_n 0, 1) := by decide +kernel
theorem dX1_clear_50 : decode cX1_clear 50 = .ok (.getfield 21, 3) := by decide +kernel
theorem dX1_clear_53 : decode cX1_clear 53 = .ok (.iload_n 1, 1) := by decide +kernel
theorem dX1_clear_54 : decode cX1_clear 54 = .ok (.aaload, 1) := by decide +kernel
theorem dX1_clear_55 : decode cX1_clear 55 = .ok (.iload_n 2, 1) := by decide +kernel
theorem dX1_clear_56 : decode cX1_clear 56 = .ok (.lconst 0, 1) := by decide +kernel
theorem dX1_clear_57 : decode cX1_clear 57 = .ok (.lastore, 1) := by decide +kernel
theorem dX1_clear_58 : decode cX1_clear 58 = .ok (.iinc 2 1, 3) := by decide +kernel
theorem dX1_clear_61 : decode cX1_clear 61 = .ok (.goto (-18), 3) := by decide +kernel
theorem dX1_clear_64 : decode cX1_clear 64 = .ok (.iinc 1 1, 3) := by decide +kernel
theorem dX1_clear_67 : decode cX1_clear 67 = .ok (.goto (-32), 3) := by decide +kernel
theorem dX1_clear_70 : decode cX1_clear 70 = .ok (.return_, 1) := by decide +kernel
theorem dX1_fix_0 : decode cX1_fix 0 = .ok (.aload_n 0, 1) := by decide +kernel
theorem dX1_fix_1 : decode cX1_fix 1 = .ok (.getfield 15, 3) := by decide +kernel
theorem dX1_fix_4 : decode cX1_fix 4 = .ok (.iload_n 1, 1) := by decide +kernel
theorem dX1_fix_5 : decode cX1_fix 5 = .ok (.lload_n 2, 1) := by decide +kernel
theorem dX1_fix_6 : decode cX1_fix 6 = .ok (.lastore, 1) := by decide +kernel
theorem dX1_fix_7 : decode cX1_fix 7 = .ok (.return_, 1) := by decide +kernel
theorem dX1_seek_0 : decode cX1_seek 0 = .ok (.aload_n 0, 1) := by decide +kernel
theorem dX1_seek_1 : decode cX1_seek 1 = .ok (.getfield 27, 3) := by decide +kernel
theorem dX1_seek_4 : decode cX1_seek 4 = .ok (.bipush 7, 2) := by decide +kernel
theorem dX1_seek_6 : decode cX1_seek 6 = .ok (.if_icmp .ge 23, 3) := by decide +kernel
theorem dX1_seek_9 : decode cX1_seek 9 = .ok (.aload_n 0, 1) := by decide +kernel
theorem dX1_seek_10 : decode cX1_seek 10 = .ok (.getfield 9, 3) := by decide +kernel
theorem dX1_seek_13 : decode cX1_seek 13 = .ok (.iload_n 1, 1) := by decide +kernel
theorem dX1_seek_14 : decode cX1_seek 14 = .ok (.aload_n 0, 1) := by decide +kernel
theorem dX1_seek_15 : decode cX1_seek 15 = .ok (.getfield 27, 3) := by decide +kernel
theorem dX1_seek_18 : decode cX1_seek 18 = .ok (.iastore, 1) := by decide +kernel
theorem dX1_seek_19 : decode cX1_seek 19 = .ok (.aload_n 0, 1) := by decide +kernel
theorem dX1_seek_20 : decode cX1_seek 20 = .ok (.dup, 1) := by decide +kernel
theorem dX1_seek_21 : decode cX1_seek 21 = .ok (.getfield 27, 3) := by decide +kernel
theorem dX1_seek_24 : decode cX1_seek 24 = .ok (.iconst 1, 1) := by decide +kernel
theorem dX1_seek_25 : decode cX1_seek 25 = .ok (.iadd, 1) := by decide +kernel
theorem dX1_seek_26 : decode cX1_seek 26 = .ok (.putfield 27, 3) := by decide +kernel
theorem dX1_seek_29 : decode cX1_seek 29 = .ok (.return_, 1) := by decide +kernel
theorem dX1_bring_0 : decode cX1_bring 0 = .ok (.aload_n 0, 1) := by decide +kernel
theorem dX1_bring_1 : decode cX1_bring 1 = .ok (.getfield 9, 3) := by decide +kernel
theorem dX1_bring_4 : decode cX1_bring 4 = .ok (.iload_n 1, 1) := by decide +kernel
theorem dX1_bring_5 : decode cX1_bring 5 = .ok (.iaload, 1) := by decide +kernel
theorem dX1_bring_6 : decode cX1_bring 6 = .ok (.istore 4, 2) := by decide +kernel
theorem dX1_bring_8 : decode cX1_bring 8 = .ok (.iload 4, 2) := by decide +kernel
theorem dX1_bring_10 : decode cX1_bring 10 = .ok (.ifCond .lt 19, 3) := by decide +kernel
theorem dX1_bring_13 : decode cX1_bring 13 = .ok (.aload_n 0, 1) := by decide +kernel
theorem dX1_bring_14 : decode cX1_bring 14 = .ok (.getfield 21, 3) := by decide +kernel
theorem dX1_bring_17 : decode cX1_bring 17 = .ok (.iload 4, 2) := by decide +kernel
theorem dX1_bring_19 : decode cX1_bring 19 = .ok (.aaload, 1) := by decide +kernel
theorem dX1_bring_20 : decode cX1_bring 20 = .ok (.aload_n 0, 1) := by decide +kernel
theorem dX1_bring_21 : decode cX1_bring 21 = .ok (.getfield 27, 3) := by decide +kernel
theorem dX1_bring_24 : decode cX1_bring 24 = .ok (.dup2, 1) := by decide +kernel
theorem dX1_bring_25 : decode cX1_bring 25 = .ok (.laload, 1) := by decide +kernel
theorem dX1_bring_26 : decode cX1_bring 26 = .ok (.lload_n 2, 1) := by decide +kernel
theorem dX1_bring_27 : decode cX1_bring 27 = .ok (.ladd, 1) := by decide +kernel
theorem dX1_bring_28 : decode cX1_bring 28 = .ok (.lastore, 1) := by decide +kernel
theorem dX1_bring_29 : decode cX1_bring 29 = .ok (.return_, 1) := by decide +kernel
theorem dX1_link_0 : decode cX1_link 0 = .ok (.aload_n 0, 1) := by decide +kernel
theorem dX1_link_1 : decode cX1_link 1 = .ok (.iload_n 1, 1) := by decide +kernel
theorem dX1_link_2 : decode cX1_link 2 = .ok (.iload_n 2, 1) := by decide +kernel
theorem dX1_link_3 : decode cX1_link 3 = .ok (.lload_n 3, 1) := by decide +kernel
theorem dX1_link_4 : decode cX1_link 4 = .ok (.invokevirtual 31, 3) := by decide +kernel
theorem dX1_link_7 : decode cX1_link 7 = .ok (.aload_n 0, 1) := by decide +kernel
theorem dX1_link_8 : decode cX1_link 8 = .ok (.iload_n 2, 1) := by decide +kernel
theorem dX1_link_9 : decode cX1_link 9 = .ok (.iload_n 1, 1) := by decide +kernel
theorem dX1_link_10 : decode cX1_link 10 = .ok (.lload_n 3, 1) := by decide +kernel
theorem dX1_link_11 : decode cX1_link 11 = .ok (.invokevirtual 31, 3) := by decide +kernel
theorem dX1_link_14 : decode cX1_link 14 = .ok (.return_, 1) := by decide +kernel
theorem dX1_linkOneWay_0 : decode cX1_linkOneWay 0 = .ok (.aload_n 0, 1) := by decide +kernel
theorem dX1_linkOneWay_1 : decode cX1_linkOneWay 1 = .ok (.getfield 9, 3) := by decide +kernel
theorem dX1_linkOneWay_4 : decode cX1_linkOneWay 4 = .ok (.iload_n 1, 1) := by decide +kernel
theorem dX1_linkOneWay_5 : decode cX1_linkOneWay 5 = .ok (.iaload, 1) := by decide +kernel
theorem dX1_linkOneWay_6 : decode cX1_linkOneWay 6 = .ok (.istore 5, 2) := by decide +kernel
theorem dX1_linkOneWay_8 : decode cX1_linkOneWay 8 = .ok (.iload 5, 2) := by decide +kernel
theorem dX1_linkOneWay_10 : decode cX1_linkOneWay 10 = .ok (.ifCond .ge 4, 3) := by decide +kernel
theorem dX1_linkOneWay_13 : decode cX1_linkOneWay 13 = .ok (.return_, 1) := by decide +kernel
theorem dX1_linkOneWay_14 : decode cX1_linkOneWay 14 = .ok (.aload_n 0, 1) := by decide +kernel
theorem dX1_linkOneWay_15 : decode cX1_linkOneWay 15 = .ok (.getfield 21, 3) := by decide +kernel
theorem dX1_linkOneWay_18 : decode cX1_linkOneWay 18 = .ok (.iload 5, 2) := by decide +kernel
theorem dX1_linkOneWay_20 : decode cX1_linkOneWay 20 = .ok (.aaload, 1) := by decide +kernel
theorem dX1_linkOneWay_21 : decode cX1_linkOneWay 21 = .ok (.iload 5, 2) := by decide +kernel
theorem dX1_linkOneWay_23 : decode cX1_linkOneWay 23 = .ok (.dup2, 1) := by decide +kernel
theorem dX1_linkOneWay_24 : decode cX1_linkOneWay 24 = .ok (.laload, 1) := by decide +kernel
theorem dX1_linkOneWay_25 : decode cX1_linkOneWay 25 = .ok (.lload_n 3, 1) := by decide +kernel
theorem dX1_linkOneWay_26 : decode cX1_linkOneWay 26 = .ok (.ladd, 1) := by decide +kernel
theorem dX1_linkOneWay_27 : decode cX1_linkOneWay 27 = .ok (.lastore, 1) := by decide +kernel
theorem dX1_linkOneWay_28 : decode cX1_linkOneWay 28 = .ok (.aload_n 0, 1) := by decide +kernel
theorem dX1_linkOneWay_29 : decode cX1_linkOneWay 29 = .ok (.getfield 9, 3) := by decide +kernel
theorem dX1_linkOneWay_32 : decode cX1_linkOneWay 32 = .ok (.iload_n 2, 1) := by decide +kernel
theorem dX1_linkOneWay_33 : decode cX1_linkOneWay 33 = .ok (.iaload, 1) := by decide +kernel
theorem dX1_linkOneWay_34 : decode cX1_linkOneWay 34 = .ok (.istore 6, 2) := by decide +kernel
theorem dX1_linkOneWay_36 : decode cX1_linkOneWay 36 = .ok (.iload 6, 2) := by decide +kernel
theorem dX1_linkOneWay_38 : decode cX1_linkOneWay 38 = .ok (.ifCond .lt 20, 3) := by decide +kernel
theorem dX1_linkOneWay_41 : decode cX1_linkOneWay 41 = .ok (.aload_n 0, 1) := by decide +kernel
theorem dX1_linkOneWay_42 : decode cX1_linkOneWay 42 = .ok (.getfield 21, 3) := by decide +kernel
theorem dX1_linkOneWay_45 : decode cX1_linkOneWay 45 = .ok (.iload 5, 2) := by decide +kernel
theorem dX1_linkOneWay_47 : decode cX1_linkOneWay 47 = .ok (.aaload, 1) := by decide +kernel
theorem dX1_linkOneWay_48 : decode cX1_linkOneWay 48 = .ok (.iload 6, 2) := by decide +kernel
theorem dX1_linkOneWay_50 : decode cX1_linkOneWay 50 = .ok (.dup2, 1) := by decide +kernel
theorem dX1_linkOneWay_51 : decode cX1_linkOneWay 51 = .ok (.laload, 1) := by decide +kernel
theorem dX1_linkOneWay_52 : decode cX1_linkOneWay 52 = .ok (.lload_n 3, 1) := by decide +kernel
theorem dX1_linkOneWay_53 : decode cX1_linkOneWay 53 = .ok (.lsub, 1) := by decide +kernel
theorem dX1_linkOneWay_54 : decode cX1_linkOneWay 54 = .ok (.lastore, 1) := by decide +kernel
theorem dX1_linkOneWay_55 : decode cX1_linkOneWay 55 = .ok (.goto 26, 3) := by decide +kernel
theorem dX1_linkOneWay_58 : decode cX1_linkOneWay 58 = .ok (.aload_n 0, 1) := by decide +kernel
theorem dX1_linkOneWay_59 : decode cX1_linkOneWay 59 = .ok (.getfield 21, 3) := by decide +kernel
theorem dX1_linkOneWay_62 : decode cX1_linkOneWay 62 = .ok (.iload 5, 2) := by decide +kernel
theorem dX1_linkOneWay_64 : decode cX1_linkOneWay 64 = .ok (.aaload, 1) := by decide +kernel
theorem dX1_linkOneWay_65 : decode cX1_linkOneWay 65 = .ok (.aload_n 0, 1) := by decide +kernel
theorem dX1_linkOneWay_66 : decode cX1_linkOneWay 66 = .ok (.getfield 27, 3) := by decide +kernel
theorem dX1_linkOneWay_69 : decode cX1_linkOneWay 69 = .ok (.dup2, 1) := by decide +kernel
theorem dX1_linkOneWay_70 : decode cX1_linkOneWay 70 = .ok (.laload, 1) := by decide +kernel
theorem dX1_linkOneWay_71 : decode cX1_linkOneWay 71 = .ok (.lload_n 3, 1) := by decide +kernel
theorem dX1_linkOneWay_72 : decode cX1_linkOneWay 72 = .ok (.aload_n 0, 1) := by decide +kernel
theorem dX1_linkOneWay_73 : decode cX1_linkOneWay 73 = .ok (.getfield 15, 3) := by decide +kernel
theorem dX1_linkOneWay_76 : decode cX1_linkOneWay 76 = .ok (.iload_n 2, 1) := by decide +kernel
theorem dX1_linkOneWay_77 : decode cX1_linkOneWay 77 = .ok (.laload, 1) := by decide +kernel
theorem dX1_linkOneWay_78 : decode cX1_linkOneWay 78 = .ok (.lmul, 1) := by decide +kernel
theorem dX1_linkOneWay_79 : decode cX1_linkOneWay 79 = .ok (.ladd, 1) := by decide +kernel
theorem dX1_linkOneWay_80 : decode cX1_linkOneWay 80 = .ok (.lastore, 1) := by decide +kernel
theorem dX1_linkOneWay_81 : decode cX1_linkOneWay 81 = .ok (.return_, 1) := by decide +kernel
theorem dX1_solve_0 : decode cX1_solve 0 = .ok (.aload_n 0, 1) := by decide +kernel
theorem dX1_solve_1 : decode cX1_solve 1 = .ok (.invokevirtual 35, 3) := by decide +kernel
theorem dX1_solve_4 : decode cX1_solve 4 = .ok (.istore_n 1, 1) := by decide +kernel
theorem dX1_solve_5 : decode cX1_solve 5 = .ok (.aload_n 0, 1) := by decide +kernel
theorem dX1_solve_6 : decode cX1_solve 6 = .ok (.getfield 24, 3) := by decide +kernel
theorem dX1_solve_9 : decode cX1_solve 9 = .ok (.iconst 0, 1) := by decide +kernel
theorem dX1_solve_10 : decode cX1_solve 10 = .ok (.lconst 1, 1) := by decide +kernel
theorem dX1_solve_11 : decode cX1_solve 11 = .ok (.lastore, 1) := by decide +kernel
theorem dX1_solve_12 : decode cX1_solve 12 = .ok (.iconst 1, 1) := by decide +kernel
theorem dX1_solve_13 : decode cX1_solve 13 = .ok (.istore_n 2, 1) := by decide +kernel
theorem dX1_solve_14 : decode cX1_solve 14 = .ok (.iload_n 2, 1) := by decide +kernel
theorem dX1_solve_15 : decode cX1_solve 15 = .ok (.iload_n 1, 1) := by decide +kernel
theorem dX1_solve_16 : decode cX1_solve 16 = .ok (.if_icmp .ge 20, 3) := by decide +kernel
theorem dX1_solve_19 : decode cX1_solve 19 = .ok (.aload_n 0, 1) := by decide +kernel
theorem dX1_solve_20 : decode cX1_solve 20 = .ok (.getfield 24, 3) := by decide +kernel
theorem dX1_solve_23 : decode cX1_solve 23 = .ok (.iload_n 2, 1) := by decide +kernel
theorem dX1_solve_24 : decode cX1_solve 24 = .ok (.aload_n 0, 1) := by decide +kernel
theorem dX1_solve_25 : decode cX1_solve 25 = .ok (.iload_n 2, 1) := by decide +kernel
theorem dX1_solve_26 : decode cX1_solve 26 = .ok (.invokevirtual 39, 3) := by decide +kernel
theorem dX1_solve_29 : decode cX1_solve 29 = .ok (.lastore, 1) := by decide +kernel
theorem dX1_solve_30 : decode cX1_solve 30 = .ok (.iinc 2 1, 3) := by decide +kernel
theorem dX1_solve_33 : decode cX1_solve 33 = .ok (.goto (-19), 3) := by decide +kernel
theorem dX1_solve_36 : decode cX1_solve 36 = .ok (.return_, 1) := by decide +kernel
theorem dX1_expand_0 : decode cX1_expand 0 = .ok (.iload_n 1, 1) := by decide +kernel
theorem dX1_expand_1 : decode cX1_expand 1 = .ok (.invokestatic 43, 3) := by decide +kernel
theorem dX1_expand_4 : decode cX1_expand 4 = .ok (.iconst 1, 1) := by decide +kernel
theorem dX1_expand_5 : decode cX1_expand 5 = .ok (.isub, 1) := by decide +kernel
theorem dX1_expand_6 : decode cX1_expand 6 = .ok (.istore_n 2, 1) := by decide +kernel
theorem dX1_expand_7 : decode cX1_expand 7 = .ok (.lconst 0, 1) := by decide +kernel
theorem dX1_expand_8 : decode cX1_expand 8 = .ok (.lstore_n 3, 1) := by decide +kernel
theorem dX1_expand_9 : decode cX1_expand 9 = .ok (.iconst 1, 1) := by decide +kernel
theorem dX1_expand_10 : decode cX1_expand 10 = .ok (.istore 5, 2) := by decide +kernel
theorem dX1_expand_12 : decode cX1_expand 12 = .ok (.aload_n 0, 1) := by decide +kernel
theorem dX1_expand_13 : decode cX1_expand 13 = .ok (.getfield 27, 3) := by decide +kernel
theorem dX1_expand_16 : decode cX1_expand 16 = .ok (.istore 6, 2) := by decide +kernel
theorem dX1_expand_18 : decode cX1_expand 18 = .ok (.iload 6, 2) := by decide +kernel
theorem dX1_expand_20 : decode cX1_expand 20 = .ok (.ifCond .lt 51, 3) := by decide +kernel
theorem dX1_expand_23 : decode cX1_expand 23 = .ok (.iload_n 1, 1) := by decide +kernel
theorem dX1_expand_24 : decode cX1_expand 24 = .ok (.iload 6, 2) := by decide +kernel
theorem dX1_expand_26 : decode cX1_expand 26 = .ok (.invokestatic 49, 3) := by decide +kernel
theorem dX1_expand_29 : decode cX1_expand 29 = .ok (.ifCond .eq 36, 3) := by decide +kernel
theorem dX1_expand_32 : decode cX1_expand 32 = .ok (.lload_n 3, 1) := by decide +kernel
theorem dX1_expand_33 : decode cX1_expand 33 = .ok (.iload 5, 2) := by decide +kernel
theorem dX1_expand_35 : decode cX1_expand 35 = .ok (.i2l, 1) := by decide +kernel
theorem dX1_expand_36 : decode cX1_expand 36 = .ok (.aload_n 0, 1) := by decide +kernel
theorem dX1_expand_37 : decode cX1_expand 37 = .ok (.getfield 21, 3) := by decide +kernel
theorem dX1_expand_40 : decode cX1_expand 40 = .ok (.iload_n 2, 1) := by decide +kernel
theorem dX1_expand_41 : decode cX1_expand 41 = .ok (.aaload, 1) := by decide +kernel
theorem dX1_expand_42 : decode cX1_expand 42 = .ok (.iload 6, 2) := by decide +kernel
theorem dX1_expand_44 : decode cX1_expand 44 = .ok (.laload, 1) := by decide +kernel
theorem dX1_expand_45 : decode cX1_expand 45 = .ok (.lmul, 1) := by decide +kernel
theorem dX1_expand_46 : decode cX1_expand 46 = .ok (.aload_n 0, 1) := by decide +kernel
theorem dX1_expand_47 : decode cX1_expand 47 = .ok (.getfield 24, 3) := by decide +kernel
theorem dX1_expand_50 : decode cX1_expand 50 = .ok (.iload_n 1, 1) := by decide +kernel
theorem dX1_expand_51 : decode cX1_expand 51 = .ok (.iconst 1, 1) := by decide +kernel
theorem dX1_expand_52 : decode cX1_expand 52 = .ok (.iload 6, 2) := by decide +kernel
theorem dX1_expand_54 : decode cX1_expand 54 = .ok (.ishl, 1) := by decide +kernel
theorem dX1_expand_55 : decode cX1_expand 55 = .ok (.ixor, 1) := by decide +kernel
theorem dX1_expand_56 : decode cX1_expand 56 = .ok (.laload, 1) := by decide +kernel
theorem dX1_expand_57 : decode cX1_expand 57 = .ok (.lmul, 1) := by decide +kernel
theorem dX1_expand_58 : decode cX1_expand 58 = .ok (.ladd, 1) := by decide +kernel
theorem dX1_expand_59 : decode cX1_expand 59 = .ok (.lstore_n 3, 1) := by decide +kernel
theorem dX1_expand_60 : decode cX1_expand 60 = .ok (.iload 5, 2) := by decide +kernel
theorem dX1_expand_62 : decode cX1_expand 62 = .ok (.ineg, 1) := by decide +kernel
theorem dX1_expand_63 : decode cX1_expand 63 = .ok (.istore 5, 2) := by decide +kernel
theorem dX1_expand_65 : decode cX1_expand 65 = .ok (.iinc 6 (-1), 3) := by decide +kernel
theorem dX1_expand_68 : decode cX1_expand 68 = .ok (.goto (-50), 3) := by decide +kernel
theorem dX1_expand_71 : decode cX1_expand 71 = .ok (.lload_n 3, 1) := by decide +kernel
theorem dX1_expand_72 : decode cX1_expand 72 = .ok (.lreturn, 1) := by decide +kernel
theorem dX1_lower_0 : decode cX1_lower 0 = .ok (.aload_n 0, 1) := by decide +kernel
theorem dX1_lower_1 : decode cX1_lower 1 = .ok (.getfield 24, 3) := by decide +kernel
theorem dX1_lower_4 : decode cX1_lower 4 = .ok (.aload_n 0, 1) := by decide +kernel
theorem dX1_lower_5 : decode cX1_lower 5 = .ok (.invokevirtual 35, 3) := by decide +kernel
theorem dX1_lower_8 : decode cX1_lower 8 = .ok (.iconst 1, 1) := by decide +kernel
theorem dX1_lower_9 : decode cX1_lower 9 = .ok (.aload_n 0, 1) := by decide +kernel
theorem dX1_lower_10 : decode cX1_lower 10 = .ok (.getfield 27, 3) := by decide +kernel
theorem dX1_lower_13 : decode cX1_lower 13 = .ok (.ishl, 1) := by decide +kernel
theorem dX1_lower_14 : decode cX1_lower 14 = .ok (.ixor, 1) := by decide +kernel
theorem dX1_lower_15 : decode cX1_lower 15 = .ok (.laload, 1) := by decide +kernel
theorem dX1_lower_16 : decode cX1_lower 16 = .ok (.lreturn, 1) := by decide +kernel
theorem dX1_upper_0 : decode cX1_upper 0 = .ok (.aload_n 0, 1) := by decide +kernel
theorem dX1_upper_1 : decode cX1_upper 1 = .ok (.getfield 9, 3) := by decide +kernel
theorem dX1_upper_4 : decode cX1_upper 4 = .ok (.iload_n 1, 1) := by decide +kernel
theorem dX1_upper_5 : decode cX1_upper 5 = .ok (.iaload, 1) := by decide +kernel
theorem dX1_upper_6 : decode cX1_upper 6 = .ok (.istore_n 2, 1) := by decide +kernel
theorem dX1_upper_7 : decode cX1_upper 7 = .ok (.iload_n 2, 1) := by decide +kernel
theorem dX1_upper_8 : decode cX1_upper 8 = .ok (.ifCond .ge 15, 3) := by decide +kernel
theorem dX1_upper_11 : decode cX1_upper 11 = .ok (.aload_n 0, 1) := by decide +kernel
theorem dX1_upper_12 : decode cX1_upper 12 = .ok (.getfield 15, 3) := by decide +kernel
theorem dX1_upper_15 : decode cX1_upper 15 = .ok (.iload_n 1, 1) := by decide +kernel
theorem dX1_upper_16 : decode cX1_upper 16 = .ok (.laload, 1) := by decide +kernel
theorem dX1_upper_17 : decode cX1_upper 17 = .ok (.aload_n 0, 1) := by decide +kernel
theorem dX1_upper_18 : decode cX1_upper 18 = .ok (.invokevirtual 53, 3) := by decide +kernel
theorem dX1_upper_21 : decode cX1_upper 21 = .ok (.lmul, 1) := by decide +kernel
theorem dX1_upper_22 : decode cX1_upper 22 = .ok (.lreturn, 1) := by decide +kernel
theorem dX1_upper_23 : decode cX1_upper 23 = .ok (.aload_n 0, 1) := by decide +kernel
theorem dX1_upper_24 : decode cX1_upper 24 = .ok (.getfield 24, 3) := by decide +kernel
theorem dX1_upper_27 : decode cX1_upper 27 = .ok (.aload_n 0, 1) := by decide +kernel
theorem dX1_upper_28 : decode cX1_upper 28 = .ok (.invokevirtual 35, 3) := by decide +kernel
theorem dX1_upper_31 : decode cX1_upper 31 = .ok (.iconst 1, 1) := by decide +kernel
theorem dX1_upper_32 : decode cX1_upper 32 = .ok (.iload_n 2, 1) := by decide +kernel
theorem dX1_upper_33 : decode cX1_upper 33 = .ok (.ishl, 1) := by decide +kernel
theorem dX1_upper_34 : decode cX1_upper 34 = .ok (.ixor, 1) := by decide +kernel
theorem dX1_upper_35 : decode cX1_upper 35 = .ok (.laload, 1) := by decide +kernel
theorem dX1_upper_36 : decode cX1_upper 36 = .ok (.lstore_n 3, 1) := by decide +kernel
theorem dX1_upper_37 : decode cX1_upper 37 = .ok (.aload_n 0, 1) := by decide +kernel
theorem dX1_upper_38 : decode cX1_upper 38 = .ok (.getfield 27, 3) := by decide +kernel
theorem dX1_upper_41 : decode cX1_upper 41 = .ok (.iconst 1, 1) := by decide +kernel
theorem dX1_upper_42 : decode cX1_upper 42 = .ok (.isub, 1) := by decide +kernel
theorem dX1_upper_43 : decode cX1_upper 43 = .ok (.iload_n 2, 1) := by decide +kernel
theorem dX1_upper_44 : decode cX1_upper 44 = .ok (.isub, 1) := by decide +kernel
theorem dX1_upper_45 : decode cX1_upper 45 = .ok (.iconst 2, 1) := by decide +kernel
theorem dX1_upper_46 : decode cX1_upper 46 = .ok (.irem, 1) := by decide +kernel
theorem dX1_upper_47 : decode cX1_upper 47 = .ok (.ifCond .ne 7, 3) := by decide +kernel
theorem dX1_upper_50 : decode cX1_upper 50 = .ok (.lload_n 3, 1) := by decide +kernel
theorem dX1_upper_51 : decode cX1_upper 51 = .ok (.goto 5, 3) := by decide +kernel
theorem dX1_upper_54 : decode cX1_upper 54 = .ok (.lload_n 3, 1) := by decide +kernel
theorem dX1_upper_55 : decode cX1_upper 55 = .ok (.lneg, 1) := by decide +kernel
theorem dX1_upper_56 : decode cX1_upper 56 = .ok (.lreturn, 1) := by decide +kernel
theorem dX1_allColumns_0 : decode cX1_allColumns 0 = .ok (.iconst 1, 1) := by decide +kernel
theorem dX1_allColumns_1 : decode cX1_allColumns 1 = .ok (.aload_n 0, 1) := by decide +kernel
theorem dX1_allColumns_2 : decode cX1_allColumns 2 = .ok (.getfield 27, 3) := by decide +kernel
theorem dX1_allColumns_5 : decode cX1_allColumns 5 = .ok (.iconst 1, 1) := by decide +kernel
theorem dX1_allColumns_6 : decode cX1_allColumns 6 = .ok (.iadd, 1) := by decide +kernel
theorem dX1_allColumns_7 : decode cX1_allColumns 7 = .ok (.ishl, 1) := by decide +kernel
theorem dX1_allColumns_8 : decode cX1_allColumns 8 = .ok (.iconst 1, 1) := by decide +kernel
theorem dX1_allColumns_9 : decode cX1_allColumns 9 = .ok (.isub, 1) := by decide +kernel
theorem dX1_allColumns_10 : decode cX1_allColumns 10 = .ok (.ireturn, 1) := by decide +kernel
theorem dX2_init_0 : decode cX2_init 0 = .ok (.aload_n 0, 1) := by decide +kernel
theorem dX2_init_1 : decode cX2_init 1 = .ok (.invokespecial 1, 3) := by decide +kernel
theorem dX2_init_4 : decode cX2_init 4 = .ok (.aload_n 0, 1) := by decide +kernel
theorem dX2_init_5 : decode cX2_init 5 = .ok (.iconst 0, 1) := by decide +kernel
theorem dX2_init_6 : decode cX2_init 6 = .ok (.putfield 7, 3) := by decide +kernel
theorem dX2_init_9 : decode cX2_init 9 = .ok (.aload_n 0, 1) := by decide +kernel
theorem dX2_init_10 : decode cX2_init 10 = .ok (.iconst 0, 1) := by decide +kernel
theorem dX2_init_11 : decode cX2_init 11 = .ok (.putfield 13, 3) := by decide +kernel
theorem dX2_init_14 : decode cX2_init 14 = .ok (.return_, 1) := by decide +kernel
theorem dX3_init_0 : decode cX3_init 0 = .ok (.aload_n 0, 1) := by decide +kernel
theorem dX3_init_1 : decode cX3_init 1 = .ok (.invokespecial 3, 3) := by decide +kernel
theorem dX3_init_4 : decode cX3_init 4 = .ok (.aload_n 0, 1) := by decide +kernel
theorem dX3_init_5 : decode cX3_init 5 = .ok (.new 9, 3) := by decide +kernel
theorem dX3_init_8 : decode cX3_init 8 = .ok (.dup, 1) := by decide +kernel
theorem dX3_init_9 : decode cX3_init 9 = .ok (.invokespecial 11, 3) := by decide +kernel
theorem dX3_init_12 : decode cX3_init 12 = .ok (.putfield 12, 3) := by decide +kernel
theorem dX3_init_15 : decode cX3_init 15 = .ok (.aload_n 0, 1) := by decide +kernel
theorem dX3_init_16 : decode cX3_init 16 = .ok (.new 9, 3) := by decide +kernel
theorem dX3_init_19 : decode cX3_init 19 = .ok (.dup, 1) := by decide +kernel
theorem dX3_init_20 : decode cX3_init 20 = .ok (.invokespecial 11, 3) := by decide +kernel
theorem dX3_init_23 : decode cX3_init 23 = .ok (.putfield 16, 3) := by decide +kernel
theorem dX3_init_26 : decode cX3_init 26 = .ok (.aload_n 0, 1) := by decide +kernel
theorem dX3_init_27 : decode cX3_init 27 = .ok (.bipush 8, 2) := by decide +kernel
theorem dX3_init_29 : decode cX3_init 29 = .ok (.newarray .int, 2) := by decide +kernel
theorem dX3_init_31 : decode cX3_init 31 = .ok (.putfield 19, 3) := by decide +kernel
theorem dX3_init_34 : decode cX3_init 34 = .ok (.aload_n 0, 1) := by decide +kernel
theorem dX3_init_35 : decode cX3_init 35 = .ok (.new 23, 3) := by decide +kernel
theorem dX3_init_38 : decode cX3_init 38 = .ok (.dup, 1) := by decide +kernel
theorem dX3_init_39 : decode cX3_init 39 = .ok (.invokespecial 25, 3) := by decide +kernel
theorem dX3_init_42 : decode cX3_init 42 = .ok (.putfield 26, 3) := by decide +kernel
theorem dX3_init_45 : decode cX3_init 45 = .ok (.return_, 1) := by decide +kernel
theorem dX3_addNode_0 : decode cX3_addNode 0 = .ok (.aload_n 0, 1) := by decide +kernel
theorem dX3_addNode_1 : decode cX3_addNode 1 = .ok (.getfield 12, 3) := by decide +kernel
theorem dX3_addNode_4 : decode cX3_addNode 4 = .ok (.invokevirtual 30, 3) := by decide +kernel
theorem dX3_addNode_7 : decode cX3_addNode 7 = .ok (.istore_n 1, 1) := by decide +kernel
theorem dX3_addNode_8 : decode cX3_addNode 8 = .ok (.iload_n 1, 1) := by decide +kernel
theorem dX3_addNode_9 : decode cX3_addNode 9 = .ok (.bipush 8, 2) := by decide +kernel
theorem dX3_addNode_11 : decode cX3_addNode 11 = .ok (.if_icmp .lt 13, 3) := by decide +kernel
theorem dX3_addNode_14 : decode cX3_addNode 14 = .ok (.new 34, 3) := by decide +kernel
theorem dX3_addNode_17 : decode cX3_addNode 17 = .ok (.dup, 1) := by decide +kernel
theorem dX3_addNode_18 : decode cX3_addNode 18 = .ok (.ldc 36, 2) := by decide +kernel
theorem dX3_addNode_20 : decode cX3_addNode 20 = .ok (.invokespecial 38, 3) := by decide +kernel
theorem dX3_addNode_23 : decode cX3_addNode 23 = .ok (.athrow, 1) := by decide +kernel
theorem dX3_addNode_24 : decode cX3_addNode 24 = .ok (.aload_n 0, 1) := by decide +kernel
theorem dX3_addNode_25 : decode cX3_addNode 25 = .ok (.getfield 12, 3) := by decide +kernel
theorem dX3_addNode_28 : decode cX3_addNode 28 = .ok (.new 41, 3) := by decide +kernel
theorem dX3_addNode_31 : decode cX3_addNode 31 = .ok (.dup, 1) := by decide +kernel
theorem dX3_addNode_32 : decode cX3_addNode 32 = .ok (.invokespecial 43, 3) := by decide +kernel
theorem dX3_addNode_35 : decode cX3_addNode 35 = .ok (.invokevirtual 44, 3) := by decide +kernel
theorem dX3_addNode_38 : decode cX3_addNode 38 = .ok (.pop, 1) := by decide +kernel
theorem dX3_addNode_39 : decode cX3_addNode 39 = .ok (.iload_n 1, 1) := by decide +kernel
theorem dX3_addNode_40 : decode cX3_addNode 40 = .ok (.ireturn, 1) := by decide +kernel
theorem dX3_rail_0 : decode cX3_rail 0 = .ok (.aload_n 0, 1) := by decide +kernel
theorem dX3_rail_1 : decode cX3_rail 1 = .ok (.iload_n 1, 1) := by decide +kernel
theorem dX3_rail_2 : decode cX3_rail 2 = .ok (.invokevirtual 48, 3) := by decide +kernel
theorem dX3_rail_5 : decode cX3_rail 5 = .ok (.iload_n 2, 1) := by decide +kernel
theorem dX3_rail_6 : decode cX3_rail 6 = .ok (.ifCond .eq 25, 3) := by decide +kernel
theorem dX3_rail_9 : decode cX3_rail 9 = .ok (.iload_n 3, 1) := by decide +kernel
theorem dX3_rail_10 : decode cX3_rail 10 = .ok (.bipush (-99), 2) := by decide +kernel
theorem dX3_rail_12 : decode cX3_rail 12 = .ok (.if_icmp .lt 9, 3) := by decide +kernel
theorem dX3_rail_15 : decode cX3_rail 15 = .ok (.iload_n 3, 1) := by decide +kernel
theorem dX3_rail_16 : decode cX3_rail 16 = .ok (.bipush 99, 2) := by decide +kernel
theorem dX3_rail_18 : decode cX3_rail 18 = .ok (.if_icmp .le 13, 3) := by decide +kernel
theorem dX3_rail_21 : decode cX3_rail 21 = .ok (.new 52, 3) := by decide +kernel
theorem dX3_rail_24 : decode cX3_rail 24 = .ok (.dup, 1) := by decide +kernel
theorem dX3_rail_25 : decode cX3_rail 25 = .ok (.ldc 54, 2) := by decide +kernel
theorem dX3_rail_27 : decode cX3_rail 27 = .ok (.invokespecial 56, 3) := by decide +kernel
theorem dX3_rail_30 : decode cX3_rail 30 = .ok (.athrow, 1) := by decide +kernel
theorem dX3_rail_31 : decode cX3_rail 31 = .ok (.aload_n 0, 1) := by decide +kernel
theorem dX3_rail_32 : decode cX3_rail 32 = .ok (.getfield 12, 3) := by decide +kernel
theorem dX3_rail_35 : decode cX3_rail 35 = .ok (.iload_n 1, 1) := by decide +kernel
theorem dX3_rail_36 : decode cX3_rail 36 = .ok (.invokevirtual 57, 3) := by decide +kernel
theorem dX3_rail_39 : decode cX3_rail 39 = .ok (.checkcast 41, 3) := by decide +kernel
theorem dX3_rail_42 : decode cX3_rail 42 = .ok (.astore 4, 2) := by decide +kernel
theorem dX3_rail_44 : decode cX3_rail 44 = .ok (.aload 4, 2) := by decide +kernel
theorem dX3_rail_46 : decode cX3_rail 46 = .ok (.getfield 61, 3) := by decide +kernel
theorem dX3_rail_49 : decode cX3_rail 49 = .ok (.istore 5, 2) := by decide +kernel
theorem dX3_rail_51 : decode cX3_rail 51 = .ok (.aload 4, 2) := by decide +kernel
theorem dX3_rail_53 : decode cX3_rail 53 = .ok (.iload_n 2, 1) := by decide +kernel
theorem dX3_rail_54 : decode cX3_rail 54 = .ok (.putfield 61, 3) := by decide +kernel
theorem dX3_rail_57 : decode cX3_rail 57 = .ok (.aload 4, 2) := by decide +kernel
theorem dX3_rail_59 : decode cX3_rail 59 = .ok (.iload_n 2, 1) := by decide +kernel
theorem dX3_rail_60 : decode cX3_rail 60 = .ok (.ifCond .eq 7, 3) := by decide +kernel
theorem dX3_rail_63 : decode cX3_rail 63 = .ok (.iload_n 3, 1) := by decide +kernel
theorem dX3_rail_64 : decode cX3_rail 64 = .ok (.goto 4, 3) := by decide +kernel
theorem dX3_rail_67 : decode cX3_rail 67 = .ok (.iconst 0, 1) := by decide +kernel
theorem dX3_rail_68 : decode cX3_rail 68 = .ok (.putfield 65, 3) := by decide +kernel
theorem dX3_rail_71 : decode cX3_rail 71 = .ok (.iload 5, 2) := by decide +kernel
theorem dX3_rail_73 : decode cX3_rail 73 = .ok (.ireturn, 1) := by decide +kernel
theorem dX3_addElement_0 : decode cX3_addElement 0 = .ok (.aload_n 0, 1) := by decide +kernel
theorem dX3_addElement_1 : decode cX3_addElement 1 = .ok (.iload_n 2, 1) := by decide +kernel
theorem dX3_addElement_2 : decode cX3_addElement 2 = .ok (.invokevirtual 48, 3) := by decide +kernel
theorem dX3_addElement_5 : decode cX3_addElement 5 = .ok (.aload_n 0, 1) := by decide +kernel
theorem dX3_addElement_6 : decode cX3_addElement 6 = .ok (.iload_n 3, 1) := by decide +kernel
theorem dX3_addElement_7 : decode cX3_addElement 7 = .ok (.invokevirtual 48, 3) := by decide +kernel
theorem dX3_addElement_10 : decode cX3_addElement 10 = .ok (.iload_n 2, 1) := by decide +kernel
theorem dX3_addElement_11 : decode cX3_addElement 11 = .ok (.iload_n 3, 1) := by decide +kernel
theorem dX3_addElement_12 : decode cX3_addElement 12 = .ok (.if_icmp .ne 13, 3) := by decide +kernel
theorem dX3_addElement_15 : decode cX3_addElement 15 = .ok (.new 52, 3) := by decide +kernel
theorem dX3_addElement_18 : decode cX3_addElement 18 = .ok (.dup, 1) := by decide +kernel
theorem dX3_addElement_19 : decode cX3_addElement 19 = .ok (.ldc 69, 2) := by decide +kernel
theorem dX3_addElement_21 : decode cX3_addElement 21 = .ok (.invokespecial 56, 3) := by decide +kernel
theorem dX3_addElement_24 : decode cX3_addElement 24 = .ok (.athrow, 1) := by decide +kernel
theorem dX3_addElement_25 : decode cX3_addElement 25 = .ok (.iload_n 1, 1) := by decide +kernel
theorem dX3_addElement_26 : decode cX3_addElement 26 = .ok (.iload 4, 2) := by decide +kernel
theorem dX3_addElement_28 : decode cX3_addElement 28 = .ok (.invokestatic 71, 3) := by decide +kernel
theorem dX3_addElement_31 : decode cX3_addElement 31 = .ok (.aload_n 0, 1) := by decide +kernel
theorem dX3_addElement_32 : decode cX3_addElement 32 = .ok (.getfield 16, 3) := by decide +kernel
theorem dX3_addElement_35 : decode cX3_addElement 35 = .ok (.invokevirtual 30, 3) := by decide +kernel
theorem dX3_addElement_38 : decode cX3_addElement 38 = .ok (.istore 5, 2) := by decide +kernel
theorem dX3_addElement_40 : decode cX3_addElement 40 = .ok (.iload 5, 2) := by decide +kernel
theorem dX3_addElement_42 : decode cX3_addElement 42 = .ok (.bipush 20, 2) := by decide +kernel
theorem dX3_addElement_44 : decode cX3_addElement 44 = .ok (.if_icmp .lt 13, 3) := by decide +kernel
theorem dX3_addElement_47 : decode cX3_addElement 47 = .ok (.new 34, 3) := by decide +kernel
theorem dX3_addElement_50 : decode cX3_addElement 50 = .ok (.dup, 1) := by decide +kernel
theorem dX3_addElement_51 : decode cX3_addElement 51 = .ok (.ldc 75, 2) := by decide +kernel
theorem dX3_addElement_53 : decode cX3_addElement 53 = .ok (.invokespecial 38, 3) := by decide +kernel
theorem dX3_addElement_56 : decode cX3_addElement 56 = .ok (.athrow, 1) := by decide +kernel
theorem dX3_addElement_57 : decode cX3_addElement 57 = .ok (.aload_n 0, 1) := by decide +kernel
theorem dX3_addElement_58 : decode cX3_addElement 58 = .ok (.getfield 16, 3) := by decide +kernel
theorem dX3_addElement_61 : decode cX3_addElement 61 = .ok (.new 77, 3) := by decide +kernel
theorem dX3_addElement_64 : decode cX3_addElement 64 = .ok (.dup, 1) := by decide +kernel
theorem dX3_addElement_65 : decode cX3_addElement 65 = .ok (.iload_n 1, 1) := by decide +kernel
theorem dX3_addElement_66 : decode cX3_addElement 66 = .ok (.iload_n 2, 1) := by decide +kernel
theorem dX3_addElement_67 : decode cX3_addElement 67 = .ok (.iload_n 3, 1) := by decide +kernel
theorem dX3_addElement_68 : decode cX3_addElement 68 = .ok (.iload 4, 2) := by decide +kernel
theorem dX3_addElement_70 : decode cX3_addElement 70 = .ok (.invokespecial 79, 3) := by decide +kernel
theorem dX3_addElement_73 : decode cX3_addElement 73 = .ok (.invokevirtual 44, 3) := by decide +kernel
theorem dX3_addElement_76 : decode cX3_addElement 76 = .ok (.pop, 1) := by decide +kernel
theorem dX3_addElement_77 : decode cX3_addElement 77 = .ok (.iload 5, 2) := by decide +kernel
theorem dX3_addElement_79 : decode cX3_addElement 79 = .ok (.ireturn, 1) := by decide +kernel
theorem dX3_resize_0 : decode cX3_resize 0 = .ok (.aload_n 0, 1) := by decide +kernel
theorem dX3_resize_1 : decode cX3_resize 1 = .ok (.iload_n 1, 1) := by decide +kernel
theorem dX3_resize_2 : decode cX3_resize 2 = .ok (.invokevirtual 82, 3) := by decide +kernel
theorem dX3_resize_5 : decode cX3_resize 5 = .ok (.aload_n 0, 1) := by decide +kernel
theorem dX3_resize_6 : decode cX3_resize 6 = .ok (.getfield 16, 3) := by decide +kernel
theorem dX3_resize_9 : decode cX3_resize 9 = .ok (.iload_n 1, 1) := by decide +kernel
theorem dX3_resize_10 : decode cX3_resize 10 = .ok (.invokevirtual 57, 3) := by decide +kernel
theorem dX3_resize_13 : decode cX3_resize 13 = .ok (.checkcast 77, 3) := by decide +kernel
theorem dX3_resize_16 : decode cX3_resize 16 = .ok (.astore_n 3, 1) := by decide +kernel
theorem dX3_resize_17 : decode cX3_resize 17 = .ok (.aload_n 3, 1) := by decide +kernel
theorem dX3_resize_18 : decode cX3_resize 18 = .ok (.getfield 85, 3) := by decide +kernel
theorem dX3_resize_21 : decode cX3_resize 21 = .ok (.iload_n 2, 1) := by decide +kernel
theorem dX3_resize_22 : decode cX3_resize 22 = .ok (.invokestatic 71, 3) := by decide +kernel
theorem dX3_resize_25 : decode cX3_resize 25 = .ok (.aload_n 3, 1) := by decide +kernel
theorem dX3_resize_26 : decode cX3_resize 26 = .ok (.getfield 88, 3) := by decide +kernel
theorem dX3_resize_29 : decode cX3_resize 29 = .ok (.istore 4, 2) := by decide +kernel
theorem dX3_resize_31 : decode cX3_resize 31 = .ok (.aload_n 3, 1) := by decide +kernel
theorem dX3_resize_32 : decode cX3_resize 32 = .ok (.iload_n 2, 1) := by decide +kernel
theorem dX3_resize_33 : decode cX3_resize 33 = .ok (.putfield 88, 3) := by decide +kernel
theorem dX3_resize_36 : decode cX3_resize 36 = .ok (.iload 4, 2) := by decide +kernel
theorem dX3_resize_38 : decode cX3_resize 38 = .ok (.ireturn, 1) := by decide +kernel
theorem dX3_begin_0 : decode cX3_begin 0 = .ok (.aload_n 0, 1) := by decide +kernel
theorem dX3_begin_1 : decode cX3_begin 1 = .ok (.iload_n 1, 1) := by decide +kernel
theorem dX3_begin_2 : decode cX3_begin 2 = .ok (.invokevirtual 82, 3) := by decide +kernel
theorem dX3_begin_5 : decode cX3_begin 5 = .ok (.aload_n 0, 1) := by decide +kernel
theorem dX3_begin_6 : decode cX3_begin 6 = .ok (.getfield 16, 3) := by decide +kernel
theorem dX3_begin_9 : decode cX3_begin 9 = .ok (.iload_n 1, 1) := by decide +kernel
theorem dX3_begin_10 : decode cX3_begin 10 = .ok (.invokevirtual 57, 3) := by decide +kernel
theorem dX3_begin_13 : decode cX3_begin 13 = .ok (.checkcast 77, 3) := by decide +kernel
theorem dX3_begin_16 : decode cX3_begin 16 = .ok (.astore_n 3, 1) := by decide +kernel
theorem dX3_begin_17 : decode cX3_begin 17 = .ok (.aload_n 3, 1) := by decide +kernel
theorem dX3_begin_18 : decode cX3_begin 18 = .ok (.getfield 90, 3) := by decide +kernel
theorem dX3_begin_21 : decode cX3_begin 21 = .ok (.istore 4, 2) := by decide +kernel
theorem dX3_begin_23 : decode cX3_begin 23 = .ok (.aload_n 3, 1) := by decide +kernel
theorem dX3_begin_24 : decode cX3_begin 24 = .ok (.iload_n 2, 1) := by decide +kernel
theorem dX3_begin_25 : decode cX3_begin 25 = .ok (.putfield 90, 3) := by decide +kernel
theorem dX3_begin_28 : decode cX3_begin 28 = .ok (.iload 4, 2) := by decide +kernel
theorem dX3_begin_30 : decode cX3_begin 30 = .ok (.ireturn, 1) := by decide +kernel
theorem dX3_toggle_0 : decode cX3_toggle 0 = .ok (.aload_n 0, 1) := by decide +kernel
theorem dX3_toggle_1 : decode cX3_toggle 1 = .ok (.iload_n 1, 1) := by decide +kernel
theorem dX3_toggle_2 : decode cX3_toggle 2 = .ok (.invokevirtual 82, 3) := by decide +kernel
theorem dX3_toggle_5 : decode cX3_toggle 5 = .ok (.iload_n 2, 1) := by decide +kernel
theorem dX3_toggle_6 : decode cX3_toggle 6 = .ok (.iconst 1, 1) := by decide +kernel
theorem dX3_toggle_7 : decode cX3_toggle 7 = .ok (.if_icmp .lt 10, 3) := by decide +kernel
theorem dX3_toggle_10 : decode cX3_toggle 10 = .ok (.iload_n 2, 1) := by decide +kernel
theorem dX3_toggle_11 : decode cX3_toggle 11 = .ok (.sipush 999, 3) := by decide +kernel
theorem dX3_toggle_14 : decode cX3_toggle 14 = .ok (.if_icmp .le 13, 3) := by decide +kernel
theorem dX3_toggle_17 : decode cX3_toggle 17 = .ok (.new 52, 3) := by decide +kernel
theorem dX3_toggle_20 : decode cX3_toggle 20 = .ok (.dup, 1) := by decide +kernel
theorem dX3_toggle_21 : decode cX3_toggle 21 = .ok (.ldc 93, 2) := by decide +kernel
theorem dX3_toggle_23 : decode cX3_toggle 23 = .ok (.invokespecial 56, 3) := by decide +kernel
theorem dX3_toggle_26 : decode cX3_toggle 26 = .ok (.athrow, 1) := by decide +kernel
theorem dX3_toggle_27 : decode cX3_toggle 27 = .ok (.aload_n 0, 1) := by decide +kernel
theorem dX3_toggle_28 : decode cX3_toggle 28 = .ok (.getfield 16, 3) := by decide +kernel
theorem dX3_toggle_31 : decode cX3_toggle 31 = .ok (.iload_n 1, 1) := by decide +kernel
theorem dX3_toggle_32 : decode cX3_toggle 32 = .ok (.invokevirtual 57, 3) := by decide +kernel
theorem dX3_toggle_35 : decode cX3_toggle 35 = .ok (.checkcast 77, 3) := by decide +kernel
theorem dX3_toggle_38 : decode cX3_toggle 38 = .ok (.astore_n 3, 1) := by decide +kernel
theorem dX3_toggle_39 : decode cX3_toggle 39 = .ok (.aload_n 3, 1) := by decide +kernel
theorem dX3_toggle_40 : decode cX3_toggle 40 = .ok (.iload_n 2, 1) := by decide +kernel
theorem dX3_toggle_41 : decode cX3_toggle 41 = .ok (.invokevirtual 95, 3) := by decide +kernel
theorem dX3_toggle_44 : decode cX3_toggle 44 = .ok (.ifCond .eq 11, 3) := by decide +kernel
theorem dX3_toggle_47 : decode cX3_toggle 47 = .ok (.aload_n 3, 1) := by decide +kernel
theorem dX3_toggle_48 : decode cX3_toggle 48 = .ok (.iload_n 2, 1) := by decide +kernel
theorem dX3_toggle_49 : decode cX3_toggle 49 = .ok (.invokevirtual 99, 3) := by decide +kernel
theorem dX3_toggle_52 : decode cX3_toggle 52 = .ok (.goto 30, 3) := by decide +kernel
theorem dX3_toggle_55 : decode cX3_toggle 55 = .ok (.aload_n 3, 1) := by decide +kernel
theorem dX3_toggle_56 : decode cX3_toggle 56 = .ok (.getfield 102, 3) := by decide +kernel
theorem dX3_toggle_59 : decode cX3_toggle 59 = .ok (.bipush 6, 2) := by decide +kernel
theorem dX3_toggle_61 : decode cX3_toggle 61 = .ok (.if_icmp .ge 11, 3) := by decide +kernel
theorem dX3_toggle_64 : decode cX3_toggle 64 = .ok (.aload_n 3, 1) := by decide +kernel
theorem dX3_toggle_65 : decode cX3_toggle 65 = .ok (.iload_n 2, 1) := by decide +kernel
theorem dX3_toggle_66 : decode cX3_toggle 66 = .ok (.invokevirtual 105, 3) := by decide +kernel
theorem dX3_toggle_69 : decode cX3_toggle 69 = .ok (.goto 13, 3) := by decide +kernel
theorem dX3_toggle_72 : decode cX3_toggle 72 = .ok (.new 34, 3) := by decide +kernel
theorem dX3_toggle_75 : decode cX3_toggle 75 = .ok (.dup, 1) := by decide +kernel
theorem dX3_toggle_76 : decode cX3_toggle 76 = .ok (.ldc 108, 2) := by decide +kernel
theorem dX3_toggle_78 : decode cX3_toggle 78 = .ok (.invokespecial 38, 3) := by decide +kernel
theorem dX3_toggle_81 : decode cX3_toggle 81 = .ok (.athrow, 1) := by decide +kernel
theorem dX3_toggle_82 : decode cX3_toggle 82 = .ok (.aload_n 3, 1) := by decide +kernel
theorem dX3_toggle_83 : decode cX3_toggle 83 = .ok (.getfield 102, 3) := by decide +kernel
theorem dX3_toggle_86 : decode cX3_toggle 86 = .ok (.ireturn, 1) := by decide +kernel
theorem dX3_floats_0 : decode cX3_floats 0 = .ok (.aload_n 0, 1) := by decide +kernel
theorem dX3_floats_1 : decode cX3_floats 1 = .ok (.iload_n 1, 1) := by decide +kernel
theorem dX3_floats_2 : decode cX3_floats 2 = .ok (.invokevirtual 48, 3) := by decide +kernel
theorem dX3_floats_5 : decode cX3_floats 5 = .ok (.iload_n 2, 1) := by decide +kernel
theorem dX3_floats_6 : decode cX3_floats 6 = .ok (.invokestatic 129, 3) := by decide +kernel
theorem dX3_floats_9 : decode cX3_floats 9 = .ok (.aload_n 0, 1) := by decide +kernel
theorem dX3_floats_10 : decode cX3_floats 10 = .ok (.iload_n 2, 1) := by decide +kernel
theorem dX3_floats_11 : decode cX3_floats 11 = .ok (.invokevirtual 135, 3) := by decide +kernel
theorem dX3_floats_14 : decode cX3_floats 14 = .ok (.aload_n 0, 1) := by decide +kernel
theorem dX3_floats_15 : decode cX3_floats 15 = .ok (.iload_n 1, 1) := by decide +kernel
theorem dX3_floats_16 : decode cX3_floats 16 = .ok (.invokevirtual 138, 3) := by decide +kernel
theorem dX3_floats_19 : decode cX3_floats 19 = .ok (.ireturn, 1) := by decide +kernel
theorem dX3_feed_0 : decode cX3_feed 0 = .ok (.aload_n 0, 1) := by decide +kernel
theorem dX3_feed_1 : decode cX3_feed 1 = .ok (.iload_n 1, 1) := by decide +kernel
theorem dX3_feed_2 : decode cX3_feed 2 = .ok (.invokevirtual 48, 3) := by decide +kernel
theorem dX3_feed_5 : decode cX3_feed 5 = .ok (.iload_n 2, 1) := by decide +kernel
theorem dX3_feed_6 : decode cX3_feed 6 = .ok (.invokestatic 129, 3) := by decide +kernel
theorem dX3_feed_9 : decode cX3_feed 9 = .ok (.aload_n 0, 1) := by decide +kernel
theorem dX3_feed_10 : decode cX3_feed 10 = .ok (.getfield 12, 3) := by decide +kernel
theorem dX3_feed_13 : decode cX3_feed 13 = .ok (.iload_n 1, 1) := by decide +kernel
theorem dX3_feed_14 : decode cX3_feed 14 = .ok (.invokevirtual 57, 3) := by decide +kernel
theorem dX3_feed_17 : decode cX3_feed 17 = .ok (.checkcast 41, 3) := by decide +kernel
theorem dX3_feed_20 : decode cX3_feed 20 = .ok (.getfield 61, 3) := by decide +kernel
theorem dX3_feed_23 : decode cX3_feed 23 = .ok (.ifCond .ne 13, 3) := by decide +kernel
theorem dX3_feed_26 : decode cX3_feed 26 = .ok (.new 34, 3) := by decide +kernel
theorem dX3_feed_29 : decode cX3_feed 29 = .ok (.dup, 1) := by decide +kernel
theorem dX3_feed_30 : decode cX3_feed 30 = .ok (.ldc 166, 2) := by decide +kernel
theorem dX3_feed_32 : decode cX3_feed 32 = .ok (.invokespecial 38, 3) := by decide +kernel
theorem dX3_feed_35 : decode cX3_feed 35 = .ok (.athrow, 1) := by decide +kernel
theorem dX3_feed_36 : decode cX3_feed 36 = .ok (.aload_n 0, 1) := by decide +kernel
theorem dX3_feed_37 : decode cX3_feed 37 = .ok (.iload_n 2, 1) := by decide +kernel
theorem dX3_feed_38 : decode cX3_feed 38 = .ok (.invokevirtual 141, 3) := by decide +kernel
theorem dX3_feed_41 : decode cX3_feed 41 = .ok (.lconst 0, 1) := by decide +kernel
theorem dX3_feed_42 : decode cX3_feed 42 = .ok (.lstore 4, 2) := by decide +kernel
theorem dX3_feed_44 : decode cX3_feed 44 = .ok (.iconst 0, 1) := by decide +kernel
theorem dX3_feed_45 : decode cX3_feed 45 = .ok (.istore 6, 2) := by decide +kernel
theorem dX3_feed_47 : decode cX3_feed 47 = .ok (.iload 6, 2) := by decide +kernel
theorem dX3_feed_49 : decode cX3_feed 49 = .ok (.aload_n 0, 1) := by decide +kernel
theorem dX3_feed_50 : decode cX3_feed 50 = .ok (.getfield 16, 3) := by decide +kernel
theorem dX3_feed_53 : decode cX3_feed 53 = .ok (.invokevirtual 30, 3) := by decide +kernel
theorem dX3_feed_56 : decode cX3_feed 56 = .ok (.if_icmp .ge 44, 3) := by decide +kernel
theorem dX3_feed_59 : decode cX3_feed 59 = .ok (.aload_n 0, 1) := by decide +kernel
theorem dX3_feed_60 : decode cX3_feed 60 = .ok (.getfield 16, 3) := by decide +kernel
theorem dX3_feed_63 : decode cX3_feed 63 = .ok (.iload 6, 2) := by decide +kernel
theorem dX3_feed_65 : decode cX3_feed 65 = .ok (.invokevirtual 57, 3) := by decide +kernel
theorem dX3_feed_68 : decode cX3_feed 68 = .ok (.checkcast 77, 3) := by decide +kernel
theorem dX3_feed_71 : decode cX3_feed 71 = .ok (.astore 7, 2) := by decide +kernel
theorem dX3_feed_73 : decode cX3_feed 73 = .ok (.aload 7, 2) := by decide +kernel
theorem dX3_feed_75 : decode cX3_feed 75 = .ok (.iload_n 2, 1) := by decide +kernel
theorem dX3_feed_76 : decode cX3_feed 76 = .ok (.invokevirtual 132, 3) := by decide +kernel
theorem dX3_feed_79 : decode cX3_feed 79 = .ok (.ifCond .eq 15, 3) := by decide +kernel
theorem dX3_feed_82 : decode cX3_feed 82 = .ok (.lload 4, 2) := by decide +kernel
theorem dX3_feed_84 : decode cX3_feed 84 = .ok (.aload_n 0, 1) := by decide +kernel
theorem dX3_feed_85 : decode cX3_feed 85 = .ok (.aload 7, 2) := by decide +kernel
theorem dX3_feed_87 : decode cX3_feed 87 = .ok (.iload_n 1, 1) := by decide +kernel
theorem dX3_feed_88 : decode cX3_feed 88 = .ok (.invokevirtual 162, 3) := by decide +kernel
theorem dX3_feed_91 : decode cX3_feed 91 = .ok (.ladd, 1) := by decide +kernel
theorem dX3_feed_92 : decode cX3_feed 92 = .ok (.lstore 4, 2) := by decide +kernel
theorem dX3_feed_94 : decode cX3_feed 94 = .ok (.iinc 6 1, 3) := by decide +kernel
theorem dX3_feed_97 : decode cX3_feed 97 = .ok (.goto (-50), 3) := by decide +kernel
theorem dX3_feed_100 : decode cX3_feed 100 = .ok (.lload 4, 2) := by decide +kernel
theorem dX3_feed_102 : decode cX3_feed 102 = .ok (.aload_n 0, 1) := by decide +kernel
theorem dX3_feed_103 : decode cX3_feed 103 = .ok (.getfield 26, 3) := by decide +kernel
theorem dX3_feed_106 : decode cX3_feed 106 = .ok (.invokevirtual 151, 3) := by decide +kernel
theorem dX3_feed_109 : decode cX3_feed 109 = .ok (.iload_n 3, 1) := by decide +kernel
theorem dX3_feed_110 : decode cX3_feed 110 = .ok (.invokestatic 155, 3) := by decide +kernel
theorem dX3_feed_113 : decode cX3_feed 113 = .ok (.lreturn, 1) := by decide +kernel
theorem dX3_resistance_0 : decode cX3_resistance 0 = .ok (.aload_n 0, 1) := by decide +kernel
theorem dX3_resistance_1 : decode cX3_resistance 1 = .ok (.iload_n 1, 1) := by decide +kernel
theorem dX3_resistance_2 : decode cX3_resistance 2 = .ok (.invokevirtual 48, 3) := by decide +kernel
theorem dX3_resistance_5 : decode cX3_resistance 5 = .ok (.aload_n 0, 1) := by decide +kernel
theorem dX3_resistance_6 : decode cX3_resistance 6 = .ok (.iload_n 2, 1) := by decide +kernel
theorem dX3_resistance_7 : decode cX3_resistance 7 = .ok (.invokevirtual 48, 3) := by decide +kernel
theorem dX3_resistance_10 : decode cX3_resistance 10 = .ok (.iload_n 3, 1) := by decide +kernel
theorem dX3_resistance_11 : decode cX3_resistance 11 = .ok (.invokestatic 129, 3) := by decide +kernel
theorem dX3_resistance_14 : decode cX3_resistance 14 = .ok (.aload_n 0, 1) := by decide +kernel
theorem dX3_resistance_15 : decode cX3_resistance 15 = .ok (.iload_n 3, 1) := by decide +kernel
theorem dX3_resistance_16 : decode cX3_resistance 16 = .ok (.invokevirtual 135, 3) := by decide +kernel
theorem dX3_resistance_19 : decode cX3_resistance 19 = .ok (.aload_n 0, 1) := by decide +kernel
theorem dX3_resistance_20 : decode cX3_resistance 20 = .ok (.getfield 19, 3) := by decide +kernel
theorem dX3_resistance_23 : decode cX3_resistance 23 = .ok (.iload_n 1, 1) := by decide +kernel
theorem dX3_resistance_24 : decode cX3_resistance 24 = .ok (.iaload, 1) := by decide +kernel
theorem dX3_resistance_25 : decode cX3_resistance 25 = .ok (.iload_n 2, 1) := by decide +kernel
theorem dX3_resistance_26 : decode cX3_resistance 26 = .ok (.invokestatic 168, 3) := by decide +kernel
theorem dX3_resistance_29 : decode cX3_resistance 29 = .ok (.ifCond .ne 13, 3) := by decide +kernel
theorem dX3_resistance_32 : decode cX3_resistance 32 = .ok (.new 34, 3) := by decide +kernel
theorem dX3_resistance_35 : decode cX3_resistance 35 = .ok (.dup, 1) := by decide +kernel
theorem dX3_resistance_36 : decode cX3_resistance 36 = .ok (.ldc 172, 2) := by decide +kernel
theorem dX3_resistance_38 : decode cX3_resistance 38 = .ok (.invokespecial 38, 3) := by decide +kernel
theorem dX3_resistance_41 : decode cX3_resistance 41 = .ok (.athrow, 1) := by decide +kernel
theorem dX3_resistance_42 : decode cX3_resistance 42 = .ok (.aload_n 0, 1) := by decide +kernel
theorem dX3_resistance_43 : decode cX3_resistance 43 = .ok (.iload_n 1, 1) := by decide +kernel
theorem dX3_resistance_44 : decode cX3_resistance 44 = .ok (.iload_n 2, 1) := by decide +kernel
theorem dX3_resistance_45 : decode cX3_resistance 45 = .ok (.iload_n 3, 1) := by decide +kernel
theorem dX3_resistance_46 : decode cX3_resistance 46 = .ok (.invokevirtual 174, 3) := by decide +kernel
theorem dX3_resistance_49 : decode cX3_resistance 49 = .ok (.aload_n 0, 1) := by decide +kernel
theorem dX3_resistance_50 : decode cX3_resistance 50 = .ok (.getfield 26, 3) := by decide +kernel
theorem dX3_resistance_53 : decode cX3_resistance 53 = .ok (.iload_n 1, 1) := by decide +kernel
theorem dX3_resistance_54 : decode cX3_resistance 54 = .ok (.invokevirtual 147, 3) := by decide +kernel
theorem dX3_resistance_57 : decode cX3_resistance 57 = .ok (.aload_n 0, 1) := by decide +kernel
theorem dX3_resistance_58 : decode cX3_resistance 58 = .ok (.getfield 26, 3) := by decide +kernel
theorem dX3_resistance_61 : decode cX3_resistance 61 = .ok (.invokevirtual 151, 3) := by decide +kernel
theorem dX3_resistance_64 : decode cX3_resistance 64 = .ok (.iload 4, 2) := by decide +kernel
theorem dX3_resistance_66 : decode cX3_resistance 66 = .ok (.invokestatic 155, 3) := by decide +kernel
theorem dX3_resistance_69 : decode cX3_resistance 69 = .ok (.lreturn, 1) := by decide +kernel
theorem dX3_power_0 : decode cX3_power 0 = .ok (.iload_n 1, 1) := by decide +kernel
theorem dX3_power_1 : decode cX3_power 1 = .ok (.invokestatic 129, 3) := by decide +kernel
theorem dX3_power_4 : decode cX3_power 4 = .ok (.aload_n 0, 1) := by decide +kernel
theorem dX3_power_5 : decode cX3_power 5 = .ok (.iload_n 1, 1) := by decide +kernel
theorem dX3_power_6 : decode cX3_power 6 = .ok (.invokevirtual 141, 3) := by decide +kernel
theorem dX3_power_9 : decode cX3_power 9 = .ok (.dconst 0, 1) := by decide +kernel
theorem dX3_power_10 : decode cX3_power 10 = .ok (.dstore_n 2, 1) := by decide +kernel
theorem dX3_power_11 : decode cX3_power 11 = .ok (.iconst 0, 1) := by decide +kernel
theorem dX3_power_12 : decode cX3_power 12 = .ok (.istore 4, 2) := by decide +kernel
theorem dX3_power_14 : decode cX3_power 14 = .ok (.iload 4, 2) := by decide +kernel
theorem dX3_power_16 : decode cX3_power 16 = .ok (.aload_n 0, 1) := by decide +kernel
theorem dX3_power_17 : decode cX3_power 17 = .ok (.getfield 16, 3) := by decide +kernel
theorem dX3_power_20 : decode cX3_power 20 = .ok (.invokevirtual 30, 3) := by decide +kernel
theorem dX3_power_23 : decode cX3_power 23 = .ok (.if_icmp .ge 88, 3) := by decide +kernel
theorem dX3_power_26 : decode cX3_power 26 = .ok (.aload_n 0, 1) := by decide +kernel
theorem dX3_power_27 : decode cX3_power 27 = .ok (.getfield 16, 3) := by decide +kernel
theorem dX3_power_30 : decode cX3_power 30 = .ok (.iload 4, 2) := by decide +kernel
theorem dX3_power_32 : decode cX3_power 32 = .ok (.invokevirtual 57, 3) := by decide +kernel
theorem dX3_power_35 : decode cX3_power 35 = .ok (.checkcast 77, 3) := by decide +kernel
theorem dX3_power_38 : decode cX3_power 38 = .ok (.astore 5, 2) := by decide +kernel
theorem dX3_power_40 : decode cX3_power 40 = .ok (.aload 5, 2) := by decide +kernel
theorem dX3_power_42 : decode cX3_power 42 = .ok (.getfield 85, 3) := by decide +kernel
theorem dX3_power_45 : decode cX3_power 45 = .ok (.ifCond .ne 60, 3) := by decide +kernel
theorem dX3_power_48 : decode cX3_power 48 = .ok (.aload 5, 2) := by decide +kernel
theorem dX3_power_50 : decode cX3_power 50 = .ok (.iload_n 1, 1) := by decide +kernel
theorem dX3_power_51 : decode cX3_power 51 = .ok (.invokevirtual 132, 3) := by decide +kernel
theorem dX3_power_54 : decode cX3_power 54 = .ok (.ifCond .eq 51, 3) := by decide +kernel
theorem dX3_power_57 : decode cX3_power 57 = .ok (.aload_n 0, 1) := by decide +kernel
theorem dX3_power_58 : decode cX3_power 58 = .ok (.aload 5, 2) := by decide +kernel
theorem dX3_power_60 : decode cX3_power 60 = .ok (.getfield 159, 3) := by decide +kernel
theorem dX3_power_63 : decode cX3_power 63 = .ok (.invokevirtual 138, 3) := by decide +kernel
theorem dX3_power_66 : decode cX3_power 66 = .ok (.ifCond .ne 39, 3) := by decide +kernel
theorem dX3_power_69 : decode cX3_power 69 = .ok (.aload_n 0, 1) := by decide +kernel
theorem dX3_power_70 : decode cX3_power 70 = .ok (.aload 5, 2) := by decide +kernel
theorem dX3_power_72 : decode cX3_power 72 = .ok (.getfield 159, 3) := by decide +kernel
theorem dX3_power_75 : decode cX3_power 75 = .ok (.invokevirtual 178, 3) := by decide +kernel
theorem dX3_power_78 : decode cX3_power 78 = .ok (.aload_n 0, 1) := by decide +kernel
theorem dX3_power_79 : decode cX3_power 79 = .ok (.aload 5, 2) := by decide +kernel
theorem dX3_power_81 : decode cX3_power 81 = .ok (.getfield 182, 3) := by decide +kernel
theorem dX3_power_84 : decode cX3_power 84 = .ok (.invokevirtual 178, 3) := by decide +kernel
theorem dX3_power_87 : decode cX3_power 87 = .ok (.dsub, 1) := by decide +kernel
theorem dX3_power_88 : decode cX3_power 88 = .ok (.dstore 6, 2) := by decide +kernel
theorem dX3_power_90 : decode cX3_power 90 = .ok (.dload_n 2, 1) := by decide +kernel
theorem dX3_power_91 : decode cX3_power 91 = .ok (.aload 5, 2) := by decide +kernel
theorem dX3_power_93 : decode cX3_power 93 = .ok (.getfield 88, 3) := by decide +kernel
theorem dX3_power_96 : decode cX3_power 96 = .ok (.i2d, 1) := by decide +kernel
theorem dX3_power_97 : decode cX3_power 97 = .ok (.dload 6, 2) := by decide +kernel
theorem dX3_power_99 : decode cX3_power 99 = .ok (.dmul, 1) := by decide +kernel
theorem dX3_power_100 : decode cX3_power 100 = .ok (.dload 6, 2) := by decide +kernel
theorem dX3_power_102 : decode cX3_power 102 = .ok (.dmul, 1) := by decide +kernel
theorem dX3_power_103 : decode cX3_power 103 = .ok (.dadd, 1) := by decide +kernel
theorem dX3_power_104 : decode cX3_power 104 = .ok (.dstore_n 2, 1) := by decide +kernel
theorem dX3_power_105 : decode cX3_power 105 = .ok (.iinc 4 1, 3) := by decide +kernel
theorem dX3_power_108 : decode cX3_power 108 = .ok (.goto (-94), 3) := by decide +kernel
theorem dX3_power_111 : decode cX3_power 111 = .ok (.dload_n 2, 1) := by decide +kernel
theorem dX3_power_112 : decode cX3_power 112 = .ok (.dreturn, 1) := by decide +kernel
theorem dX3_probe_0 : decode cX3_probe 0 = .ok (.aload_n 0, 1) := by decide +kernel
theorem dX3_probe_1 : decode cX3_probe 1 = .ok (.iload_n 1, 1) := by decide +kernel
theorem dX3_probe_2 : decode cX3_probe 2 = .ok (.invokevirtual 48, 3) := by decide +kernel
theorem dX3_probe_5 : decode cX3_probe 5 = .ok (.iload_n 2, 1) := by decide +kernel
theorem dX3_probe_6 : decode cX3_probe 6 = .ok (.invokestatic 129, 3) := by decide +kernel
theorem dX3_probe_9 : decode cX3_probe 9 = .ok (.iload_n 3, 1) := by decide +kernel
theorem dX3_probe_10 : decode cX3_probe 10 = .ok (.invokestatic 129, 3) := by decide +kernel
theorem dX3_probe_13 : decode cX3_probe 13 = .ok (.iload_n 3, 1) := by decide +kernel
theorem dX3_probe_14 : decode cX3_probe 14 = .ok (.iload_n 2, 1) := by decide +kernel
theorem dX3_probe_15 : decode cX3_probe 15 = .ok (.if_icmp .ge 13, 3) := by decide +kernel
theorem dX3_probe_18 : decode cX3_probe 18 = .ok (.new 52, 3) := by decide +kernel
theorem dX3_probe_21 : decode cX3_probe 21 = .ok (.dup, 1) := by decide +kernel
theorem dX3_probe_22 : decode cX3_probe 22 = .ok (.ldc 188, 2) := by decide +kernel
theorem dX3_probe_24 : decode cX3_probe 24 = .ok (.invokespecial 56, 3) := by decide +kernel
theorem dX3_probe_27 : decode cX3_probe 27 = .ok (.athrow, 1) := by decide +kernel
theorem dX3_probe_28 : decode cX3_probe 28 = .ok (.iconst (-1), 1) := by decide +kernel
theorem dX3_probe_29 : decode cX3_probe 29 = .ok (.istore 5, 2) := by decide +kernel
theorem dX3_probe_31 : decode cX3_probe 31 = .ok (.lconst 0, 1) := by decide +kernel
theorem dX3_probe_32 : decode cX3_probe 32 = .ok (.lstore 6, 2) := by decide +kernel
theorem dX3_probe_34 : decode cX3_probe 34 = .ok (.lconst 1, 1) := by decide +kernel
theorem dX3_probe_35 : decode cX3_probe 35 = .ok (.lstore 8, 2) := by decide +kernel
theorem dX3_probe_37 : decode cX3_probe 37 = .ok (.iload_n 2, 1) := by decide +kernel
theorem dX3_probe_38 : decode cX3_probe 38 = .ok (.istore 10, 2) := by decide +kernel
theorem dX3_probe_40 : decode cX3_probe 40 = .ok (.iconst 0, 1) := by decide +kernel
theorem dX3_probe_41 : decode cX3_probe 41 = .ok (.istore 11, 2) := by decide +kernel
theorem dX3_probe_43 : decode cX3_probe 43 = .ok (.iload 11, 2) := by decide +kernel
theorem dX3_probe_45 : decode cX3_probe 45 = .ok (.sipush 999, 3) := by decide +kernel
theorem dX3_probe_48 : decode cX3_probe 48 = .ok (.if_icmp .gt 109, 3) := by decide +kernel
theorem dX3_probe_51 : decode cX3_probe 51 = .ok (.iload 10, 2) := by decide +kernel
theorem dX3_probe_53 : decode cX3_probe 53 = .ok (.ifCond .lt 104, 3) := by decide +kernel
theorem dX3_probe_56 : decode cX3_probe 56 = .ok (.iload 10, 2) := by decide +kernel
theorem dX3_probe_58 : decode cX3_probe 58 = .ok (.iload_n 3, 1) := by decide +kernel
theorem dX3_probe_59 : decode cX3_probe 59 = .ok (.if_icmp .gt 98, 3) := by decide +kernel
theorem dX3_probe_62 : decode cX3_probe 62 = .ok (.aload_n 0, 1) := by decide +kernel
theorem dX3_probe_63 : decode cX3_probe 63 = .ok (.iload 10, 2) := by decide +kernel
theorem dX3_probe_65 : decode cX3_probe 65 = .ok (.invokevirtual 141, 3) := by decide +kernel
theorem dX3_probe_68 : decode cX3_probe 68 = .ok (.aload_n 0, 1) := by decide +kernel
theorem dX3_probe_69 : decode cX3_probe 69 = .ok (.iload_n 1, 1) := by decide +kernel
theorem dX3_probe_70 : decode cX3_probe 70 = .ok (.invokevirtual 138, 3) := by decide +kernel
theorem dX3_probe_73 : decode cX3_probe 73 = .ok (.ifCond .ne 70, 3) := by decide +kernel
theorem dX3_probe_76 : decode cX3_probe 76 = .ok (.aload_n 0, 1) := by decide +kernel
theorem dX3_probe_77 : decode cX3_probe 77 = .ok (.getfield 26, 3) := by decide +kernel
theorem dX3_probe_80 : decode cX3_probe 80 = .ok (.iload_n 1, 1) := by decide +kernel
theorem dX3_probe_81 : decode cX3_probe 81 = .ok (.invokevirtual 147, 3) := by decide +kernel
theorem dX3_probe_84 : decode cX3_probe 84 = .ok (.lstore 12, 2) := by decide +kernel
theorem dX3_probe_86 : decode cX3_probe 86 = .ok (.aload_n 0, 1) := by decide +kernel
theorem dX3_probe_87 : decode cX3_probe 87 = .ok (.getfield 26, 3) := by decide +kernel
theorem dX3_probe_90 : decode cX3_probe 90 = .ok (.invokevirtual 151, 3) := by decide +kernel
theorem dX3_probe_93 : decode cX3_probe 93 = .ok (.lstore 14, 2) := by decide +kernel
theorem dX3_probe_95 : decode cX3_probe 95 = .ok (.lload 12, 2) := by decide +kernel
theorem dX3_probe_97 : decode cX3_probe 97 = .ok (.lload 14, 2) := by decide +kernel
theorem dX3_probe_99 : decode cX3_probe 99 = .ok (.lload 6, 2) := by decide +kernel
theorem dX3_probe_101 : decode cX3_probe 101 = .ok (.lload 8, 2) := by decide +kernel
theorem dX3_probe_103 : decode cX3_probe 103 = .ok (.invokestatic 190, 3) := by decide +kernel
theorem dX3_probe_106 : decode cX3_probe 106 = .ok (.istore 16, 2) := by decide +kernel
theorem dX3_probe_108 : decode cX3_probe 108 = .ok (.iload 5, 2) := by decide +kernel
theorem dX3_probe_110 : decode cX3_probe 110 = .ok (.ifCond .lt 21, 3) := by decide +kernel
theorem dX3_probe_113 : decode cX3_probe 113 = .ok (.iload 4, 2) := by decide +kernel
theorem dX3_probe_115 : decode cX3_probe 115 = .ok (.ifCond .eq 11, 3) := by decide +kernel
theorem dX3_probe_118 : decode cX3_probe 118 = .ok (.iload 16, 2) := by decide +kernel
theorem dX3_probe_120 : decode cX3_probe 120 = .ok (.ifCond .le 23, 3) := by decide +kernel
theorem dX3_probe_123 : decode cX3_probe 123 = .ok (.goto 8, 3) := by decide +kernel
theorem dX3_probe_126 : decode cX3_probe 126 = .ok (.iload 16, 2) := by decide +kernel
