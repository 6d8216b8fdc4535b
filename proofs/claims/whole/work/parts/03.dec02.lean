theorem dX3_group_81 : decode cX3_group 81 = .ok (.iaload, 1) := by decide +kernel
theorem dX3_group_82 : decode cX3_group 82 = .ok (.ior, 1) := by decide +kernel
theorem dX3_group_83 : decode cX3_group 83 = .ok (.invokevirtual 219, 3) := by decide +kernel
theorem dX3_group_86 : decode cX3_group 86 = .ok (.iinc 2 1, 3) := by decide +kernel
theorem dX3_group_89 : decode cX3_group 89 = .ok (.goto (-64), 3) := by decide +kernel
theorem dX3_group_92 : decode cX3_group 92 = .ok (.return_, 1) := by decide +kernel
set_option maxRecDepth 20000 in
theorem ggX3_join_X3_contains : GoodIn wsX3_join wsX3_contains := goodIn_r _ [5] (by decide +kernel) (by decide +kernel)
set_option maxRecDepth 20000 in
theorem gX3_join_X3_contains : GoodIn wsX3_join (va_wsS RX3 168 yX3_contains wsX3_contains) := goodIn_app (goodIn_of _ (by decide +kernel)) ggX3_join_X3_contains
theorem dX3_join_0 : decode cX3_join 0 = .ok (.iconst 0, 1) := by decide +kernel
theorem dX3_join_1 : decode cX3_join 1 = .ok (.istore_n 2, 1) := by decide +kernel
theorem dX3_join_2 : decode cX3_join 2 = .ok (.iload_n 2, 1) := by decide +kernel
theorem dX3_join_3 : decode cX3_join 3 = .ok (.bipush 8, 2) := by decide +kernel
theorem dX3_join_5 : decode cX3_join 5 = .ok (.if_icmp .ge 24, 3) := by decide +kernel
theorem dX3_join_8 : decode cX3_join 8 = .ok (.iload_n 1, 1) := by decide +kernel
theorem dX3_join_9 : decode cX3_join 9 = .ok (.iload_n 2, 1) := by decide +kernel
theorem dX3_join_10 : decode cX3_join 10 = .ok (.invokestatic 168, 3) := by decide +kernel
theorem dX3_join_13 : decode cX3_join 13 = .ok (.ifCond .eq 10, 3) := by decide +kernel
theorem dX3_join_16 : decode cX3_join 16 = .ok (.aload_n 0, 1) := by decide +kernel
theorem dX3_join_17 : decode cX3_join 17 = .ok (.getfield 19, 3) := by decide +kernel
theorem dX3_join_20 : decode cX3_join 20 = .ok (.iload_n 2, 1) := by decide +kernel
theorem dX3_join_21 : decode cX3_join 21 = .ok (.iload_n 1, 1) := by decide +kernel
theorem dX3_join_22 : decode cX3_join 22 = .ok (.iastore, 1) := by decide +kernel
theorem dX3_join_23 : decode cX3_join 23 = .ok (.iinc 2 1, 3) := by decide +kernel
theorem dX3_join_26 : decode cX3_join 26 = .ok (.goto (-24), 3) := by decide +kernel
theorem dX3_join_29 : decode cX3_join 29 = .ok (.return_, 1) := by decide +kernel
set_option maxRecDepth 20000 in
theorem ggX3_isAfloat_Jx4a65c_size_8abf5 : GoodIn wsX3_isAfloat wsJx4a65c_size_8abf5 := goodIn_r _ [9, 10, 38, 39, 40] (by decide +kernel) (by decide +kernel)
set_option maxRecDepth 20000 in
theorem gX3_isAfloat_Jx4a65c_size_8abf5 : GoodIn wsX3_isAfloat (wsV RX3 30 RJx4a65c yJx4a65c_size_8abf5 wsJx4a65c_size_8abf5) := goodIn_app (goodIn_of _ (by decide +kernel)) ggX3_isAfloat_Jx4a65c_size_8abf5
set_option maxRecDepth 20000 in
theorem ggX3_isAfloat_Jx4a65c_get_915e3 : GoodIn wsX3_isAfloat wsJx4a65c_get_915e3 := goodIn_r _ [14, 10, 15, 16, 17, 18, 19, 20, 21, 22, 23, 24, 25, 8, 26, 27, 38, 39, 40] (by decide +kernel) (by decide +kernel)
set_option maxRecDepth 20000 in
theorem gX3_isAfloat_Jx4a65c_get_915e3 : GoodIn wsX3_isAfloat (wsV RX3 57 RJx4a65c yJx4a65c_get_915e3 wsJx4a65c_get_915e3) := goodIn_app (goodIn_of _ (by decide +kernel)) ggX3_isAfloat_Jx4a65c_get_915e3
set_option maxRecDepth 20000 in
theorem ggX3_isAfloat_X3_contains : GoodIn wsX3_isAfloat wsX3_contains := goodIn_r _ [31] (by decide +kernel) (by decide +kernel)
set_option maxRecDepth 20000 in
theorem gX3_isAfloat_X3_contains : GoodIn wsX3_isAfloat (va_wsS RX3 168 yX3_contains wsX3_contains) := goodIn_app (goodIn_of _ (by decide +kernel)) ggX3_isAfloat_X3_contains
theorem dX3_isAfloat_0 : decode cX3_isAfloat 0 = .ok (.iconst 0, 1) := by decide +kernel
theorem dX3_isAfloat_1 : decode cX3_isAfloat 1 = .ok (.istore_n 2, 1) := by decide +kernel
theorem dX3_isAfloat_2 : decode cX3_isAfloat 2 = .ok (.iload_n 2, 1) := by decide +kernel
theorem dX3_isAfloat_3 : decode cX3_isAfloat 3 = .ok (.aload_n 0, 1) := by decide +kernel
theorem dX3_isAfloat_4 : decode cX3_isAfloat 4 = .ok (.getfield 12, 3) := by decide +kernel
theorem dX3_isAfloat_7 : decode cX3_isAfloat 7 = .ok (.invokevirtual 30, 3) := by decide +kernel
theorem dX3_isAfloat_10 : decode cX3_isAfloat 10 = .ok (.if_icmp .ge 41, 3) := by decide +kernel
theorem dX3_isAfloat_13 : decode cX3_isAfloat 13 = .ok (.aload_n 0, 1) := by decide +kernel
theorem dX3_isAfloat_14 : decode cX3_isAfloat 14 = .ok (.getfield 12, 3) := by decide +kernel
theorem dX3_isAfloat_17 : decode cX3_isAfloat 17 = .ok (.iload_n 2, 1) := by decide +kernel
theorem dX3_isAfloat_18 : decode cX3_isAfloat 18 = .ok (.invokevirtual 57, 3) := by decide +kernel
theorem dX3_isAfloat_21 : decode cX3_isAfloat 21 = .ok (.checkcast 41, 3) := by decide +kernel
theorem dX3_isAfloat_24 : decode cX3_isAfloat 24 = .ok (.getfield 61, 3) := by decide +kernel
theorem dX3_isAfloat_27 : decode cX3_isAfloat 27 = .ok (.ifCond .eq 18, 3) := by decide +kernel
theorem dX3_isAfloat_30 : decode cX3_isAfloat 30 = .ok (.aload_n 0, 1) := by decide +kernel
theorem dX3_isAfloat_31 : decode cX3_isAfloat 31 = .ok (.getfield 19, 3) := by decide +kernel
theorem dX3_isAfloat_34 : decode cX3_isAfloat 34 = .ok (.iload_n 1, 1) := by decide +kernel
theorem dX3_isAfloat_35 : decode cX3_isAfloat 35 = .ok (.iaload, 1) := by decide +kernel
theorem dX3_isAfloat_36 : decode cX3_isAfloat 36 = .ok (.iload_n 2, 1) := by decide +kernel
theorem dX3_isAfloat_37 : decode cX3_isAfloat 37 = .ok (.invokestatic 168, 3) := by decide +kernel
theorem dX3_isAfloat_40 : decode cX3_isAfloat 40 = .ok (.ifCond .eq 5, 3) := by decide +kernel
theorem dX3_isAfloat_43 : decode cX3_isAfloat 43 = .ok (.iconst 0, 1) := by decide +kernel
theorem dX3_isAfloat_44 : decode cX3_isAfloat 44 = .ok (.ireturn, 1) := by decide +kernel
theorem dX3_isAfloat_45 : decode cX3_isAfloat 45 = .ok (.iinc 2 1, 3) := by decide +kernel
theorem dX3_isAfloat_48 : decode cX3_isAfloat 48 = .ok (.goto (-46), 3) := by decide +kernel
theorem dX3_isAfloat_51 : decode cX3_isAfloat 51 = .ok (.iconst 1, 1) := by decide +kernel
theorem dX3_isAfloat_52 : decode cX3_isAfloat 52 = .ok (.ireturn, 1) := by decide +kernel
theorem dX3_contains_0 : decode cX3_contains 0 = .ok (.iload_n 0, 1) := by decide +kernel
theorem dX3_contains_1 : decode cX3_contains 1 = .ok (.iload_n 1, 1) := by decide +kernel
theorem dX3_contains_2 : decode cX3_contains 2 = .ok (.ishr, 1) := by decide +kernel
theorem dX3_contains_3 : decode cX3_contains 3 = .ok (.iconst 1, 1) := by decide +kernel
theorem dX3_contains_4 : decode cX3_contains 4 = .ok (.iand, 1) := by decide +kernel
theorem dX3_contains_5 : decode cX3_contains 5 = .ok (.ifCond .eq 7, 3) := by decide +kernel
theorem dX3_contains_8 : decode cX3_contains 8 = .ok (.iconst 1, 1) := by decide +kernel
theorem dX3_contains_9 : decode cX3_contains 9 = .ok (.goto 4, 3) := by decide +kernel
theorem dX3_contains_12 : decode cX3_contains 12 = .ok (.iconst 0, 1) := by decide +kernel
theorem dX3_contains_13 : decode cX3_contains 13 = .ok (.ireturn, 1) := by decide +kernel
set_option maxRecDepth 20000 in
theorem ggX3_settle_X3_group : GoodIn wsX3_settle wsX3_group := goodIn_r _ [16, 17, 6, 7, 8, 9, 11, 18, 19, 20, 21, 22, 23, 24, 25, 26, 27, 28, 29, 30, 31, 32, 33, 34, 35, 36, 37, 38, 39, 40, 41, 42, 43, 44, 45, 46, 47, 48, 49, 50, 51, 52, 53, 54, 55, 15, 56, 57, 58, 59, 117, 118, 119, 120, 123, 124, 125, 126, 127, 128, 129, 130, 131, 132] (by decide +kernel) (by decide +kernel)
set_option maxRecDepth 20000 in
theorem gX3_settle_X3_group : GoodIn wsX3_settle (wsV RX3 135 RX3 yX3_group wsX3_group) := goodIn_app (goodIn_of _ (by decide +kernel)) ggX3_settle_X3_group
set_option maxRecDepth 20000 in
theorem ggX3_settle_X1_clear : GoodIn wsX3_settle wsX1_clear := goodIn_r _ [64, 65, 66, 67, 68, 133, 134, 135, 136, 137] (by decide +kernel) (by decide +kernel)
set_option maxRecDepth 20000 in
theorem gX3_settle_X1_clear : GoodIn wsX3_settle (wsV RX3 222 RX1 yX1_clear wsX1_clear) := goodIn_app (goodIn_of _ (by decide +kernel)) ggX3_settle_X1_clear
set_option maxRecDepth 20000 in
theorem ggX3_settle_Jx4a65c_size_8abf5 : GoodIn wsX3_settle wsJx4a65c_size_8abf5 := goodIn_r _ [22, 23, 130, 131, 132] (by decide +kernel) (by decide +kernel)
set_option maxRecDepth 20000 in
theorem gX3_settle_Jx4a65c_size_8abf5 : GoodIn wsX3_settle (wsV RX3 30 RJx4a65c yJx4a65c_size_8abf5 wsJx4a65c_size_8abf5) := goodIn_app (goodIn_of _ (by decide +kernel)) ggX3_settle_Jx4a65c_size_8abf5
set_option maxRecDepth 20000 in
theorem ggX3_settle_Jx4a65c_get_915e3 : GoodIn wsX3_settle wsJx4a65c_get_915e3 := goodIn_r _ [27, 23, 28, 29, 30, 31, 32, 33, 34, 35, 36, 37, 38, 21, 39, 40, 130, 131, 132] (by decide +kernel) (by decide +kernel)
set_option maxRecDepth 20000 in
theorem gX3_settle_Jx4a65c_get_915e3 : GoodIn wsX3_settle (wsV RX3 57 RJx4a65c yJx4a65c_get_915e3 wsJx4a65c_get_915e3) := goodIn_app (goodIn_of _ (by decide +kernel)) ggX3_settle_Jx4a65c_get_915e3
set_option maxRecDepth 20000 in
theorem ggX3_settle_X1_fix : GoodIn wsX3_settle wsX1_fix := goodIn_r _ [72, 67, 133, 134, 135, 136, 137] (by decide +kernel) (by decide +kernel)
set_option maxRecDepth 20000 in
theorem gX3_settle_X1_fix : GoodIn wsX3_settle (wsV RX3 225 RX1 yX1_fix wsX1_fix) := goodIn_app (goodIn_of _ (by decide +kernel)) ggX3_settle_X1_fix
set_option maxRecDepth 20000 in
theorem ggX3_settle_X3_isAfloat : GoodIn wsX3_settle wsX3_isAfloat := goodIn_r _ [76, 2, 3, 4, 17, 18, 19, 20, 21, 22, 23, 24, 25, 26, 27, 28, 29, 30, 31, 32, 33, 34, 35, 36, 37, 38, 39, 40, 57, 58, 15, 59, 117, 118, 119, 120, 121, 122, 130, 131, 132] (by decide +kernel) (by decide +kernel)
set_option maxRecDepth 20000 in
theorem gX3_settle_X3_isAfloat : GoodIn wsX3_settle (wsV RX3 138 RX3 yX3_isAfloat wsX3_isAfloat) := goodIn_app (goodIn_of _ (by decide +kernel)) ggX3_settle_X3_isAfloat
set_option maxRecDepth 20000 in
theorem ggX3_settle_X1_seek : GoodIn wsX3_settle wsX1_seek := goodIn_r _ [80, 65, 66, 133, 134, 135, 136, 137] (by decide +kernel) (by decide +kernel)
set_option maxRecDepth 20000 in
theorem gX3_settle_X1_seek : GoodIn wsX3_settle (wsV RX3 229 RX1 yX1_seek wsX1_seek) := goodIn_app (goodIn_of _ (by decide +kernel)) ggX3_settle_X1_seek
set_option maxRecDepth 20000 in
theorem ggX3_settle_X0_runsAt : GoodIn wsX3_settle wsX0_runsAt := goodIn_r _ [45, 46, 47, 48, 49, 44, 50, 51, 52, 123, 124, 125, 126, 127, 128, 129] (by decide +kernel) (by decide +kernel)
set_option maxRecDepth 20000 in
theorem gX3_settle_X0_runsAt : GoodIn wsX3_settle (wsV RX3 132 RX0 yX0_runsAt wsX0_runsAt) := goodIn_app (goodIn_of _ (by decide +kernel)) ggX3_settle_X0_runsAt
set_option maxRecDepth 20000 in
theorem ggX3_settle_X1_bring : GoodIn wsX3_settle wsX1_bring := goodIn_r _ [84, 66, 68, 65, 133, 134, 135, 136, 137] (by decide +kernel) (by decide +kernel)
set_option maxRecDepth 20000 in
theorem gX3_settle_X1_bring : GoodIn wsX3_settle (wsV RX3 232 RX1 yX1_bring wsX1_bring) := goodIn_app (goodIn_of _ (by decide +kernel)) ggX3_settle_X1_bring
set_option maxRecDepth 20000 in
theorem ggX3_settle_X3_conduct : GoodIn wsX3_settle wsX3_conduct := goodIn_r _ [88, 6, 7, 8, 1, 9, 11, 10, 18, 19, 20, 21, 22, 23, 24, 25, 26, 27, 28, 29, 30, 31, 32, 33, 34, 35, 36, 37, 38, 39, 40, 41, 42, 43, 44, 45, 46, 47, 48, 49, 50, 51, 52, 89, 90, 91, 63, 92, 93, 94, 95, 96, 66, 68, 65, 67, 117, 118, 119, 120, 123, 124, 125, 126, 127, 128, 129, 130, 131, 132, 133, 134, 135, 136, 137] (by decide +kernel) (by decide +kernel)
set_option maxRecDepth 20000 in
theorem gX3_settle_X3_conduct : GoodIn wsX3_settle (wsV RX3 235 RX3 yX3_conduct wsX3_conduct) := goodIn_app (goodIn_of _ (by decide +kernel)) ggX3_settle_X3_conduct
set_option maxRecDepth 20000 in
theorem ggX3_settle_X1_solve : GoodIn wsX3_settle wsX1_solve := goodIn_r _ [100, 101, 102, 103, 104, 63, 105, 65, 106, 107, 108, 109, 68, 110, 111, 112, 113, 114, 115, 116, 58, 15, 59, 133, 134, 135, 136, 137] (by decide +kernel) (by decide +kernel)
set_option maxRecDepth 20000 in
theorem gX3_settle_X1_solve : GoodIn wsX3_settle (wsV RX3 238 RX1 yX1_solve wsX1_solve) := goodIn_app (goodIn_of _ (by decide +kernel)) ggX3_settle_X1_solve
theorem dX3_settle_0 : decode cX3_settle 0 = .ok (.aload_n 0, 1) := by decide +kernel
theorem dX3_settle_1 : decode cX3_settle 1 = .ok (.iload_n 1, 1) := by decide +kernel
theorem dX3_settle_2 : decode cX3_settle 2 = .ok (.invokevirtual 135, 3) := by decide +kernel
theorem dX3_settle_5 : decode cX3_settle 5 = .ok (.aload_n 0, 1) := by decide +kernel
theorem dX3_settle_6 : decode cX3_settle 6 = .ok (.getfield 26, 3) := by decide +kernel
theorem dX3_settle_9 : decode cX3_settle 9 = .ok (.invokevirtual 222, 3) := by decide +kernel
theorem dX3_settle_12 : decode cX3_settle 12 = .ok (.iconst 0, 1) := by decide +kernel
theorem dX3_settle_13 : decode cX3_settle 13 = .ok (.istore_n 2, 1) := by decide +kernel
theorem dX3_settle_14 : decode cX3_settle 14 = .ok (.iload_n 2, 1) := by decide +kernel
theorem dX3_settle_15 : decode cX3_settle 15 = .ok (.aload_n 0, 1) := by decide +kernel
theorem dX3_settle_16 : decode cX3_settle 16 = .ok (.getfield 12, 3) := by decide +kernel
theorem dX3_settle_19 : decode cX3_settle 19 = .ok (.invokevirtual 30, 3) := by decide +kernel
theorem dX3_settle_22 : decode cX3_settle 22 = .ok (.if_icmp .ge 60, 3) := by decide +kernel
theorem dX3_settle_25 : decode cX3_settle 25 = .ok (.aload_n 0, 1) := by decide +kernel
theorem dX3_settle_26 : decode cX3_settle 26 = .ok (.getfield 12, 3) := by decide +kernel
theorem dX3_settle_29 : decode cX3_settle 29 = .ok (.iload_n 2, 1) := by decide +kernel
theorem dX3_settle_30 : decode cX3_settle 30 = .ok (.invokevirtual 57, 3) := by decide +kernel
theorem dX3_settle_33 : decode cX3_settle 33 = .ok (.checkcast 41, 3) := by decide +kernel
theorem dX3_settle_36 : decode cX3_settle 36 = .ok (.astore_n 3, 1) := by decide +kernel
theorem dX3_settle_37 : decode cX3_settle 37 = .ok (.aload_n 3, 1) := by decide +kernel
theorem dX3_settle_38 : decode cX3_settle 38 = .ok (.getfield 61, 3) := by decide +kernel
theorem dX3_settle_41 : decode cX3_settle 41 = .ok (.ifCond .eq 19, 3) := by decide +kernel
theorem dX3_settle_44 : decode cX3_settle 44 = .ok (.aload_n 0, 1) := by decide +kernel
theorem dX3_settle_45 : decode cX3_settle 45 = .ok (.getfield 26, 3) := by decide +kernel
theorem dX3_settle_48 : decode cX3_settle 48 = .ok (.iload_n 2, 1) := by decide +kernel
theorem dX3_settle_49 : decode cX3_settle 49 = .ok (.aload_n 3, 1) := by decide +kernel
theorem dX3_settle_50 : decode cX3_settle 50 = .ok (.getfield 65, 3) := by decide +kernel
theorem dX3_settle_53 : decode cX3_settle 53 = .ok (.i2l, 1) := by decide +kernel
theorem dX3_settle_54 : decode cX3_settle 54 = .ok (.invokevirtual 225, 3) := by decide +kernel
theorem dX3_settle_57 : decode cX3_settle 57 = .ok (.goto 19, 3) := by decide +kernel
theorem dX3_settle_60 : decode cX3_settle 60 = .ok (.aload_n 0, 1) := by decide +kernel
theorem dX3_settle_61 : decode cX3_settle 61 = .ok (.iload_n 2, 1) := by decide +kernel
theorem dX3_settle_62 : decode cX3_settle 62 = .ok (.invokevirtual 138, 3) := by decide +kernel
theorem dX3_settle_65 : decode cX3_settle 65 = .ok (.ifCond .ne 11, 3) := by decide +kernel
theorem dX3_settle_68 : decode cX3_settle 68 = .ok (.aload_n 0, 1) := by decide +kernel
theorem dX3_settle_69 : decode cX3_settle 69 = .ok (.getfield 26, 3) := by decide +kernel
theorem dX3_settle_72 : decode cX3_settle 72 = .ok (.iload_n 2, 1) := by decide +kernel
theorem dX3_settle_73 : decode cX3_settle 73 = .ok (.invokevirtual 229, 3) := by decide +kernel
theorem dX3_settle_76 : decode cX3_settle 76 = .ok (.iinc 2 1, 3) := by decide +kernel
theorem dX3_settle_79 : decode cX3_settle 79 = .ok (.goto (-65), 3) := by decide +kernel
theorem dX3_settle_82 : decode cX3_settle 82 = .ok (.iconst 0, 1) := by decide +kernel
theorem dX3_settle_83 : decode cX3_settle 83 = .ok (.istore_n 2, 1) := by decide +kernel
theorem dX3_settle_84 : decode cX3_settle 84 = .ok (.iload_n 2, 1) := by decide +kernel
theorem dX3_settle_85 : decode cX3_settle 85 = .ok (.aload_n 0, 1) := by decide +kernel
theorem dX3_settle_86 : decode cX3_settle 86 = .ok (.getfield 16, 3) := by decide +kernel
theorem dX3_settle_89 : decode cX3_settle 89 = .ok (.invokevirtual 30, 3) := by decide +kernel
theorem dX3_settle_92 : decode cX3_settle 92 = .ok (.if_icmp .ge 69, 3) := by decide +kernel
theorem dX3_settle_95 : decode cX3_settle 95 = .ok (.aload_n 0, 1) := by decide +kernel
theorem dX3_settle_96 : decode cX3_settle 96 = .ok (.getfield 16, 3) := by decide +kernel
theorem dX3_settle_99 : decode cX3_settle 99 = .ok (.iload_n 2, 1) := by decide +kernel
theorem dX3_settle_100 : decode cX3_settle 100 = .ok (.invokevirtual 57, 3) := by decide +kernel
theorem dX3_settle_103 : decode cX3_settle 103 = .ok (.checkcast 77, 3) := by decide +kernel
theorem dX3_settle_106 : decode cX3_settle 106 = .ok (.astore_n 3, 1) := by decide +kernel
theorem dX3_settle_107 : decode cX3_settle 107 = .ok (.aload_n 3, 1) := by decide +kernel
theorem dX3_settle_108 : decode cX3_settle 108 = .ok (.getfield 85, 3) := by decide +kernel
theorem dX3_settle_111 : decode cX3_settle 111 = .ok (.ifCond .eq 44, 3) := by decide +kernel
theorem dX3_settle_114 : decode cX3_settle 114 = .ok (.aload_n 3, 1) := by decide +kernel
theorem dX3_settle_115 : decode cX3_settle 115 = .ok (.iload_n 1, 1) := by decide +kernel
theorem dX3_settle_116 : decode cX3_settle 116 = .ok (.invokevirtual 132, 3) := by decide +kernel
theorem dX3_settle_119 : decode cX3_settle 119 = .ok (.ifCond .eq 36, 3) := by decide +kernel
theorem dX3_settle_122 : decode cX3_settle 122 = .ok (.aload_n 0, 1) := by decide +kernel
theorem dX3_settle_123 : decode cX3_settle 123 = .ok (.getfield 26, 3) := by decide +kernel
theorem dX3_settle_126 : decode cX3_settle 126 = .ok (.aload_n 3, 1) := by decide +kernel
theorem dX3_settle_127 : decode cX3_settle 127 = .ok (.getfield 159, 3) := by decide +kernel
theorem dX3_settle_130 : decode cX3_settle 130 = .ok (.aload_n 3, 1) := by decide +kernel
theorem dX3_settle_131 : decode cX3_settle 131 = .ok (.getfield 88, 3) := by decide +kernel
theorem dX3_settle_134 : decode cX3_settle 134 = .ok (.ineg, 1) := by decide +kernel
theorem dX3_settle_135 : decode cX3_settle 135 = .ok (.i2l, 1) := by decide +kernel
theorem dX3_settle_136 : decode cX3_settle 136 = .ok (.invokevirtual 232, 3) := by decide +kernel
theorem dX3_settle_139 : decode cX3_settle 139 = .ok (.aload_n 0, 1) := by decide +kernel
theorem dX3_settle_140 : decode cX3_settle 140 = .ok (.getfield 26, 3) := by decide +kernel
theorem dX3_settle_143 : decode cX3_settle 143 = .ok (.aload_n 3, 1) := by decide +kernel
theorem dX3_settle_144 : decode cX3_settle 144 = .ok (.getfield 182, 3) := by decide +kernel
theorem dX3_settle_147 : decode cX3_settle 147 = .ok (.aload_n 3, 1) := by decide +kernel
theorem dX3_settle_148 : decode cX3_settle 148 = .ok (.getfield 88, 3) := by decide +kernel
theorem dX3_settle_151 : decode cX3_settle 151 = .ok (.i2l, 1) := by decide +kernel
theorem dX3_settle_152 : decode cX3_settle 152 = .ok (.invokevirtual 232, 3) := by decide +kernel
theorem dX3_settle_155 : decode cX3_settle 155 = .ok (.iinc 2 1, 3) := by decide +kernel
theorem dX3_settle_158 : decode cX3_settle 158 = .ok (.goto (-74), 3) := by decide +kernel
theorem dX3_settle_161 : decode cX3_settle 161 = .ok (.aload_n 0, 1) := by decide +kernel
theorem dX3_settle_162 : decode cX3_settle 162 = .ok (.iload_n 1, 1) := by decide +kernel
theorem dX3_settle_163 : decode cX3_settle 163 = .ok (.invokevirtual 235, 3) := by decide +kernel
theorem dX3_settle_166 : decode cX3_settle 166 = .ok (.aload_n 0, 1) := by decide +kernel
theorem dX3_settle_167 : decode cX3_settle 167 = .ok (.getfield 26, 3) := by decide +kernel
theorem dX3_settle_170 : decode cX3_settle 170 = .ok (.invokevirtual 238, 3) := by decide +kernel
theorem dX3_settle_173 : decode cX3_settle 173 = .ok (.return_, 1) := by decide +kernel
set_option maxRecDepth 20000 in
theorem ggX3_drive_X1_clear : GoodIn wsX3_drive wsX1_clear := goodIn_r _ [8, 9, 10, 11, 12, 102, 103, 104, 105, 106] (by decide +kernel) (by decide +kernel)
set_option maxRecDepth 20000 in
theorem gX3_drive_X1_clear : GoodIn wsX3_drive (wsV RX3 222 RX1 yX1_clear wsX1_clear) := goodIn_app (goodIn_of _ (by decide +kernel)) ggX3_drive_X1_clear
set_option maxRecDepth 20000 in
theorem ggX3_drive_Jx4a65c_size_8abf5 : GoodIn wsX3_drive wsJx4a65c_size_8abf5 := goodIn_r _ [17, 18, 107, 108, 109] (by decide +kernel) (by decide +kernel)
set_option maxRecDepth 20000 in
theorem gX3_drive_Jx4a65c_size_8abf5 : GoodIn wsX3_drive (wsV RX3 30 RJx4a65c yJx4a65c_size_8abf5 wsJx4a65c_size_8abf5) := goodIn_app (goodIn_of _ (by decide +kernel)) ggX3_drive_Jx4a65c_size_8abf5
set_option maxRecDepth 20000 in
theorem ggX3_drive_X3_contains : GoodIn wsX3_drive wsX3_contains := goodIn_r _ [22] (by decide +kernel) (by decide +kernel)
set_option maxRecDepth 20000 in
theorem gX3_drive_X3_contains : GoodIn wsX3_drive (va_wsS RX3 168 yX3_contains wsX3_contains) := goodIn_app (goodIn_of _ (by decide +kernel)) ggX3_drive_X3_contains
set_option maxRecDepth 20000 in
theorem ggX3_drive_X1_seek : GoodIn wsX3_drive wsX1_seek := goodIn_r _ [26, 9, 10, 102, 103, 104, 105, 106] (by decide +kernel) (by decide +kernel)
set_option maxRecDepth 20000 in
theorem gX3_drive_X1_seek : GoodIn wsX3_drive (wsV RX3 229 RX1 yX1_seek wsX1_seek) := goodIn_app (goodIn_of _ (by decide +kernel)) ggX3_drive_X1_seek
set_option maxRecDepth 20000 in
theorem ggX3_drive_X1_bring : GoodIn wsX3_drive wsX1_bring := goodIn_r _ [30, 10, 12, 9, 102, 103, 104, 105, 106] (by decide +kernel) (by decide +kernel)
set_option maxRecDepth 20000 in
theorem gX3_drive_X1_bring : GoodIn wsX3_drive (wsV RX3 232 RX1 yX1_bring wsX1_bring) := goodIn_app (goodIn_of _ (by decide +kernel)) ggX3_drive_X1_bring
set_option maxRecDepth 20000 in
theorem ggX3_drive_X3_conduct : GoodIn wsX3_drive wsX3_conduct := goodIn_r _ [34, 35, 36, 37, 1, 38, 39, 40, 13, 14, 15, 16, 17, 18, 41, 42, 43, 44, 45, 46, 47, 48, 49, 50, 51, 52, 53, 54, 55, 56, 57, 58, 59, 60, 61, 62, 63, 64, 65, 66, 67, 68, 69, 70, 71, 72, 7, 73, 74, 75, 76, 77, 10, 12, 9, 11, 98, 99, 100, 101, 110, 111, 112, 113, 114, 115, 116, 107, 108, 109, 102, 103, 104, 105, 106] (by decide +kernel) (by decide +kernel)
set_option maxRecDepth 20000 in
theorem gX3_drive_X3_conduct : GoodIn wsX3_drive (wsV RX3 235 RX3 yX3_conduct wsX3_conduct) := goodIn_app (goodIn_of _ (by decide +kernel)) ggX3_drive_X3_conduct
set_option maxRecDepth 20000 in
theorem ggX3_drive_X1_solve : GoodIn wsX3_drive wsX1_solve := goodIn_r _ [81, 82, 83, 84, 85, 7, 86, 9, 87, 88, 89, 90, 12, 91, 92, 93, 94, 95, 96, 97, 20, 21, 22, 102, 103, 104, 105, 106] (by decide +kernel) (by decide +kernel)
set_option maxRecDepth 20000 in
theorem gX3_drive_X1_solve : GoodIn wsX3_drive (wsV RX3 238 RX1 yX1_solve wsX1_solve) := goodIn_app (goodIn_of _ (by decide +kernel)) ggX3_drive_X1_solve
theorem dX3_drive_0 : decode cX3_drive 0 = .ok (.aload_n 0, 1) := by decide +kernel
theorem dX3_drive_1 : decode cX3_drive 1 = .ok (.getfield 26, 3) := by decide +kernel
theorem dX3_drive_4 : decode cX3_drive 4 = .ok (.invokevirtual 222, 3) := by decide +kernel
theorem dX3_drive_7 : decode cX3_drive 7 = .ok (.iconst 0, 1) := by decide +kernel
theorem dX3_drive_8 : decode cX3_drive 8 = .ok (.istore 4, 2) := by decide +kernel
theorem dX3_drive_10 : decode cX3_drive 10 = .ok (.iload 4, 2) := by decide +kernel
theorem dX3_drive_12 : decode cX3_drive 12 = .ok (.aload_n 0, 1) := by decide +kernel
theorem dX3_drive_13 : decode cX3_drive 13 = .ok (.getfield 12, 3) := by decide +kernel
theorem dX3_drive_16 : decode cX3_drive 16 = .ok (.invokevirtual 30, 3) := by decide +kernel
theorem dX3_drive_19 : decode cX3_drive 19 = .ok (.if_icmp .ge 38, 3) := by decide +kernel
theorem dX3_drive_22 : decode cX3_drive 22 = .ok (.iload 4, 2) := by decide +kernel
theorem dX3_drive_24 : decode cX3_drive 24 = .ok (.iload_n 2, 1) := by decide +kernel
theorem dX3_drive_25 : decode cX3_drive 25 = .ok (.if_icmp .eq 26, 3) := by decide +kernel
theorem dX3_drive_28 : decode cX3_drive 28 = .ok (.aload_n 0, 1) := by decide +kernel
theorem dX3_drive_29 : decode cX3_drive 29 = .ok (.getfield 19, 3) := by decide +kernel
theorem dX3_drive_32 : decode cX3_drive 32 = .ok (.iload_n 2, 1) := by decide +kernel
theorem dX3_drive_33 : decode cX3_drive 33 = .ok (.iaload, 1) := by decide +kernel
theorem dX3_drive_34 : decode cX3_drive 34 = .ok (.iload 4, 2) := by decide +kernel
theorem dX3_drive_36 : decode cX3_drive 36 = .ok (.invokestatic 168, 3) := by decide +kernel
theorem dX3_drive_39 : decode cX3_drive 39 = .ok (.ifCond .eq 12, 3) := by decide +kernel
theorem dX3_drive_42 : decode cX3_drive 42 = .ok (.aload_n 0, 1) := by decide +kernel
theorem dX3_drive_43 : decode cX3_drive 43 = .ok (.getfield 26, 3) := by decide +kernel
theorem dX3_drive_46 : decode cX3_drive 46 = .ok (.iload 4, 2) := by decide +kernel
theorem dX3_drive_48 : decode cX3_drive 48 = .ok (.invokevirtual 229, 3) := by decide +kernel
theorem dX3_drive_51 : decode cX3_drive 51 = .ok (.iinc 4 1, 3) := by decide +kernel
theorem dX3_drive_54 : decode cX3_drive 54 = .ok (.goto (-44), 3) := by decide +kernel
theorem dX3_drive_57 : decode cX3_drive 57 = .ok (.aload_n 0, 1) := by decide +kernel
theorem dX3_drive_58 : decode cX3_drive 58 = .ok (.getfield 26, 3) := by decide +kernel
theorem dX3_drive_61 : decode cX3_drive 61 = .ok (.iload_n 1, 1) := by decide +kernel
theorem dX3_drive_62 : decode cX3_drive 62 = .ok (.lconst 1, 1) := by decide +kernel
theorem dX3_drive_63 : decode cX3_drive 63 = .ok (.invokevirtual 232, 3) := by decide +kernel
theorem dX3_drive_66 : decode cX3_drive 66 = .ok (.aload_n 0, 1) := by decide +kernel
theorem dX3_drive_67 : decode cX3_drive 67 = .ok (.iload_n 3, 1) := by decide +kernel
theorem dX3_drive_68 : decode cX3_drive 68 = .ok (.invokevirtual 235, 3) := by decide +kernel
theorem dX3_drive_71 : decode cX3_drive 71 = .ok (.aload_n 0, 1) := by decide +kernel
theorem dX3_drive_72 : decode cX3_drive 72 = .ok (.getfield 26, 3) := by decide +kernel
theorem dX3_drive_75 : decode cX3_drive 75 = .ok (.invokevirtual 238, 3) := by decide +kernel
theorem dX3_drive_78 : decode cX3_drive 78 = .ok (.return_, 1) := by decide +kernel
set_option maxRecDepth 20000 in
theorem ggX3_conduct_Jx4a65c_size_8abf5 : GoodIn wsX3_conduct wsJx4a65c_size_8abf5 := goodIn_r _ [12, 13, 67, 68, 69] (by decide +kernel) (by decide +kernel)
set_option maxRecDepth 20000 in
theorem gX3_conduct_Jx4a65c_size_8abf5 : GoodIn wsX3_conduct (wsV RX3 30 RJx4a65c yJx4a65c_size_8abf5 wsJx4a65c_size_8abf5) := goodIn_app (goodIn_of _ (by decide +kernel)) ggX3_conduct_Jx4a65c_size_8abf5
set_option maxRecDepth 20000 in
theorem ggX3_conduct_Jx4a65c_get_915e3 : GoodIn wsX3_conduct wsJx4a65c_get_915e3 := goodIn_r _ [17, 13, 18, 19, 20, 21, 22, 23, 24, 25, 26, 27, 28, 11, 29, 30, 67, 68, 69] (by decide +kernel) (by decide +kernel)
set_option maxRecDepth 20000 in
theorem gX3_conduct_Jx4a65c_get_915e3 : GoodIn wsX3_conduct (wsV RX3 57 RJx4a65c yJx4a65c_get_915e3 wsJx4a65c_get_915e3) := goodIn_app (goodIn_of _ (by decide +kernel)) ggX3_conduct_Jx4a65c_get_915e3
set_option maxRecDepth 20000 in
theorem ggX3_conduct_X0_runsAt : GoodIn wsX3_conduct wsX0_runsAt := goodIn_r _ [35, 36, 37, 38, 39, 34, 40, 41, 42, 60, 61, 62, 63, 64, 65, 66] (by decide +kernel) (by decide +kernel)
set_option maxRecDepth 20000 in
theorem gX3_conduct_X0_runsAt : GoodIn wsX3_conduct (wsV RX3 132 RX0 yX0_runsAt wsX0_runsAt) := goodIn_app (goodIn_of _ (by decide +kernel)) ggX3_conduct_X0_runsAt
set_option maxRecDepth 20000 in
theorem ggX3_conduct_X1_link : GoodIn wsX3_conduct wsX1_link := goodIn_r _ [47, 48, 49, 50, 46, 51, 52, 53, 54, 55, 70, 71, 72, 73, 74] (by decide +kernel) (by decide +kernel)
set_option maxRecDepth 20000 in
theorem gX3_conduct_X1_link : GoodIn wsX3_conduct (wsV RX3 241 RX1 yX1_link wsX1_link) := goodIn_app (goodIn_of _ (by decide +kernel)) ggX3_conduct_X1_link
theorem dX3_conduct_0 : decode cX3_conduct 0 = .ok (.iconst 0, 1) := by decide +kernel
theorem dX3_conduct_1 : decode cX3_conduct 1 = .ok (.istore_n 2, 1) := by decide +kernel
theorem dX3_conduct_2 : decode cX3_conduct 2 = .ok (.iload_n 2, 1) := by decide +kernel
theorem dX3_conduct_3 : decode cX3_conduct 3 = .ok (.aload_n 0, 1) := by decide +kernel
theorem dX3_conduct_4 : decode cX3_conduct 4 = .ok (.getfield 16, 3) := by decide +kernel
theorem dX3_conduct_7 : decode cX3_conduct 7 = .ok (.invokevirtual 30, 3) := by decide +kernel
theorem dX3_conduct_10 : decode cX3_conduct 10 = .ok (.if_icmp .ge 56, 3) := by decide +kernel
theorem dX3_conduct_13 : decode cX3_conduct 13 = .ok (.aload_n 0, 1) := by decide +kernel
theorem dX3_conduct_14 : decode cX3_conduct 14 = .ok (.getfield 16, 3) := by decide +kernel
theorem dX3_conduct_17 : decode cX3_conduct 17 = .ok (.iload_n 2, 1) := by decide +kernel
theorem dX3_conduct_18 : decode cX3_conduct 18 = .ok (.invokevirtual 57, 3) := by decide +kernel
theorem dX3_conduct_21 : decode cX3_conduct 21 = .ok (.checkcast 77, 3) := by decide +kernel
theorem dX3_conduct_24 : decode cX3_conduct 24 = .ok (.astore_n 3, 1) := by decide +kernel
theorem dX3_conduct_25 : decode cX3_conduct 25 = .ok (.aload_n 3, 1) := by decide +kernel
theorem dX3_conduct_26 : decode cX3_conduct 26 = .ok (.getfield 85, 3) := by decide +kernel
theorem dX3_conduct_29 : decode cX3_conduct 29 = .ok (.ifCond .ne 31, 3) := by decide +kernel
theorem dX3_conduct_32 : decode cX3_conduct 32 = .ok (.aload_n 3, 1) := by decide +kernel
theorem dX3_conduct_33 : decode cX3_conduct 33 = .ok (.iload_n 1, 1) := by decide +kernel
theorem dX3_conduct_34 : decode cX3_conduct 34 = .ok (.invokevirtual 132, 3) := by decide +kernel
theorem dX3_conduct_37 : decode cX3_conduct 37 = .ok (.ifCond .eq 23, 3) := by decide +kernel
theorem dX3_conduct_40 : decode cX3_conduct 40 = .ok (.aload_n 0, 1) := by decide +kernel
theorem dX3_conduct_41 : decode cX3_conduct 41 = .ok (.getfield 26, 3) := by decide +kernel
theorem dX3_conduct_44 : decode cX3_conduct 44 = .ok (.aload_n 3, 1) := by decide +kernel
theorem dX3_conduct_45 : decode cX3_conduct 45 = .ok (.getfield 159, 3) := by decide +kernel
theorem dX3_conduct_48 : decode cX3_conduct 48 = .ok (.aload_n 3, 1) := by decide +kernel
theorem dX3_conduct_49 : decode cX3_conduct 49 = .ok (.getfield 182, 3) := by decide +kernel
theorem dX3_conduct_52 : decode cX3_conduct 52 = .ok (.aload_n 3, 1) := by decide +kernel
theorem dX3_conduct_53 : decode cX3_conduct 53 = .ok (.getfield 88, 3) := by decide +kernel
theorem dX3_conduct_56 : decode cX3_conduct 56 = .ok (.i2l, 1) := by decide +kernel
theorem dX3_conduct_57 : decode cX3_conduct 57 = .ok (.invokevirtual 241, 3) := by decide +kernel
theorem dX3_conduct_60 : decode cX3_conduct 60 = .ok (.iinc 2 1, 3) := by decide +kernel
theorem dX3_conduct_63 : decode cX3_conduct 63 = .ok (.goto (-61), 3) := by decide +kernel
theorem dX3_conduct_66 : decode cX3_conduct 66 = .ok (.return_, 1) := by decide +kernel
set_option maxRecDepth 20000 in
theorem ggX3_flowOut_X1_lower : GoodIn wsX3_flowOut wsX1_lower := goodIn_r _ [10, 11, 12, 13, 14, 15, 9, 16, 35, 36, 37, 38, 39] (by decide +kernel) (by decide +kernel)
set_option maxRecDepth 20000 in
theorem gX3_flowOut_X1_lower : GoodIn wsX3_flowOut (wsV RX3 151 RX1 yX1_lower wsX1_lower) := goodIn_app (goodIn_of _ (by decide +kernel)) ggX3_flowOut_X1_lower
set_option maxRecDepth 20000 in
theorem ggX3_flowOut_X1_upper : GoodIn wsX3_flowOut wsX1_upper := goodIn_r _ [20, 21, 22, 11, 12, 23, 7, 8, 9, 10, 13, 14, 15, 16, 35, 36, 37, 38, 39] (by decide +kernel) (by decide +kernel)
set_option maxRecDepth 20000 in
theorem gX3_flowOut_X1_upper : GoodIn wsX3_flowOut (wsV RX3 147 RX1 yX1_upper wsX1_upper) := goodIn_app (goodIn_of _ (by decide +kernel)) ggX3_flowOut_X1_upper
theorem dX3_flowOut_0 : decode cX3_flowOut 0 = .ok (.iload_n 2, 1) := by decide +kernel
theorem dX3_flowOut_1 : decode cX3_flowOut 1 = .ok (.aload_n 1, 1) := by decide +kernel
theorem dX3_flowOut_2 : decode cX3_flowOut 2 = .ok (.getfield 159, 3) := by decide +kernel
theorem dX3_flowOut_5 : decode cX3_flowOut 5 = .ok (.if_icmp .eq 13, 3) := by decide +kernel
theorem dX3_flowOut_8 : decode cX3_flowOut 8 = .ok (.iload_n 2, 1) := by decide +kernel
theorem dX3_flowOut_9 : decode cX3_flowOut 9 = .ok (.aload_n 1, 1) := by decide +kernel
theorem dX3_flowOut_10 : decode cX3_flowOut 10 = .ok (.getfield 182, 3) := by decide +kernel
theorem dX3_flowOut_13 : decode cX3_flowOut 13 = .ok (.if_icmp .eq 5, 3) := by decide +kernel
theorem dX3_flowOut_16 : decode cX3_flowOut 16 = .ok (.lconst 0, 1) := by decide +kernel
theorem dX3_flowOut_17 : decode cX3_flowOut 17 = .ok (.lreturn, 1) := by decide +kernel
theorem dX3_flowOut_18 : decode cX3_flowOut 18 = .ok (.aload_n 1, 1) := by decide +kernel
theorem dX3_flowOut_19 : decode cX3_flowOut 19 = .ok (.getfield 85, 3) := by decide +kernel
theorem dX3_flowOut_22 : decode cX3_flowOut 22 = .ok (.ifCond .eq 19, 3) := by decide +kernel
theorem dX3_flowOut_25 : decode cX3_flowOut 25 = .ok (.aload_n 1, 1) := by decide +kernel
theorem dX3_flowOut_26 : decode cX3_flowOut 26 = .ok (.getfield 88, 3) := by decide +kernel
theorem dX3_flowOut_29 : decode cX3_flowOut 29 = .ok (.i2l, 1) := by decide +kernel
theorem dX3_flowOut_30 : decode cX3_flowOut 30 = .ok (.aload_n 0, 1) := by decide +kernel
theorem dX3_flowOut_31 : decode cX3_flowOut 31 = .ok (.getfield 26, 3) := by decide +kernel
theorem dX3_flowOut_34 : decode cX3_flowOut 34 = .ok (.invokevirtual 151, 3) := by decide +kernel
theorem dX3_flowOut_37 : decode cX3_flowOut 37 = .ok (.lmul, 1) := by decide +kernel
theorem dX3_flowOut_38 : decode cX3_flowOut 38 = .ok (.goto 32, 3) := by decide +kernel
theorem dX3_flowOut_41 : decode cX3_flowOut 41 = .ok (.aload_n 1, 1) := by decide +kernel
theorem dX3_flowOut_42 : decode cX3_flowOut 42 = .ok (.getfield 88, 3) := by decide +kernel
theorem dX3_flowOut_45 : decode cX3_flowOut 45 = .ok (.i2l, 1) := by decide +kernel
theorem dX3_flowOut_46 : decode cX3_flowOut 46 = .ok (.aload_n 0, 1) := by decide +kernel
theorem dX3_flowOut_47 : decode cX3_flowOut 47 = .ok (.getfield 26, 3) := by decide +kernel
theorem dX3_flowOut_50 : decode cX3_flowOut 50 = .ok (.aload_n 1, 1) := by decide +kernel
theorem dX3_flowOut_51 : decode cX3_flowOut 51 = .ok (.getfield 159, 3) := by decide +kernel
theorem dX3_flowOut_54 : decode cX3_flowOut 54 = .ok (.invokevirtual 147, 3) := by decide +kernel
theorem dX3_flowOut_57 : decode cX3_flowOut 57 = .ok (.aload_n 0, 1) := by decide +kernel
theorem dX3_flowOut_58 : decode cX3_flowOut 58 = .ok (.getfield 26, 3) := by decide +kernel
theorem dX3_flowOut_61 : decode cX3_flowOut 61 = .ok (.aload_n 1, 1) := by decide +kernel
theorem dX3_flowOut_62 : decode cX3_flowOut 62 = .ok (.getfield 182, 3) := by decide +kernel
theorem dX3_flowOut_65 : decode cX3_flowOut 65 = .ok (.invokevirtual 147, 3) := by decide +kernel
theorem dX3_flowOut_68 : decode cX3_flowOut 68 = .ok (.lsub, 1) := by decide +kernel
theorem dX3_flowOut_69 : decode cX3_flowOut 69 = .ok (.lmul, 1) := by decide +kernel
theorem dX3_flowOut_70 : decode cX3_flowOut 70 = .ok (.lstore_n 3, 1) := by decide +kernel
theorem dX3_flowOut_71 : decode cX3_flowOut 71 = .ok (.iload_n 2, 1) := by decide +kernel
theorem dX3_flowOut_72 : decode cX3_flowOut 72 = .ok (.aload_n 1, 1) := by decide +kernel
theorem dX3_flowOut_73 : decode cX3_flowOut 73 = .ok (.getfield 159, 3) := by decide +kernel
theorem dX3_flowOut_76 : decode cX3_flowOut 76 = .ok (.if_icmp .ne 7, 3) := by decide +kernel
theorem dX3_flowOut_79 : decode cX3_flowOut 79 = .ok (.lload_n 3, 1) := by decide +kernel
theorem dX3_flowOut_80 : decode cX3_flowOut 80 = .ok (.goto 5, 3) := by decide +kernel
theorem dX3_flowOut_83 : decode cX3_flowOut 83 = .ok (.lload_n 3, 1) := by decide +kernel
theorem dX3_flowOut_84 : decode cX3_flowOut 84 = .ok (.lneg, 1) := by decide +kernel
theorem dX3_flowOut_85 : decode cX3_flowOut 85 = .ok (.lreturn, 1) := by decide +kernel
set_option maxRecDepth 20000 in
theorem ggX3_quotientAt_X1_upper : GoodIn wsX3_quotientAt wsX1_upper := goodIn_r _ [6, 7, 8, 9, 10, 11, 12, 13, 5, 14, 15, 16, 17, 18, 35, 36, 37, 38, 39] (by decide +kernel) (by decide +kernel)
set_option maxRecDepth 20000 in
theorem gX3_quotientAt_X1_upper : GoodIn wsX3_quotientAt (wsV RX3 147 RX1 yX1_upper wsX1_upper) := goodIn_app (goodIn_of _ (by decide +kernel)) ggX3_quotientAt_X1_upper
set_option maxRecDepth 20000 in
theorem ggX3_quotientAt_X1_lower : GoodIn wsX3_quotientAt wsX1_lower := goodIn_r _ [14, 9, 10, 15, 16, 17, 5, 18, 35, 36, 37, 38, 39] (by decide +kernel) (by decide +kernel)
set_option maxRecDepth 20000 in
theorem gX3_quotientAt_X1_lower : GoodIn wsX3_quotientAt (wsV RX3 151 RX1 yX1_lower wsX1_lower) := goodIn_app (goodIn_of _ (by decide +kernel)) ggX3_quotientAt_X1_lower
set_option maxRecDepth 20000 in
theorem ggX3_quotientAt_X3_partOf : GoodIn wsX3_quotientAt wsX3_partOf := goodIn_r _ [23, 24, 25, 26, 27, 28, 29, 22, 30] (by decide +kernel) (by decide +kernel)
set_option maxRecDepth 20000 in
theorem gX3_quotientAt_X3_partOf : GoodIn wsX3_quotientAt (va_wsS RX3 155 yX3_partOf wsX3_partOf) := goodIn_app (goodIn_of _ (by decide +kernel)) ggX3_quotientAt_X3_partOf
theorem dX3_quotientAt_0 : decode cX3_quotientAt 0 = .ok (.aload_n 0, 1) := by decide +kernel
theorem dX3_quotientAt_1 : decode cX3_quotientAt 1 = .ok (.getfield 26, 3) := by decide +kernel
theorem dX3_quotientAt_4 : decode cX3_quotientAt 4 = .ok (.iload_n 1, 1) := by decide +kernel
theorem dX3_quotientAt_5 : decode cX3_quotientAt 5 = .ok (.invokevirtual 147, 3) := by decide +kernel
theorem dX3_quotientAt_8 : decode cX3_quotientAt 8 = .ok (.aload_n 0, 1) := by decide +kernel
theorem dX3_quotientAt_9 : decode cX3_quotientAt 9 = .ok (.getfield 26, 3) := by decide +kernel
theorem dX3_quotientAt_12 : decode cX3_quotientAt 12 = .ok (.invokevirtual 151, 3) := by decide +kernel
theorem dX3_quotientAt_15 : decode cX3_quotientAt 15 = .ok (.iconst 1, 1) := by decide +kernel
theorem dX3_quotientAt_16 : decode cX3_quotientAt 16 = .ok (.invokestatic 155, 3) := by decide +kernel
theorem dX3_quotientAt_19 : decode cX3_quotientAt 19 = .ok (.l2d, 1) := by decide +kernel
theorem dX3_quotientAt_20 : decode cX3_quotientAt 20 = .ok (.dstore_n 2, 1) := by decide +kernel
theorem dX3_quotientAt_21 : decode cX3_quotientAt 21 = .ok (.aload_n 0, 1) := by decide +kernel
theorem dX3_quotientAt_22 : decode cX3_quotientAt 22 = .ok (.getfield 26, 3) := by decide +kernel
theorem dX3_quotientAt_25 : decode cX3_quotientAt 25 = .ok (.iload_n 1, 1) := by decide +kernel
theorem dX3_quotientAt_26 : decode cX3_quotientAt 26 = .ok (.invokevirtual 147, 3) := by decide +kernel
theorem dX3_quotientAt_29 : decode cX3_quotientAt 29 = .ok (.aload_n 0, 1) := by decide +kernel
theorem dX3_quotientAt_30 : decode cX3_quotientAt 30 = .ok (.getfield 26, 3) := by decide +kernel
theorem dX3_quotientAt_33 : decode cX3_quotientAt 33 = .ok (.invokevirtual 151, 3) := by decide +kernel
theorem dX3_quotientAt_36 : decode cX3_quotientAt 36 = .ok (.iconst 0, 1) := by decide +kernel
theorem dX3_quotientAt_37 : decode cX3_quotientAt 37 = .ok (.invokestatic 155, 3) := by decide +kernel
theorem dX3_quotientAt_40 : decode cX3_quotientAt 40 = .ok (.l2d, 1) := by decide +kernel
theorem dX3_quotientAt_41 : decode cX3_quotientAt 41 = .ok (.dstore 4, 2) := by decide +kernel
theorem dX3_quotientAt_43 : decode cX3_quotientAt 43 = .ok (.dload 4, 2) := by decide +kernel
theorem dX3_quotientAt_45 : decode cX3_quotientAt 45 = .ok (.dconst 0, 1) := by decide +kernel
theorem dX3_quotientAt_46 : decode cX3_quotientAt 46 = .ok (.dcmp .l, 1) := by decide +kernel
theorem dX3_quotientAt_47 : decode cX3_quotientAt 47 = .ok (.ifCond .le 10, 3) := by decide +kernel
theorem dX3_quotientAt_50 : decode cX3_quotientAt 50 = .ok (.dload_n 2, 1) := by decide +kernel
theorem dX3_quotientAt_51 : decode cX3_quotientAt 51 = .ok (.dload 4, 2) := by decide +kernel
theorem dX3_quotientAt_53 : decode cX3_quotientAt 53 = .ok (.ddiv, 1) := by decide +kernel
theorem dX3_quotientAt_54 : decode cX3_quotientAt 54 = .ok (.goto 4, 3) := by decide +kernel
theorem dX3_quotientAt_57 : decode cX3_quotientAt 57 = .ok (.dconst 0, 1) := by decide +kernel
theorem dX3_quotientAt_58 : decode cX3_quotientAt 58 = .ok (.dreturn, 1) := by decide +kernel
set_option maxRecDepth 20000 in
theorem ggX3_isFirstOfLevel_X3_isAfloat : GoodIn wsX3_isFirstOfLevel wsX3_isAfloat := goodIn_r _ [6, 7, 8, 9, 10, 11, 12, 13, 14, 15, 16, 17, 18, 19, 20, 21, 22, 23, 24, 25, 26, 27, 28, 29, 30, 31, 32, 33, 34, 35, 5, 36, 54, 55, 56, 57, 58, 59, 60, 61, 62] (by decide +kernel) (by decide +kernel)
set_option maxRecDepth 20000 in
theorem gX3_isFirstOfLevel_X3_isAfloat : GoodIn wsX3_isFirstOfLevel (wsV RX3 138 RX3 yX3_isAfloat wsX3_isAfloat) := goodIn_app (goodIn_of _ (by decide +kernel)) ggX3_isFirstOfLevel_X3_isAfloat
set_option maxRecDepth 20000 in
theorem ggX3_isFirstOfLevel_X1_upper : GoodIn wsX3_isFirstOfLevel wsX1_upper := goodIn_r _ [41, 42, 43, 44, 45, 46, 47, 48, 40, 49, 50, 51, 52, 53, 63, 64, 65, 66, 67] (by decide +kernel) (by decide +kernel)
set_option maxRecDepth 20000 in
theorem gX3_isFirstOfLevel_X1_upper : GoodIn wsX3_isFirstOfLevel (wsV RX3 147 RX1 yX1_upper wsX1_upper) := goodIn_app (goodIn_of _ (by decide +kernel)) ggX3_isFirstOfLevel_X1_upper
theorem dX3_isFirstOfLevel_0 : decode cX3_isFirstOfLevel 0 = .ok (.iconst 0, 1) := by decide +kernel
theorem dX3_isFirstOfLevel_1 : decode cX3_isFirstOfLevel 1 = .ok (.istore_n 2, 1) := by decide +kernel
theorem dX3_isFirstOfLevel_2 : decode cX3_isFirstOfLevel 2 = .ok (.iload_n 2, 1) := by decide +kernel
theorem dX3_isFirstOfLevel_3 : decode cX3_isFirstOfLevel 3 = .ok (.iload_n 1, 1) := by decide +kernel
theorem dX3_isFirstOfLevel_4 : decode cX3_isFirstOfLevel 4 = .ok (.if_icmp .ge 39, 3) := by decide +kernel
theorem dX3_isFirstOfLevel_7 : decode cX3_isFirstOfLevel 7 = .ok (.aload_n 0, 1) := by decide +kernel
theorem dX3_isFirstOfLevel_8 : decode cX3_isFirstOfLevel 8 = .ok (.iload_n 2, 1) := by decide +kernel
theorem dX3_isFirstOfLevel_9 : decode cX3_isFirstOfLevel 9 = .ok (.invokevirtual 138, 3) := by decide +kernel
theorem dX3_isFirstOfLevel_12 : decode cX3_isFirstOfLevel 12 = .ok (.ifCond .ne 25, 3) := by decide +kernel
theorem dX3_isFirstOfLevel_15 : decode cX3_isFirstOfLevel 15 = .ok (.aload_n 0, 1) := by decide +kernel
theorem dX3_isFirstOfLevel_16 : decode cX3_isFirstOfLevel 16 = .ok (.getfield 26, 3) := by decide +kernel
theorem dX3_isFirstOfLevel_19 : decode cX3_isFirstOfLevel 19 = .ok (.iload_n 2, 1) := by decide +kernel
theorem dX3_isFirstOfLevel_20 : decode cX3_isFirstOfLevel 20 = .ok (.invokevirtual 147, 3) := by decide +kernel
theorem dX3_isFirstOfLevel_23 : decode cX3_isFirstOfLevel 23 = .ok (.aload_n 0, 1) := by decide +kernel
theorem dX3_isFirstOfLevel_24 : decode cX3_isFirstOfLevel 24 = .ok (.getfield 26, 3) := by decide +kernel
theorem dX3_isFirstOfLevel_27 : decode cX3_isFirstOfLevel 27 = .ok (.iload_n 1, 1) := by decide +kernel
theorem dX3_isFirstOfLevel_28 : decode cX3_isFirstOfLevel 28 = .ok (.invokevirtual 147, 3) := by decide +kernel
theorem dX3_isFirstOfLevel_31 : decode cX3_isFirstOfLevel 31 = .ok (.lcmp, 1) := by decide +kernel
theorem dX3_isFirstOfLevel_32 : decode cX3_isFirstOfLevel 32 = .ok (.ifCond .ne 5, 3) := by decide +kernel
theorem dX3_isFirstOfLevel_35 : decode cX3_isFirstOfLevel 35 = .ok (.iconst 0, 1) := by decide +kernel
theorem dX3_isFirstOfLevel_36 : decode cX3_isFirstOfLevel 36 = .ok (.ireturn, 1) := by decide +kernel
theorem dX3_isFirstOfLevel_37 : decode cX3_isFirstOfLevel 37 = .ok (.iinc 2 1, 3) := by decide +kernel
theorem dX3_isFirstOfLevel_40 : decode cX3_isFirstOfLevel 40 = .ok (.goto (-38), 3) := by decide +kernel
theorem dX3_isFirstOfLevel_43 : decode cX3_isFirstOfLevel 43 = .ok (.iconst 1, 1) := by decide +kernel
theorem dX3_isFirstOfLevel_44 : decode cX3_isFirstOfLevel 44 = .ok (.ireturn, 1) := by decide +kernel
set_option maxRecDepth 20000 in
theorem ggX3_firstToggleBehind_Jx4a65c_size_8abf5 : GoodIn wsX3_firstToggleBehind wsJx4a65c_size_8abf5 := goodIn_r _ [7, 8, 45, 46, 47] (by decide +kernel) (by decide +kernel)
set_option maxRecDepth 20000 in
theorem gX3_firstToggleBehind_Jx4a65c_size_8abf5 : GoodIn wsX3_firstToggleBehind (wsV RX3 30 RJx4a65c yJx4a65c_size_8abf5 wsJx4a65c_size_8abf5) := goodIn_app (goodIn_of _ (by decide +kernel)) ggX3_firstToggleBehind_Jx4a65c_size_8abf5
set_option maxRecDepth 20000 in
theorem ggX3_firstToggleBehind_Jx4a65c_get_915e3 : GoodIn wsX3_firstToggleBehind wsJx4a65c_get_915e3 := goodIn_r _ [12, 8, 13, 14, 15, 16, 17, 18, 19, 20, 21, 22, 23, 6, 24, 25, 45, 46, 47] (by decide +kernel) (by decide +kernel)
set_option maxRecDepth 20000 in
theorem gX3_firstToggleBehind_Jx4a65c_get_915e3 : GoodIn wsX3_firstToggleBehind (wsV RX3 57 RJx4a65c yJx4a65c_get_915e3 wsJx4a65c_get_915e3) := goodIn_app (goodIn_of _ (by decide +kernel)) ggX3_firstToggleBehind_Jx4a65c_get_915e3
set_option maxRecDepth 20000 in
theorem ggX3_firstToggleBehind_X0_toggleBehind : GoodIn wsX3_firstToggleBehind wsX0_toggleBehind := goodIn_r _ [30, 31, 32, 33, 29, 34, 35, 36, 37, 38, 39, 40, 48, 49, 50, 51, 52, 53, 54] (by decide +kernel) (by decide +kernel)
set_option maxRecDepth 20000 in
theorem gX3_firstToggleBehind_X0_toggleBehind : GoodIn wsX3_firstToggleBehind (wsV RX3 245 RX0 yX0_toggleBehind wsX0_toggleBehind) := goodIn_app (goodIn_of _ (by decide +kernel)) ggX3_firstToggleBehind_X0_toggleBehind
theorem dX3_firstToggleBehind_0 : decode cX3_firstToggleBehind 0 = .ok (.iconst (-1), 1) := by decide +kernel
theorem dX3_firstToggleBehind_1 : decode cX3_firstToggleBehind 1 = .ok (.istore_n 2, 1) := by decide +kernel
theorem dX3_firstToggleBehind_2 : decode cX3_firstToggleBehind 2 = .ok (.iconst 0, 1) := by decide +kernel
theorem dX3_firstToggleBehind_3 : decode cX3_firstToggleBehind 3 = .ok (.istore_n 3, 1) := by decide +kernel
theorem dX3_firstToggleBehind_4 : decode cX3_firstToggleBehind 4 = .ok (.iload_n 3, 1) := by decide +kernel
theorem dX3_firstToggleBehind_5 : decode cX3_firstToggleBehind 5 = .ok (.aload_n 0, 1) := by decide +kernel
theorem dX3_firstToggleBehind_6 : decode cX3_firstToggleBehind 6 = .ok (.getfield 16, 3) := by decide +kernel
theorem dX3_firstToggleBehind_9 : decode cX3_firstToggleBehind 9 = .ok (.invokevirtual 30, 3) := by decide +kernel
theorem dX3_firstToggleBehind_12 : decode cX3_firstToggleBehind 12 = .ok (.if_icmp .ge 44, 3) := by decide +kernel
theorem dX3_firstToggleBehind_15 : decode cX3_firstToggleBehind 15 = .ok (.aload_n 0, 1) := by decide +kernel
theorem dX3_firstToggleBehind_16 : decode cX3_firstToggleBehind 16 = .ok (.getfield 16, 3) := by decide +kernel
theorem dX3_firstToggleBehind_19 : decode cX3_firstToggleBehind 19 = .ok (.iload_n 3, 1) := by decide +kernel
theorem dX3_firstToggleBehind_20 : decode cX3_firstToggleBehind 20 = .ok (.invokevirtual 57, 3) := by decide +kernel
theorem dX3_firstToggleBehind_23 : decode cX3_firstToggleBehind 23 = .ok (.checkcast 77, 3) := by decide +kernel
theorem dX3_firstToggleBehind_26 : decode cX3_firstToggleBehind 26 = .ok (.iload_n 1, 1) := by decide +kernel
theorem dX3_firstToggleBehind_27 : decode cX3_firstToggleBehind 27 = .ok (.invokevirtual 245, 3) := by decide +kernel
theorem dX3_firstToggleBehind_30 : decode cX3_firstToggleBehind 30 = .ok (.istore 4, 2) := by decide +kernel
theorem dX3_firstToggleBehind_32 : decode cX3_firstToggleBehind 32 = .ok (.iload 4, 2) := by decide +kernel
theorem dX3_firstToggleBehind_34 : decode cX3_firstToggleBehind 34 = .ok (.ifCond .lt 16, 3) := by decide +kernel
theorem dX3_firstToggleBehind_37 : decode cX3_firstToggleBehind 37 = .ok (.iload_n 2, 1) := by decide +kernel
theorem dX3_firstToggleBehind_38 : decode cX3_firstToggleBehind 38 = .ok (.ifCond .lt 9, 3) := by decide +kernel
theorem dX3_firstToggleBehind_41 : decode cX3_firstToggleBehind 41 = .ok (.iload 4, 2) := by decide +kernel
theorem dX3_firstToggleBehind_43 : decode cX3_firstToggleBehind 43 = .ok (.iload_n 2, 1) := by decide +kernel
theorem dX3_firstToggleBehind_44 : decode cX3_firstToggleBehind 44 = .ok (.if_icmp .ge 6, 3) := by decide +kernel
theorem dX3_firstToggleBehind_47 : decode cX3_firstToggleBehind 47 = .ok (.iload 4, 2) := by decide +kernel
theorem dX3_firstToggleBehind_49 : decode cX3_firstToggleBehind 49 = .ok (.istore_n 2, 1) := by decide +kernel
theorem dX3_firstToggleBehind_50 : decode cX3_firstToggleBehind 50 = .ok (.iinc 3 1, 3) := by decide +kernel
theorem dX3_firstToggleBehind_53 : decode cX3_firstToggleBehind 53 = .ok (.goto (-49), 3) := by decide +kernel
theorem dX3_firstToggleBehind_56 : decode cX3_firstToggleBehind 56 = .ok (.iload_n 2, 1) := by decide +kernel
theorem dX3_firstToggleBehind_57 : decode cX3_firstToggleBehind 57 = .ok (.ireturn, 1) := by decide +kernel
set_option maxRecDepth 20000 in
theorem ggX3_countOf_Jx4a65c_size_8abf5 : GoodIn wsX3_countOf wsJx4a65c_size_8abf5 := goodIn_r _ [7, 8, 43, 44, 45] (by decide +kernel) (by decide +kernel)
set_option maxRecDepth 20000 in
theorem gX3_countOf_Jx4a65c_size_8abf5 : GoodIn wsX3_countOf (wsV RX3 30 RJx4a65c yJx4a65c_size_8abf5 wsJx4a65c_size_8abf5) := goodIn_app (goodIn_of _ (by decide +kernel)) ggX3_countOf_Jx4a65c_size_8abf5
set_option maxRecDepth 20000 in
theorem ggX3_countOf_X3_countRails : GoodIn wsX3_countOf wsX3_countRails := goodIn_r _ [13, 1, 14, 15, 3, 4, 5, 6, 7, 8, 16, 17, 18, 19, 20, 21, 22, 23, 24, 25, 26, 27, 28, 29, 30, 31, 32, 39, 40, 41, 42, 46, 47, 43, 44, 45] (by decide +kernel) (by decide +kernel)
set_option maxRecDepth 20000 in
theorem gX3_countOf_X3_countRails : GoodIn wsX3_countOf (wsV RX3 248 RX3 yX3_countRails wsX3_countRails) := goodIn_app (goodIn_of _ (by decide +kernel)) ggX3_countOf_X3_countRails
set_option maxRecDepth 20000 in
theorem ggX3_countOf_X3_countToggles : GoodIn wsX3_countOf wsX3_countToggles := goodIn_r _ [36, 2, 37, 38, 3, 4, 5, 6, 7, 8, 16, 17, 18, 19, 20, 21, 22, 23, 24, 25, 26, 27, 28, 29, 30, 31, 32, 39, 40, 41, 42, 48, 49, 50, 51, 52, 53, 54, 43, 44, 45] (by decide +kernel) (by decide +kernel)
set_option maxRecDepth 20000 in
theorem gX3_countOf_X3_countToggles : GoodIn wsX3_countOf (wsV RX3 251 RX3 yX3_countToggles wsX3_countToggles) := goodIn_app (goodIn_of _ (by decide +kernel)) ggX3_countOf_X3_countToggles
theorem dX3_countOf_0 : decode cX3_countOf 0 = .ok (.iload_n 1, 1) := by decide +kernel
theorem dX3_countOf_1 : decode cX3_countOf 1 = .ok (.tableswitch 48 0 2 #[27, 35, 43], 27) := by decide +kernel
theorem dX3_countOf_28 : decode cX3_countOf 28 = .ok (.aload_n 0, 1) := by decide +kernel
theorem dX3_countOf_29 : decode cX3_countOf 29 = .ok (.getfield 12, 3) := by decide +kernel
theorem dX3_countOf_32 : decode cX3_countOf 32 = .ok (.invokevirtual 30, 3) := by decide +kernel
theorem dX3_countOf_35 : decode cX3_countOf 35 = .ok (.ireturn, 1) := by decide +kernel
theorem dX3_countOf_36 : decode cX3_countOf 36 = .ok (.aload_n 0, 1) := by decide +kernel
theorem dX3_countOf_37 : decode cX3_countOf 37 = .ok (.getfield 16, 3) := by decide +kernel
theorem dX3_countOf_40 : decode cX3_countOf 40 = .ok (.invokevirtual 30, 3) := by decide +kernel
theorem dX3_countOf_43 : decode cX3_countOf 43 = .ok (.ireturn, 1) := by decide +kernel
theorem dX3_countOf_44 : decode cX3_countOf 44 = .ok (.aload_n 0, 1) := by decide +kernel
theorem dX3_countOf_45 : decode cX3_countOf 45 = .ok (.invokevirtual 248, 3) := by decide +kernel
theorem dX3_countOf_48 : decode cX3_countOf 48 = .ok (.ireturn, 1) := by decide +kernel
theorem dX3_countOf_49 : decode cX3_countOf 49 = .ok (.aload_n 0, 1) := by decide +kernel
theorem dX3_countOf_50 : decode cX3_countOf 50 = .ok (.invokevirtual 251, 3) := by decide +kernel
theorem dX3_countOf_53 : decode cX3_countOf 53 = .ok (.ireturn, 1) := by decide +kernel
set_option maxRecDepth 20000 in
theorem ggX3_countRails_Jx4a65c_size_8abf5 : GoodIn wsX3_countRails wsJx4a65c_size_8abf5 := goodIn_r _ [8, 9, 33, 34, 35] (by decide +kernel) (by decide +kernel)
set_option maxRecDepth 20000 in
theorem gX3_countRails_Jx4a65c_size_8abf5 : GoodIn wsX3_countRails (wsV RX3 30 RJx4a65c yJx4a65c_size_8abf5 wsJx4a65c_size_8abf5) := goodIn_app (goodIn_of _ (by decide +kernel)) ggX3_countRails_Jx4a65c_size_8abf5
set_option maxRecDepth 20000 in
theorem ggX3_countRails_Jx4a65c_get_915e3 : GoodIn wsX3_countRails wsJx4a65c_get_915e3 := goodIn_r _ [13, 9, 14, 15, 16, 17, 18, 19, 20, 21, 22, 23, 24, 7, 25, 26, 33, 34, 35] (by decide +kernel) (by decide +kernel)
set_option maxRecDepth 20000 in
theorem gX3_countRails_Jx4a65c_get_915e3 : GoodIn wsX3_countRails (wsV RX3 57 RJx4a65c yJx4a65c_get_915e3 wsJx4a65c_get_915e3) := goodIn_app (goodIn_of _ (by decide +kernel)) ggX3_countRails_Jx4a65c_get_915e3
theorem dX3_countRails_0 : decode cX3_countRails 0 = .ok (.iconst 0, 1) := by decide +kernel
theorem dX3_countRails_1 : decode cX3_countRails 1 = .ok (.istore_n 1, 1) := by decide +kernel
theorem dX3_countRails_2 : decode cX3_countRails 2 = .ok (.iconst 0, 1) := by decide +kernel
theorem dX3_countRails_3 : decode cX3_countRails 3 = .ok (.istore_n 2, 1) := by decide +kernel
theorem dX3_countRails_4 : decode cX3_countRails 4 = .ok (.iload_n 2, 1) := by decide +kernel
theorem dX3_countRails_5 : decode cX3_countRails 5 = .ok (.aload_n 0, 1) := by decide +kernel
theorem dX3_countRails_6 : decode cX3_countRails 6 = .ok (.getfield 12, 3) := by decide +kernel
theorem dX3_countRails_9 : decode cX3_countRails 9 = .ok (.invokevirtual 30, 3) := by decide +kernel
theorem dX3_countRails_12 : decode cX3_countRails 12 = .ok (.if_icmp .ge 29, 3) := by decide +kernel
theorem dX3_countRails_15 : decode cX3_countRails 15 = .ok (.aload_n 0, 1) := by decide +kernel
theorem dX3_countRails_16 : decode cX3_countRails 16 = .ok (.getfield 12, 3) := by decide +kernel
theorem dX3_countRails_19 : decode cX3_countRails 19 = .ok (.iload_n 2, 1) := by decide +kernel
theorem dX3_countRails_20 : decode cX3_countRails 20 = .ok (.invokevirtual 57, 3) := by decide +kernel
theorem dX3_countRails_23 : decode cX3_countRails 23 = .ok (.checkcast 41, 3) := by decide +kernel
theorem dX3_countRails_26 : decode cX3_countRails 26 = .ok (.getfield 61, 3) := by decide +kernel
theorem dX3_countRails_29 : decode cX3_countRails 29 = .ok (.ifCond .eq 6, 3) := by decide +kernel
theorem dX3_countRails_32 : decode cX3_countRails 32 = .ok (.iinc 1 1, 3) := by decide +kernel
theorem dX3_countRails_35 : decode cX3_countRails 35 = .ok (.iinc 2 1, 3) := by decide +kernel
theorem dX3_countRails_38 : decode cX3_countRails 38 = .ok (.goto (-34), 3) := by decide +kernel
theorem dX3_countRails_41 : decode cX3_countRails 41 = .ok (.iload_n 1, 1) := by decide +kernel
theorem dX3_countRails_42 : decode cX3_countRails 42 = .ok (.ireturn, 1) := by decide +kernel
set_option maxRecDepth 20000 in
theorem ggX3_countToggles_Jx4a65c_size_8abf5 : GoodIn wsX3_countToggles wsJx4a65c_size_8abf5 := goodIn_r _ [8, 9, 38, 39, 40] (by decide +kernel) (by decide +kernel)
set_option maxRecDepth 20000 in
theorem gX3_countToggles_Jx4a65c_size_8abf5 : GoodIn wsX3_countToggles (wsV RX3 30 RJx4a65c yJx4a65c_size_8abf5 wsJx4a65c_size_8abf5) := goodIn_app (goodIn_of _ (by decide +kernel)) ggX3_countToggles_Jx4a65c_size_8abf5
set_option maxRecDepth 20000 in
theorem ggX3_countToggles_Jx4a65c_get_915e3 : GoodIn wsX3_countToggles wsJx4a65c_get_915e3 := goodIn_r _ [13, 9, 14, 15, 16, 17, 18, 19, 20, 21, 22, 23, 24, 7, 25, 26, 38, 39, 40] (by decide +kernel) (by decide +kernel)
set_option maxRecDepth 20000 in
theorem gX3_countToggles_Jx4a65c_get_915e3 : GoodIn wsX3_countToggles (wsV RX3 57 RJx4a65c yJx4a65c_get_915e3 wsJx4a65c_get_915e3) := goodIn_app (goodIn_of _ (by decide +kernel)) ggX3_countToggles_Jx4a65c_get_915e3
theorem dX3_countToggles_0 : decode cX3_countToggles 0 = .ok (.iconst 0, 1) := by decide +kernel
theorem dX3_countToggles_1 : decode cX3_countToggles 1 = .ok (.istore_n 1, 1) := by decide +kernel
theorem dX3_countToggles_2 : decode cX3_countToggles 2 = .ok (.iconst 0, 1) := by decide +kernel
theorem dX3_countToggles_3 : decode cX3_countToggles 3 = .ok (.istore_n 2, 1) := by decide +kernel
theorem dX3_countToggles_4 : decode cX3_countToggles 4 = .ok (.iload_n 2, 1) := by decide +kernel
theorem dX3_countToggles_5 : decode cX3_countToggles 5 = .ok (.aload_n 0, 1) := by decide +kernel
theorem dX3_countToggles_6 : decode cX3_countToggles 6 = .ok (.getfield 16, 3) := by decide +kernel
theorem dX3_countToggles_9 : decode cX3_countToggles 9 = .ok (.invokevirtual 30, 3) := by decide +kernel
theorem dX3_countToggles_12 : decode cX3_countToggles 12 = .ok (.if_icmp .ge 26, 3) := by decide +kernel
theorem dX3_countToggles_15 : decode cX3_countToggles 15 = .ok (.iload_n 1, 1) := by decide +kernel
theorem dX3_countToggles_16 : decode cX3_countToggles 16 = .ok (.aload_n 0, 1) := by decide +kernel
theorem dX3_countToggles_17 : decode cX3_countToggles 17 = .ok (.getfield 16, 3) := by decide +kernel
theorem dX3_countToggles_20 : decode cX3_countToggles 20 = .ok (.iload_n 2, 1) := by decide +kernel
theorem dX3_countToggles_21 : decode cX3_countToggles 21 = .ok (.invokevirtual 57, 3) := by decide +kernel
theorem dX3_countToggles_24 : decode cX3_countToggles 24 = .ok (.checkcast 77, 3) := by decide +kernel
theorem dX3_countToggles_27 : decode cX3_countToggles 27 = .ok (.getfield 102, 3) := by decide +kernel
theorem dX3_countToggles_30 : decode cX3_countToggles 30 = .ok (.iadd, 1) := by decide +kernel
theorem dX3_countToggles_31 : decode cX3_countToggles 31 = .ok (.istore_n 1, 1) := by decide +kernel
theorem dX3_countToggles_32 : decode cX3_countToggles 32 = .ok (.iinc 2 1, 3) := by decide +kernel
theorem dX3_countToggles_35 : decode cX3_countToggles 35 = .ok (.goto (-31), 3) := by decide +kernel
theorem dX3_countToggles_38 : decode cX3_countToggles 38 = .ok (.iload_n 1, 1) := by decide +kernel
theorem dX3_countToggles_39 : decode cX3_countToggles 39 = .ok (.ireturn, 1) := by decide +kernel
set_option maxRecDepth 20000 in
theorem ggX3_digestCircuit_X3_countOf : GoodIn wsX3_digestCircuit wsX3_countOf := goodIn_r _ [10, 1, 4, 11, 12, 13, 14, 15, 16, 17, 18, 19, 9, 20, 2, 3, 21, 22, 23, 24, 25, 26, 27, 28, 29, 30, 31, 32, 33, 34, 35, 36, 37, 38, 39, 40, 41, 5, 42, 66, 67, 68, 69, 72, 73, 74, 70, 71, 75, 76, 77, 78, 79, 80, 81] (by decide +kernel) (by decide +kernel)
set_option maxRecDepth 20000 in
theorem gX3_digestCircuit_X3_countOf : GoodIn wsX3_digestCircuit (wsV RX3 115 RX3 yX3_countOf wsX3_countOf) := goodIn_app (goodIn_of _ (by decide +kernel)) ggX3_digestCircuit_X3_countOf
set_option maxRecDepth 20000 in
theorem ggX3_digestCircuit_X3_digestOf : GoodIn wsX3_digestCircuit wsX3_digestOf := goodIn_r _ [45, 46] (by decide +kernel) (by decide +kernel)
set_option maxRecDepth 20000 in
theorem gX3_digestCircuit_X3_digestOf : GoodIn wsX3_digestCircuit (va_wsS RX3 254 yX3_digestOf wsX3_digestOf) := goodIn_app (goodIn_of _ (by decide +kernel)) ggX3_digestCircuit_X3_digestOf
set_option maxRecDepth 20000 in
theorem ggX3_digestCircuit_Jx4a65c_size_8abf5 : GoodIn wsX3_digestCircuit wsJx4a65c_size_8abf5 := goodIn_r _ [15, 16, 72, 73, 74] (by decide +kernel) (by decide +kernel)
set_option maxRecDepth 20000 in
theorem gX3_digestCircuit_Jx4a65c_size_8abf5 : GoodIn wsX3_digestCircuit (wsV RX3 30 RJx4a65c yJx4a65c_size_8abf5 wsJx4a65c_size_8abf5) := goodIn_app (goodIn_of _ (by decide +kernel)) ggX3_digestCircuit_Jx4a65c_size_8abf5
set_option maxRecDepth 20000 in
theorem ggX3_digestCircuit_Jx4a65c_get_915e3 : GoodIn wsX3_digestCircuit wsJx4a65c_get_915e3 := goodIn_r _ [24, 16, 25, 26, 27, 28, 29, 30, 31, 32, 33, 34, 35, 14, 36, 37, 72, 73, 74] (by decide +kernel) (by decide +kernel)
set_option maxRecDepth 20000 in
theorem gX3_digestCircuit_Jx4a65c_get_915e3 : GoodIn wsX3_digestCircuit (wsV RX3 57 RJx4a65c yJx4a65c_get_915e3 wsJx4a65c_get_915e3) := goodIn_app (goodIn_of _ (by decide +kernel)) ggX3_digestCircuit_Jx4a65c_get_915e3
set_option maxRecDepth 20000 in
theorem ggX3_digestCircuit_X3_digestElement : GoodIn wsX3_digestCircuit wsX3_digestElement := goodIn_r _ [49, 42, 50, 51, 52, 53, 54, 55, 56, 57, 58, 59, 60, 43, 44, 9, 45, 46, 61, 62, 63, 64, 65, 75, 76, 77, 78, 79, 80, 81] (by decide +kernel) (by decide +kernel)
set_option maxRecDepth 20000 in
theorem gX3_digestCircuit_X3_digestElement : GoodIn wsX3_digestCircuit (va_wsS RX3 258 yX3_digestElement wsX3_digestElement) := goodIn_app (goodIn_of _ (by decide +kernel)) ggX3_digestCircuit_X3_digestElement
theorem dX3_digestCircuit_0 : decode cX3_digestCircuit 0 = .ok (.lload_n 1, 1) := by decide +kernel
theorem dX3_digestCircuit_1 : decode cX3_digestCircuit 1 = .ok (.lstore_n 3, 1) := by decide +kernel
theorem dX3_digestCircuit_2 : decode cX3_digestCircuit 2 = .ok (.iconst 0, 1) := by decide +kernel
theorem dX3_digestCircuit_3 : decode cX3_digestCircuit 3 = .ok (.istore 5, 2) := by decide +kernel
theorem dX3_digestCircuit_5 : decode cX3_digestCircuit 5 = .ok (.iload 5, 2) := by decide +kernel
theorem dX3_digestCircuit_7 : decode cX3_digestCircuit 7 = .ok (.iconst 4, 1) := by decide +kernel
theorem dX3_digestCircuit_8 : decode cX3_digestCircuit 8 = .ok (.if_icmp .ge 21, 3) := by decide +kernel
theorem dX3_digestCircuit_11 : decode cX3_digestCircuit 11 = .ok (.lload_n 3, 1) := by decide +kernel
theorem dX3_digestCircuit_12 : decode cX3_digestCircuit 12 = .ok (.aload_n 0, 1) := by decide +kernel
theorem dX3_digestCircuit_13 : decode cX3_digestCircuit 13 = .ok (.iload 5, 2) := by decide +kernel
theorem dX3_digestCircuit_15 : decode cX3_digestCircuit 15 = .ok (.invokevirtual 115, 3) := by decide +kernel
theorem dX3_digestCircuit_18 : decode cX3_digestCircuit 18 = .ok (.i2l, 1) := by decide +kernel
theorem dX3_digestCircuit_19 : decode cX3_digestCircuit 19 = .ok (.invokestatic 254, 3) := by decide +kernel
theorem dX3_digestCircuit_22 : decode cX3_digestCircuit 22 = .ok (.lstore_n 3, 1) := by decide +kernel
theorem dX3_digestCircuit_23 : decode cX3_digestCircuit 23 = .ok (.iinc 5 1, 3) := by decide +kernel
theorem dX3_digestCircuit_26 : decode cX3_digestCircuit 26 = .ok (.goto (-21), 3) := by decide +kernel
theorem dX3_digestCircuit_29 : decode cX3_digestCircuit 29 = .ok (.iconst 0, 1) := by decide +kernel
theorem dX3_digestCircuit_30 : decode cX3_digestCircuit 30 = .ok (.istore 5, 2) := by decide +kernel
theorem dX3_digestCircuit_32 : decode cX3_digestCircuit 32 = .ok (.iload 5, 2) := by decide +kernel
theorem dX3_digestCircuit_34 : decode cX3_digestCircuit 34 = .ok (.aload_n 0, 1) := by decide +kernel
theorem dX3_digestCircuit_35 : decode cX3_digestCircuit 35 = .ok (.getfield 12, 3) := by decide +kernel
theorem dX3_digestCircuit_38 : decode cX3_digestCircuit 38 = .ok (.invokevirtual 30, 3) := by decide +kernel
theorem dX3_digestCircuit_41 : decode cX3_digestCircuit 41 = .ok (.if_icmp .ge 37, 3) := by decide +kernel
theorem dX3_digestCircuit_44 : decode cX3_digestCircuit 44 = .ok (.lload_n 3, 1) := by decide +kernel
theorem dX3_digestCircuit_45 : decode cX3_digestCircuit 45 = .ok (.aload_n 0, 1) := by decide +kernel
theorem dX3_digestCircuit_46 : decode cX3_digestCircuit 46 = .ok (.getfield 12, 3) := by decide +kernel
theorem dX3_digestCircuit_49 : decode cX3_digestCircuit 49 = .ok (.iload 5, 2) := by decide +kernel
theorem dX3_digestCircuit_51 : decode cX3_digestCircuit 51 = .ok (.invokevirtual 57, 3) := by decide +kernel
theorem dX3_digestCircuit_54 : decode cX3_digestCircuit 54 = .ok (.checkcast 41, 3) := by decide +kernel
theorem dX3_digestCircuit_57 : decode cX3_digestCircuit 57 = .ok (.getfield 61, 3) := by decide +kernel
theorem dX3_digestCircuit_60 : decode cX3_digestCircuit 60 = .ok (.ifCond .eq 7, 3) := by decide +kernel
theorem dX3_digestCircuit_63 : decode cX3_digestCircuit 63 = .ok (.lconst 1, 1) := by decide +kernel
theorem dX3_digestCircuit_64 : decode cX3_digestCircuit 64 = .ok (.goto 4, 3) := by decide +kernel
theorem dX3_digestCircuit_67 : decode cX3_digestCircuit 67 = .ok (.lconst 0, 1) := by decide +kernel
theorem dX3_digestCircuit_68 : decode cX3_digestCircuit 68 = .ok (.invokestatic 254, 3) := by decide +kernel
theorem dX3_digestCircuit_71 : decode cX3_digestCircuit 71 = .ok (.lstore_n 3, 1) := by decide +kernel
theorem dX3_digestCircuit_72 : decode cX3_digestCircuit 72 = .ok (.iinc 5 1, 3) := by decide +kernel
theorem dX3_digestCircuit_75 : decode cX3_digestCircuit 75 = .ok (.goto (-43), 3) := by decide +kernel
theorem dX3_digestCircuit_78 : decode cX3_digestCircuit 78 = .ok (.iconst 0, 1) := by decide +kernel
theorem dX3_digestCircuit_79 : decode cX3_digestCircuit 79 = .ok (.istore 5, 2) := by decide +kernel
theorem dX3_digestCircuit_81 : decode cX3_digestCircuit 81 = .ok (.iload 5, 2) := by decide +kernel
theorem dX3_digestCircuit_83 : decode cX3_digestCircuit 83 = .ok (.aload_n 0, 1) := by decide +kernel
theorem dX3_digestCircuit_84 : decode cX3_digestCircuit 84 = .ok (.getfield 16, 3) := by decide +kernel
theorem dX3_digestCircuit_87 : decode cX3_digestCircuit 87 = .ok (.invokevirtual 30, 3) := by decide +kernel
theorem dX3_digestCircuit_90 : decode cX3_digestCircuit 90 = .ok (.if_icmp .ge 26, 3) := by decide +kernel
theorem dX3_digestCircuit_93 : decode cX3_digestCircuit 93 = .ok (.lload_n 3, 1) := by decide +kernel
theorem dX3_digestCircuit_94 : decode cX3_digestCircuit 94 = .ok (.aload_n 0, 1) := by decide +kernel
theorem dX3_digestCircuit_95 : decode cX3_digestCircuit 95 = .ok (.getfield 16, 3) := by decide +kernel
theorem dX3_digestCircuit_98 : decode cX3_digestCircuit 98 = .ok (.iload 5, 2) := by decide +kernel
theorem dX3_digestCircuit_100 : decode cX3_digestCircuit 100 = .ok (.invokevirtual 57, 3) := by decide +kernel
theorem dX3_digestCircuit_103 : decode cX3_digestCircuit 103 = .ok (.checkcast 77, 3) := by decide +kernel
theorem dX3_digestCircuit_106 : decode cX3_digestCircuit 106 = .ok (.invokestatic 258, 3) := by decide +kernel
theorem dX3_digestCircuit_109 : decode cX3_digestCircuit 109 = .ok (.lstore_n 3, 1) := by decide +kernel
theorem dX3_digestCircuit_110 : decode cX3_digestCircuit 110 = .ok (.iinc 5 1, 3) := by decide +kernel
theorem dX3_digestCircuit_113 : decode cX3_digestCircuit 113 = .ok (.goto (-32), 3) := by decide +kernel
theorem dX3_digestCircuit_116 : decode cX3_digestCircuit 116 = .ok (.lload_n 3, 1) := by decide +kernel
theorem dX3_digestCircuit_117 : decode cX3_digestCircuit 117 = .ok (.lreturn, 1) := by decide +kernel
set_option maxRecDepth 20000 in
theorem ggX3_digestElement_X0_trait : GoodIn wsX3_digestElement wsX0_trait := goodIn_r _ [6, 7, 8, 9, 10, 11, 12, 23, 24, 25, 26, 27, 28, 29] (by decide +kernel) (by decide +kernel)
set_option maxRecDepth 20000 in
theorem gX3_digestElement_X0_trait : GoodIn wsX3_digestElement (wsV RX3 121 RX0 yX0_trait wsX0_trait) := goodIn_app (goodIn_of _ (by decide +kernel)) ggX3_digestElement_X0_trait
set_option maxRecDepth 20000 in
theorem ggX3_digestElement_X3_digestOf : GoodIn wsX3_digestElement wsX3_digestOf := goodIn_r _ [16, 17] (by decide +kernel) (by decide +kernel)
set_option maxRecDepth 20000 in
theorem gX3_digestElement_X3_digestOf : GoodIn wsX3_digestElement (va_wsS RX3 254 yX3_digestOf wsX3_digestOf) := goodIn_app (goodIn_of _ (by decide +kernel)) ggX3_digestElement_X3_digestOf
set_option maxRecDepth 20000 in
theorem ggX3_digestElement_X0_toggleTime : GoodIn wsX3_digestElement wsX0_toggleTime := goodIn_r _ [21, 12, 22, 23, 24, 25, 26, 27, 28, 29] (by decide +kernel) (by decide +kernel)
set_option maxRecDepth 20000 in
theorem gX3_digestElement_X0_toggleTime : GoodIn wsX3_digestElement (wsV RX3 126 RX0 yX0_toggleTime wsX0_toggleTime) := goodIn_app (goodIn_of _ (by decide +kernel)) ggX3_digestElement_X0_toggleTime
theorem dX3_digestElement_0 : decode cX3_digestElement 0 = .ok (.lload_n 0, 1) := by decide +kernel
theorem dX3_digestElement_1 : decode cX3_digestElement 1 = .ok (.lstore_n 3, 1) := by decide +kernel
theorem dX3_digestElement_2 : decode cX3_digestElement 2 = .ok (.iconst 0, 1) := by decide +kernel
theorem dX3_digestElement_3 : decode cX3_digestElement 3 = .ok (.istore 5, 2) := by decide +kernel
theorem dX3_digestElement_5 : decode cX3_digestElement 5 = .ok (.iload 5, 2) := by decide +kernel
theorem dX3_digestElement_7 : decode cX3_digestElement 7 = .ok (.bipush 6, 2) := by decide +kernel
theorem dX3_digestElement_9 : decode cX3_digestElement 9 = .ok (.if_icmp .ge 21, 3) := by decide +kernel
theorem dX3_digestElement_12 : decode cX3_digestElement 12 = .ok (.lload_n 3, 1) := by decide +kernel
theorem dX3_digestElement_13 : decode cX3_digestElement 13 = .ok (.aload_n 2, 1) := by decide +kernel
theorem dX3_digestElement_14 : decode cX3_digestElement 14 = .ok (.iload 5, 2) := by decide +kernel
theorem dX3_digestElement_16 : decode cX3_digestElement 16 = .ok (.invokevirtual 121, 3) := by decide +kernel
theorem dX3_digestElement_19 : decode cX3_digestElement 19 = .ok (.i2l, 1) := by decide +kernel
theorem dX3_digestElement_20 : decode cX3_digestElement 20 = .ok (.invokestatic 254, 3) := by decide +kernel
theorem dX3_digestElement_23 : decode cX3_digestElement 23 = .ok (.lstore_n 3, 1) := by decide +kernel
theorem dX3_digestElement_24 : decode cX3_digestElement 24 = .ok (.iinc 5 1, 3) := by decide +kernel
theorem dX3_digestElement_27 : decode cX3_digestElement 27 = .ok (.goto (-22), 3) := by decide +kernel
theorem dX3_digestElement_30 : decode cX3_digestElement 30 = .ok (.iconst 0, 1) := by decide +kernel
theorem dX3_digestElement_31 : decode cX3_digestElement 31 = .ok (.istore 5, 2) := by decide +kernel
theorem dX3_digestElement_33 : decode cX3_digestElement 33 = .ok (.iload 5, 2) := by decide +kernel
theorem dX3_digestElement_35 : decode cX3_digestElement 35 = .ok (.aload_n 2, 1) := by decide +kernel
theorem dX3_digestElement_36 : decode cX3_digestElement 36 = .ok (.getfield 102, 3) := by decide +kernel
theorem dX3_digestElement_39 : decode cX3_digestElement 39 = .ok (.if_icmp .ge 21, 3) := by decide +kernel
theorem dX3_digestElement_42 : decode cX3_digestElement 42 = .ok (.lload_n 3, 1) := by decide +kernel
theorem dX3_digestElement_43 : decode cX3_digestElement 43 = .ok (.aload_n 2, 1) := by decide +kernel
theorem dX3_digestElement_44 : decode cX3_digestElement 44 = .ok (.iload 5, 2) := by decide +kernel
theorem dX3_digestElement_46 : decode cX3_digestElement 46 = .ok (.invokevirtual 126, 3) := by decide +kernel
theorem dX3_digestElement_49 : decode cX3_digestElement 49 = .ok (.i2l, 1) := by decide +kernel
theorem dX3_digestElement_50 : decode cX3_digestElement 50 = .ok (.invokestatic 254, 3) := by decide +kernel
theorem dX3_digestElement_53 : decode cX3_digestElement 53 = .ok (.lstore_n 3, 1) := by decide +kernel
theorem dX3_digestElement_54 : decode cX3_digestElement 54 = .ok (.iinc 5 1, 3) := by decide +kernel
theorem dX3_digestElement_57 : decode cX3_digestElement 57 = .ok (.goto (-24), 3) := by decide +kernel
theorem dX3_digestElement_60 : decode cX3_digestElement 60 = .ok (.lload_n 3, 1) := by decide +kernel
theorem dX3_digestElement_61 : decode cX3_digestElement 61 = .ok (.lreturn, 1) := by decide +kernel
set_option maxRecDepth 20000 in
theorem ggX3_digestPotentials_X3_settle : GoodIn wsX3_digestPotentials wsX3_settle := goodIn_r _ [8, 3, 1, 9, 10, 11, 12, 13, 14, 15, 16, 17, 18, 19, 20, 7, 21, 22, 23, 24, 25, 26, 27, 28, 29, 30, 31, 32, 33, 34, 35, 36, 37, 38, 39, 40, 41, 42, 43, 44, 45, 46, 47, 48, 49, 50, 51, 52, 53, 54, 55, 56, 57, 58, 59, 60, 61, 62, 63, 64, 65, 66, 67, 68, 69, 70, 71, 72, 73, 74, 75, 76, 77, 78, 79, 80, 81, 82, 83, 84, 85, 86, 87, 88, 89, 90, 91, 92, 93, 94, 95, 96, 97, 98, 99, 100, 101, 102, 103, 104, 105, 106, 107, 108, 109, 110, 111, 112, 113, 114, 115, 116, 117, 118, 119, 120, 121, 145, 146, 147, 148, 149, 150, 151, 152, 153, 154, 155, 156, 157, 158, 159, 160, 161, 162, 163, 164, 165] (by decide +kernel) (by decide +kernel)
set_option maxRecDepth 20000 in
theorem gX3_digestPotentials_X3_settle : GoodIn wsX3_digestPotentials (wsV RX3 141 RX3 yX3_settle wsX3_settle) := goodIn_app (goodIn_of _ (by decide +kernel)) ggX3_digestPotentials_X3_settle
set_option maxRecDepth 20000 in
theorem ggX3_digestPotentials_Jx4a65c_size_8abf5 : GoodIn wsX3_digestPotentials wsJx4a65c_size_8abf5 := goodIn_r _ [27, 28, 158, 159, 160] (by decide +kernel) (by decide +kernel)
set_option maxRecDepth 20000 in
theorem gX3_digestPotentials_Jx4a65c_size_8abf5 : GoodIn wsX3_digestPotentials (wsV RX3 30 RJx4a65c yJx4a65c_size_8abf5 wsJx4a65c_size_8abf5) := goodIn_app (goodIn_of _ (by decide +kernel)) ggX3_digestPotentials_Jx4a65c_size_8abf5
set_option maxRecDepth 20000 in
theorem ggX3_digestPotentials_X3_isAfloat : GoodIn wsX3_digestPotentials wsX3_isAfloat := goodIn_r _ [81, 1, 9, 10, 22, 23, 24, 25, 26, 27, 28, 29, 30, 31, 32, 33, 34, 35, 36, 37, 38, 39, 40, 41, 42, 43, 44, 45, 62, 63, 7, 64, 145, 146, 147, 148, 149, 150, 158, 159, 160] (by decide +kernel) (by decide +kernel)
set_option maxRecDepth 20000 in
theorem gX3_digestPotentials_X3_isAfloat : GoodIn wsX3_digestPotentials (wsV RX3 138 RX3 yX3_isAfloat wsX3_isAfloat) := goodIn_app (goodIn_of _ (by decide +kernel)) ggX3_digestPotentials_X3_isAfloat
set_option maxRecDepth 20000 in
theorem ggX3_digestPotentials_X3_digestOf : GoodIn wsX3_digestPotentials wsX3_digestOf := goodIn_r _ [124, 125] (by decide +kernel) (by decide +kernel)
set_option maxRecDepth 20000 in
theorem gX3_digestPotentials_X3_digestOf : GoodIn wsX3_digestPotentials (va_wsS RX3 254 yX3_digestOf wsX3_digestOf) := goodIn_app (goodIn_of _ (by decide +kernel)) ggX3_digestPotentials_X3_digestOf
set_option maxRecDepth 20000 in
theorem ggX3_digestPotentials_X1_upper : GoodIn wsX3_digestPotentials wsX1_upper := goodIn_r _ [129, 71, 72, 106, 70, 130, 131, 132, 68, 133, 107, 108, 109, 110, 161, 162, 163, 164, 165] (by decide +kernel) (by decide +kernel)
set_option maxRecDepth 20000 in
theorem gX3_digestPotentials_X1_upper : GoodIn wsX3_digestPotentials (wsV RX3 147 RX1 yX1_upper wsX1_upper) := goodIn_app (goodIn_of _ (by decide +kernel)) ggX3_digestPotentials_X1_upper
set_option maxRecDepth 20000 in
theorem ggX3_digestPotentials_X1_lower : GoodIn wsX3_digestPotentials wsX1_lower := goodIn_r _ [133, 106, 70, 107, 108, 109, 68, 110, 161, 162, 163, 164, 165] (by decide +kernel) (by decide +kernel)
set_option maxRecDepth 20000 in
theorem gX3_digestPotentials_X1_lower : GoodIn wsX3_digestPotentials (wsV RX3 151 RX1 yX1_lower wsX1_lower) := goodIn_app (goodIn_of _ (by decide +kernel)) ggX3_digestPotentials_X1_lower
set_option maxRecDepth 20000 in
theorem ggX3_digestPotentials_X3_partOf : GoodIn wsX3_digestPotentials wsX3_partOf := goodIn_r _ [137, 138, 139, 140, 141, 142, 143, 7, 144] (by decide +kernel) (by decide +kernel)
set_option maxRecDepth 20000 in
theorem gX3_digestPotentials_X3_partOf : GoodIn wsX3_digestPotentials (va_wsS RX3 155 yX3_partOf wsX3_partOf) := goodIn_app (goodIn_of _ (by decide +kernel)) ggX3_digestPotentials_X3_partOf
theorem dX3_digestPotentials_0 : decode cX3_digestPotentials 0 = .ok (.aload_n 0, 1) := by decide +kernel
theorem dX3_digestPotentials_1 : decode cX3_digestPotentials 1 = .ok (.iload_n 3, 1) := by decide +kernel
theorem dX3_digestPotentials_2 : decode cX3_digestPotentials 2 = .ok (.invokevirtual 141, 3) := by decide +kernel
theorem dX3_digestPotentials_5 : decode cX3_digestPotentials 5 = .ok (.lload_n 1, 1) := by decide +kernel
theorem dX3_digestPotentials_6 : decode cX3_digestPotentials 6 = .ok (.lstore 4, 2) := by decide +kernel
theorem dX3_digestPotentials_8 : decode cX3_digestPotentials 8 = .ok (.iconst 0, 1) := by decide +kernel
theorem dX3_digestPotentials_9 : decode cX3_digestPotentials 9 = .ok (.istore 6, 2) := by decide +kernel
theorem dX3_digestPotentials_11 : decode cX3_digestPotentials 11 = .ok (.iload 6, 2) := by decide +kernel
theorem dX3_digestPotentials_13 : decode cX3_digestPotentials 13 = .ok (.aload_n 0, 1) := by decide +kernel
theorem dX3_digestPotentials_14 : decode cX3_digestPotentials 14 = .ok (.getfield 12, 3) := by decide +kernel
theorem dX3_digestPotentials_17 : decode cX3_digestPotentials 17 = .ok (.invokevirtual 30, 3) := by decide +kernel
theorem dX3_digestPotentials_20 : decode cX3_digestPotentials 20 = .ok (.if_icmp .ge 85, 3) := by decide +kernel
theorem dX3_digestPotentials_23 : decode cX3_digestPotentials 23 = .ok (.aload_n 0, 1) := by decide +kernel
theorem dX3_digestPotentials_24 : decode cX3_digestPotentials 24 = .ok (.iload 6, 2) := by decide +kernel
theorem dX3_digestPotentials_26 : decode cX3_digestPotentials 26 = .ok (.invokevirtual 138, 3) := by decide +kernel
theorem dX3_digestPotentials_29 : decode cX3_digestPotentials 29 = .ok (.ifCond .eq 16, 3) := by decide +kernel
theorem dX3_digestPotentials_32 : decode cX3_digestPotentials 32 = .ok (.lload 4, 2) := by decide +kernel
theorem dX3_digestPotentials_34 : decode cX3_digestPotentials 34 = .ok (.ldc2_w 262, 3) := by decide +kernel
theorem dX3_digestPotentials_37 : decode cX3_digestPotentials 37 = .ok (.invokestatic 254, 3) := by decide +kernel
theorem dX3_digestPotentials_40 : decode cX3_digestPotentials 40 = .ok (.lstore 4, 2) := by decide +kernel
theorem dX3_digestPotentials_42 : decode cX3_digestPotentials 42 = .ok (.goto 57, 3) := by decide +kernel
theorem dX3_digestPotentials_45 : decode cX3_digestPotentials 45 = .ok (.lload 4, 2) := by decide +kernel
theorem dX3_digestPotentials_47 : decode cX3_digestPotentials 47 = .ok (.aload_n 0, 1) := by decide +kernel
theorem dX3_digestPotentials_48 : decode cX3_digestPotentials 48 = .ok (.getfield 26, 3) := by decide +kernel
theorem dX3_digestPotentials_51 : decode cX3_digestPotentials 51 = .ok (.iload 6, 2) := by decide +kernel
theorem dX3_digestPotentials_53 : decode cX3_digestPotentials 53 = .ok (.invokevirtual 147, 3) := by decide +kernel
theorem dX3_digestPotentials_56 : decode cX3_digestPotentials 56 = .ok (.aload_n 0, 1) := by decide +kernel
theorem dX3_digestPotentials_57 : decode cX3_digestPotentials 57 = .ok (.getfield 26, 3) := by decide +kernel
theorem dX3_digestPotentials_60 : decode cX3_digestPotentials 60 = .ok (.invokevirtual 151, 3) := by decide +kernel
theorem dX3_digestPotentials_63 : decode cX3_digestPotentials 63 = .ok (.iconst 1, 1) := by decide +kernel
theorem dX3_digestPotentials_64 : decode cX3_digestPotentials 64 = .ok (.invokestatic 155, 3) := by decide +kernel
theorem dX3_digestPotentials_67 : decode cX3_digestPotentials 67 = .ok (.invokestatic 254, 3) := by decide +kernel
theorem dX3_digestPotentials_70 : decode cX3_digestPotentials 70 = .ok (.lstore 4, 2) := by decide +kernel
theorem dX3_digestPotentials_72 : decode cX3_digestPotentials 72 = .ok (.lload 4, 2) := by decide +kernel
theorem dX3_digestPotentials_74 : decode cX3_digestPotentials 74 = .ok (.aload_n 0, 1) := by decide +kernel
theorem dX3_digestPotentials_75 : decode cX3_digestPotentials 75 = .ok (.getfield 26, 3) := by decide +kernel
theorem dX3_digestPotentials_78 : decode cX3_digestPotentials 78 = .ok (.iload 6, 2) := by decide +kernel
theorem dX3_digestPotentials_80 : decode cX3_digestPotentials 80 = .ok (.invokevirtual 147, 3) := by decide +kernel
theorem dX3_digestPotentials_83 : decode cX3_digestPotentials 83 = .ok (.aload_n 0, 1) := by decide +kernel
theorem dX3_digestPotentials_84 : decode cX3_digestPotentials 84 = .ok (.getfield 26, 3) := by decide +kernel
theorem dX3_digestPotentials_87 : decode cX3_digestPotentials 87 = .ok (.invokevirtual 151, 3) := by decide +kernel
theorem dX3_digestPotentials_90 : decode cX3_digestPotentials 90 = .ok (.iconst 0, 1) := by decide +kernel
theorem dX3_digestPotentials_91 : decode cX3_digestPotentials 91 = .ok (.invokestatic 155, 3) := by decide +kernel
theorem dX3_digestPotentials_94 : decode cX3_digestPotentials 94 = .ok (.invokestatic 254, 3) := by decide +kernel
theorem dX3_digestPotentials_97 : decode cX3_digestPotentials 97 = .ok (.lstore 4, 2) := by decide +kernel
theorem dX3_digestPotentials_99 : decode cX3_digestPotentials 99 = .ok (.iinc 6 1, 3) := by decide +kernel
theorem dX3_digestPotentials_102 : decode cX3_digestPotentials 102 = .ok (.goto (-91), 3) := by decide +kernel
theorem dX3_digestPotentials_105 : decode cX3_digestPotentials 105 = .ok (.lload 4, 2) := by decide +kernel
theorem dX3_digestPotentials_107 : decode cX3_digestPotentials 107 = .ok (.lreturn, 1) := by decide +kernel
theorem dX3_digestOf_0 : decode cX3_digestOf 0 = .ok (.lload_n 0, 1) := by decide +kernel
theorem dX3_digestOf_1 : decode cX3_digestOf 1 = .ok (.ldc2_w 264, 3) := by decide +kernel
theorem dX3_digestOf_4 : decode cX3_digestOf 4 = .ok (.lmul, 1) := by decide +kernel
theorem dX3_digestOf_5 : decode cX3_digestOf 5 = .ok (.lload_n 2, 1) := by decide +kernel
theorem dX3_digestOf_6 : decode cX3_digestOf 6 = .ok (.ladd, 1) := by decide +kernel
theorem dX3_digestOf_7 : decode cX3_digestOf 7 = .ok (.lreturn, 1) := by decide +kernel
set_option maxRecDepth 20000 in
theorem ggX3_partOf_X3_commonDivisor : GoodIn wsX3_partOf wsX3_commonDivisor := goodIn_r _ [8] (by decide +kernel) (by decide +kernel)
set_option maxRecDepth 20000 in
theorem gX3_partOf_X3_commonDivisor : GoodIn wsX3_partOf (va_wsS RX3 271 yX3_commonDivisor wsX3_commonDivisor) := goodIn_app (goodIn_of _ (by decide +kernel)) ggX3_partOf_X3_commonDivisor
theorem dX3_partOf_0 : decode cX3_partOf 0 = .ok (.iload 4, 2) := by decide +kernel
theorem dX3_partOf_2 : decode cX3_partOf 2 = .ok (.ifCond .eq 7, 3) := by decide +kernel
theorem dX3_partOf_5 : decode cX3_partOf 5 = .ok (.lload_n 0, 1) := by decide +kernel
theorem dX3_partOf_6 : decode cX3_partOf 6 = .ok (.goto 4, 3) := by decide +kernel
theorem dX3_partOf_9 : decode cX3_partOf 9 = .ok (.lload_n 2, 1) := by decide +kernel
theorem dX3_partOf_10 : decode cX3_partOf 10 = .ok (.lstore 5, 2) := by decide +kernel
theorem dX3_partOf_12 : decode cX3_partOf 12 = .ok (.lload_n 0, 1) := by decide +kernel
theorem dX3_partOf_13 : decode cX3_partOf 13 = .ok (.invokestatic 266, 3) := by decide +kernel
theorem dX3_partOf_16 : decode cX3_partOf 16 = .ok (.lload_n 2, 1) := by decide +kernel
theorem dX3_partOf_17 : decode cX3_partOf 17 = .ok (.invokestatic 271, 3) := by decide +kernel
theorem dX3_partOf_20 : decode cX3_partOf 20 = .ok (.lstore 7, 2) := by decide +kernel
theorem dX3_partOf_22 : decode cX3_partOf 22 = .ok (.lload 7, 2) := by decide +kernel
theorem dX3_partOf_24 : decode cX3_partOf 24 = .ok (.lconst 1, 1) := by decide +kernel
theorem dX3_partOf_25 : decode cX3_partOf 25 = .ok (.lcmp, 1) := by decide +kernel
theorem dX3_partOf_26 : decode cX3_partOf 26 = .ok (.ifCond .le 11, 3) := by decide +kernel
theorem dX3_partOf_29 : decode cX3_partOf 29 = .ok (.lload 5, 2) := by decide +kernel
theorem dX3_partOf_31 : decode cX3_partOf 31 = .ok (.lload 7, 2) := by decide +kernel
theorem dX3_partOf_33 : decode cX3_partOf 33 = .ok (.ldiv, 1) := by decide +kernel
theorem dX3_partOf_34 : decode cX3_partOf 34 = .ok (.goto 5, 3) := by decide +kernel
theorem dX3_partOf_37 : decode cX3_partOf 37 = .ok (.lload 5, 2) := by decide +kernel
theorem dX3_partOf_39 : decode cX3_partOf 39 = .ok (.lreturn, 1) := by decide +kernel
theorem dX3_commonDivisor_0 : decode cX3_commonDivisor 0 = .ok (.lload_n 0, 1) := by decide +kernel
theorem dX3_commonDivisor_1 : decode cX3_commonDivisor 1 = .ok (.lstore 4, 2) := by decide +kernel
theorem dX3_commonDivisor_3 : decode cX3_commonDivisor 3 = .ok (.lload_n 2, 1) := by decide +kernel
theorem dX3_commonDivisor_4 : decode cX3_commonDivisor 4 = .ok (.lstore 6, 2) := by decide +kernel
theorem dX3_commonDivisor_6 : decode cX3_commonDivisor 6 = .ok (.iconst 0, 1) := by decide +kernel
theorem dX3_commonDivisor_7 : decode cX3_commonDivisor 7 = .ok (.istore 8, 2) := by decide +kernel
theorem dX3_commonDivisor_9 : decode cX3_commonDivisor 9 = .ok (.iload 8, 2) := by decide +kernel
theorem dX3_commonDivisor_11 : decode cX3_commonDivisor 11 = .ok (.sipush 200, 3) := by decide +kernel
theorem dX3_commonDivisor_14 : decode cX3_commonDivisor 14 = .ok (.if_icmp .ge 31, 3) := by decide +kernel
theorem dX3_commonDivisor_17 : decode cX3_commonDivisor 17 = .ok (.lload 6, 2) := by decide +kernel
theorem dX3_commonDivisor_19 : decode cX3_commonDivisor 19 = .ok (.lconst 0, 1) := by decide +kernel
theorem dX3_commonDivisor_20 : decode cX3_commonDivisor 20 = .ok (.lcmp, 1) := by decide +kernel
theorem dX3_commonDivisor_21 : decode cX3_commonDivisor 21 = .ok (.ifCond .eq 24, 3) := by decide +kernel
theorem dX3_commonDivisor_24 : decode cX3_commonDivisor 24 = .ok (.lload 4, 2) := by decide +kernel
theorem dX3_commonDivisor_26 : decode cX3_commonDivisor 26 = .ok (.lload 6, 2) := by decide +kernel
theorem dX3_commonDivisor_28 : decode cX3_commonDivisor 28 = .ok (.lrem, 1) := by decide +kernel
theorem dX3_commonDivisor_29 : decode cX3_commonDivisor 29 = .ok (.lstore 9, 2) := by decide +kernel
theorem dX3_commonDivisor_31 : decode cX3_commonDivisor 31 = .ok (.lload 6, 2) := by decide +kernel
theorem dX3_commonDivisor_33 : decode cX3_commonDivisor 33 = .ok (.lstore 4, 2) := by decide +kernel
theorem dX3_commonDivisor_35 : decode cX3_commonDivisor 35 = .ok (.lload 9, 2) := by decide +kernel
theorem dX3_commonDivisor_37 : decode cX3_commonDivisor 37 = .ok (.lstore 6, 2) := by decide +kernel
theorem dX3_commonDivisor_39 : decode cX3_commonDivisor 39 = .ok (.iinc 8 1, 3) := by decide +kernel
theorem dX3_commonDivisor_42 : decode cX3_commonDivisor 42 = .ok (.goto (-33), 3) := by decide +kernel
theorem dX3_commonDivisor_45 : decode cX3_commonDivisor 45 = .ok (.lload 4, 2) := by decide +kernel
theorem dX3_commonDivisor_47 : decode cX3_commonDivisor 47 = .ok (.lreturn, 1) := by decide +kernel
set_option maxRecDepth 20000 in
theorem ggX3_compareFractions_J9_floorDiv_f86c9 : GoodIn wsX3_compareFractions wsJ9_floorDiv_f86c9 := goodIn_r _ [4] (by decide +kernel) (by decide +kernel)
set_option maxRecDepth 20000 in
theorem gX3_compareFractions_J9_floorDiv_f86c9 : GoodIn wsX3_compareFractions (va_wsS RX3 274 yJ9_floorDiv_f86c9 wsJ9_floorDiv_f86c9) := goodIn_app (goodIn_of _ (by decide +kernel)) ggX3_compareFractions_J9_floorDiv_f86c9
set_option maxRecDepth 20000 in
theorem ggX3_compareFractions_J13_compare_74951 : GoodIn wsX3_compareFractions wsJ13_compare_74951 := goodIn_r _ [8] (by decide +kernel) (by decide +kernel)
set_option maxRecDepth 20000 in
theorem gX3_compareFractions_J13_compare_74951 : GoodIn wsX3_compareFractions (va_wsS RX3 277 yJ13_compare_74951 wsJ13_compare_74951) := goodIn_app (goodIn_of _ (by decide +kernel)) ggX3_compareFractions_J13_compare_74951
set_option maxRecDepth 20000 in
theorem ggX3_compareFractions_J9_floorMod_f86c9 : GoodIn wsX3_compareFractions wsJ9_floorMod_f86c9 := goodIn_r _ [11] (by decide +kernel) (by decide +kernel)
set_option maxRecDepth 20000 in
theorem gX3_compareFractions_J9_floorMod_f86c9 : GoodIn wsX3_compareFractions (va_wsS RX3 283 yJ9_floorMod_f86c9 wsJ9_floorMod_f86c9) := goodIn_app (goodIn_of _ (by decide +kernel)) ggX3_compareFractions_J9_floorMod_f86c9
theorem dX3_compareFractions_0 : decode cX3_compareFractions 0 = .ok (.lload_n 0, 1) := by decide +kernel
theorem dX3_compareFractions_1 : decode cX3_compareFractions 1 = .ok (.lstore 8, 2) := by decide +kernel
theorem dX3_compareFractions_3 : decode cX3_compareFractions 3 = .ok (.lload_n 2, 1) := by decide +kernel
theorem dX3_compareFractions_4 : decode cX3_compareFractions 4 = .ok (.lstore 10, 2) := by decide +kernel
theorem dX3_compareFractions_6 : decode cX3_compareFractions 6 = .ok (.lload 4, 2) := by decide +kernel
theorem dX3_compareFractions_8 : decode cX3_compareFractions 8 = .ok (.lstore 12, 2) := by decide +kernel
theorem dX3_compareFractions_10 : decode cX3_compareFractions 10 = .ok (.lload 6, 2) := by decide +kernel
theorem dX3_compareFractions_12 : decode cX3_compareFractions 12 = .ok (.lstore 14, 2) := by decide +kernel
theorem dX3_compareFractions_14 : decode cX3_compareFractions 14 = .ok (.iconst 1, 1) := by decide +kernel
theorem dX3_compareFractions_15 : decode cX3_compareFractions 15 = .ok (.istore 16, 2) := by decide +kernel
theorem dX3_compareFractions_17 : decode cX3_compareFractions 17 = .ok (.iconst 0, 1) := by decide +kernel
theorem dX3_compareFractions_18 : decode cX3_compareFractions 18 = .ok (.istore 17, 2) := by decide +kernel
theorem dX3_compareFractions_20 : decode cX3_compareFractions 20 = .ok (.iload 17, 2) := by decide +kernel
theorem dX3_compareFractions_22 : decode cX3_compareFractions 22 = .ok (.sipush 200, 3) := by decide +kernel
theorem dX3_compareFractions_25 : decode cX3_compareFractions 25 = .ok (.if_icmp .ge 92, 3) := by decide +kernel
theorem dX3_compareFractions_28 : decode cX3_compareFractions 28 = .ok (.lload 10, 2) := by decide +kernel
theorem dX3_compareFractions_30 : decode cX3_compareFractions 30 = .ok (.lconst 0, 1) := by decide +kernel
theorem dX3_compareFractions_31 : decode cX3_compareFractions 31 = .ok (.lcmp, 1) := by decide +kernel
theorem dX3_compareFractions_32 : decode cX3_compareFractions 32 = .ok (.ifCond .eq 85, 3) := by decide +kernel
theorem dX3_compareFractions_35 : decode cX3_compareFractions 35 = .ok (.lload 14, 2) := by decide +kernel
theorem dX3_compareFractions_37 : decode cX3_compareFractions 37 = .ok (.lconst 0, 1) := by decide +kernel
theorem dX3_compareFractions_38 : decode cX3_compareFractions 38 = .ok (.lcmp, 1) := by decide +kernel
theorem dX3_compareFractions_39 : decode cX3_compareFractions 39 = .ok (.ifCond .eq 78, 3) := by decide +kernel
theorem dX3_compareFractions_42 : decode cX3_compareFractions 42 = .ok (.lload 8, 2) := by decide +kernel
theorem dX3_compareFractions_44 : decode cX3_compareFractions 44 = .ok (.lload 10, 2) := by decide +kernel
theorem dX3_compareFractions_46 : decode cX3_compareFractions 46 = .ok (.invokestatic 274, 3) := by decide +kernel
theorem dX3_compareFractions_49 : decode cX3_compareFractions 49 = .ok (.lload 12, 2) := by decide +kernel
theorem dX3_compareFractions_51 : decode cX3_compareFractions 51 = .ok (.lload 14, 2) := by decide +kernel
theorem dX3_compareFractions_53 : decode cX3_compareFractions 53 = .ok (.invokestatic 274, 3) := by decide +kernel
theorem dX3_compareFractions_56 : decode cX3_compareFractions 56 = .ok (.invokestatic 277, 3) := by decide +kernel
theorem dX3_compareFractions_59 : decode cX3_compareFractions 59 = .ok (.istore 18, 2) := by decide +kernel
theorem dX3_compareFractions_61 : decode cX3_compareFractions 61 = .ok (.iload 18, 2) := by decide +kernel
theorem dX3_compareFractions_63 : decode cX3_compareFractions 63 = .ok (.ifCond .eq 9, 3) := by decide +kernel
theorem dX3_compareFractions_66 : decode cX3_compareFractions 66 = .ok (.iload 16, 2) := by decide +kernel
theorem dX3_compareFractions_68 : decode cX3_compareFractions 68 = .ok (.iload 18, 2) := by decide +kernel
theorem dX3_compareFractions_70 : decode cX3_compareFractions 70 = .ok (.imul, 1) := by decide +kernel
theorem dX3_compareFractions_71 : decode cX3_compareFractions 71 = .ok (.ireturn, 1) := by decide +kernel
theorem dX3_compareFractions_72 : decode cX3_compareFractions 72 = .ok (.lload 8, 2) := by decide +kernel
theorem dX3_compareFractions_74 : decode cX3_compareFractions 74 = .ok (.lload 10, 2) := by decide +kernel
theorem dX3_compareFractions_76 : decode cX3_compareFractions 76 = .ok (.invokestatic 283, 3) := by decide +kernel
theorem dX3_compareFractions_79 : decode cX3_compareFractions 79 = .ok (.lstore 19, 2) := by decide +kernel
theorem dX3_compareFractions_81 : decode cX3_compareFractions 81 = .ok (.lload 12, 2) := by decide +kernel
theorem dX3_compareFractions_83 : decode cX3_compareFractions 83 = .ok (.lload 14, 2) := by decide +kernel
theorem dX3_compareFractions_85 : decode cX3_compareFractions 85 = .ok (.invokestatic 283, 3) := by decide +kernel
theorem dX3_compareFractions_88 : decode cX3_compareFractions 88 = .ok (.lstore 21, 2) := by decide +kernel
theorem dX3_compareFractions_90 : decode cX3_compareFractions 90 = .ok (.lload 10, 2) := by decide +kernel
theorem dX3_compareFractions_92 : decode cX3_compareFractions 92 = .ok (.lstore 8, 2) := by decide +kernel
theorem dX3_compareFractions_94 : decode cX3_compareFractions 94 = .ok (.lload 19, 2) := by decide +kernel
theorem dX3_compareFractions_96 : decode cX3_compareFractions 96 = .ok (.lstore 10, 2) := by decide +kernel
theorem dX3_compareFractions_98 : decode cX3_compareFractions 98 = .ok (.lload 14, 2) := by decide +kernel
theorem dX3_compareFractions_100 : decode cX3_compareFractions 100 = .ok (.lstore 12, 2) := by decide +kernel
theorem dX3_compareFractions_102 : decode cX3_compareFractions 102 = .ok (.lload 21, 2) := by decide +kernel
