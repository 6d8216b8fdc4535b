theorem dX3_toggleAt_1 : decode cX3_toggleAt 1 = .ok (.iload_n 1, 1) := by decide +kernel
theorem dX3_toggleAt_2 : decode cX3_toggleAt 2 = .ok (.invokevirtual 82, 3) := by decide +kernel
theorem dX3_toggleAt_5 : decode cX3_toggleAt 5 = .ok (.aload_n 0, 1) := by decide +kernel
theorem dX3_toggleAt_6 : decode cX3_toggleAt 6 = .ok (.getfield 16, 3) := by decide +kernel
theorem dX3_toggleAt_9 : decode cX3_toggleAt 9 = .ok (.iload_n 1, 1) := by decide +kernel
theorem dX3_toggleAt_10 : decode cX3_toggleAt 10 = .ok (.invokevirtual 57, 3) := by decide +kernel
theorem dX3_toggleAt_13 : decode cX3_toggleAt 13 = .ok (.checkcast 77, 3) := by decide +kernel
theorem dX3_toggleAt_16 : decode cX3_toggleAt 16 = .ok (.astore_n 3, 1) := by decide +kernel
theorem dX3_toggleAt_17 : decode cX3_toggleAt 17 = .ok (.iload_n 2, 1) := by decide +kernel
theorem dX3_toggleAt_18 : decode cX3_toggleAt 18 = .ok (.ifCond .lt 11, 3) := by decide +kernel
theorem dX3_toggleAt_21 : decode cX3_toggleAt 21 = .ok (.iload_n 2, 1) := by decide +kernel
theorem dX3_toggleAt_22 : decode cX3_toggleAt 22 = .ok (.aload_n 3, 1) := by decide +kernel
theorem dX3_toggleAt_23 : decode cX3_toggleAt 23 = .ok (.getfield 102, 3) := by decide +kernel
theorem dX3_toggleAt_26 : decode cX3_toggleAt 26 = .ok (.if_icmp .lt 13, 3) := by decide +kernel
theorem dX3_toggleAt_29 : decode cX3_toggleAt 29 = .ok (.new 110, 3) := by decide +kernel
theorem dX3_toggleAt_32 : decode cX3_toggleAt 32 = .ok (.dup, 1) := by decide +kernel
theorem dX3_toggleAt_33 : decode cX3_toggleAt 33 = .ok (.ldc 124, 2) := by decide +kernel
theorem dX3_toggleAt_35 : decode cX3_toggleAt 35 = .ok (.invokespecial 114, 3) := by decide +kernel
theorem dX3_toggleAt_38 : decode cX3_toggleAt 38 = .ok (.athrow, 1) := by decide +kernel
theorem dX3_toggleAt_39 : decode cX3_toggleAt 39 = .ok (.aload_n 3, 1) := by decide +kernel
theorem dX3_toggleAt_40 : decode cX3_toggleAt 40 = .ok (.iload_n 2, 1) := by decide +kernel
theorem dX3_toggleAt_41 : decode cX3_toggleAt 41 = .ok (.invokevirtual 126, 3) := by decide +kernel
theorem dX3_toggleAt_44 : decode cX3_toggleAt 44 = .ok (.ireturn, 1) := by decide +kernel
set_option maxRecDepth 20000 in
theorem ggX3_isOn_X3_checkElement : GoodIn wsX3_isOn wsX3_checkElement := goodIn_ca (goodIn_r _ [7, 8, 9, 1, 10, 11, 12, 13, 14, 15, 50, 51, 52, 53, 54, 55, 56] (by decide +kernel) (by decide +kernel)) (goodIn_sub (fun _ h => List.mem_cons_of_mem _ (List.mem_append_left _ (List.mem_append_right _ h))) (by decide +kernel))
set_option maxRecDepth 20000 in
theorem gX3_isOn_X3_checkElement : GoodIn wsX3_isOn (wsV RX3 82 RX3 yX3_checkElement wsX3_checkElement) := goodIn_app (goodIn_of _ (by decide +kernel)) ggX3_isOn_X3_checkElement
set_option maxRecDepth 20000 in
theorem ggX3_isOn_X3_checkTime : GoodIn wsX3_isOn wsX3_checkTime := goodIn_ca (goodIn_r _ [18, 19, 20] (by decide +kernel) (by decide +kernel)) (goodIn_sub (fun _ h => List.mem_cons_of_mem _ (List.mem_append_right _ h)) (by decide +kernel))
set_option maxRecDepth 20000 in
theorem gX3_isOn_X3_checkTime : GoodIn wsX3_isOn (va_wsS RX3 129 yX3_checkTime wsX3_checkTime) := goodIn_app (goodIn_of _ (by decide +kernel)) ggX3_isOn_X3_checkTime
set_option maxRecDepth 20000 in
theorem ggX3_isOn_Jx4a65c_get_915e3 : GoodIn wsX3_isOn wsJx4a65c_get_915e3 := goodIn_r _ [24, 15, 25, 26, 27, 28, 29, 30, 31, 32, 33, 34, 35, 13, 36, 37, 54, 55, 56] (by decide +kernel) (by decide +kernel)
set_option maxRecDepth 20000 in
theorem gX3_isOn_Jx4a65c_get_915e3 : GoodIn wsX3_isOn (wsV RX3 57 RJx4a65c yJx4a65c_get_915e3 wsJx4a65c_get_915e3) := goodIn_app (goodIn_of _ (by decide +kernel)) ggX3_isOn_Jx4a65c_get_915e3
set_option maxRecDepth 20000 in
theorem ggX3_isOn_X0_runsAt : GoodIn wsX3_isOn wsX0_runsAt := goodIn_r _ [42, 43, 44, 45, 46, 41, 47, 48, 49, 57, 58, 59, 60, 61, 62, 63] (by decide +kernel) (by decide +kernel)
set_option maxRecDepth 20000 in
theorem gX3_isOn_X0_runsAt : GoodIn wsX3_isOn (wsV RX3 132 RX0 yX0_runsAt wsX0_runsAt) := goodIn_app (goodIn_of _ (by decide +kernel)) ggX3_isOn_X0_runsAt
theorem dX3_isOn_0 : decode cX3_isOn 0 = .ok (.aload_n 0, 1) := by decide +kernel
theorem dX3_isOn_1 : decode cX3_isOn 1 = .ok (.iload_n 1, 1) := by decide +kernel
theorem dX3_isOn_2 : decode cX3_isOn 2 = .ok (.invokevirtual 82, 3) := by decide +kernel
theorem dX3_isOn_5 : decode cX3_isOn 5 = .ok (.iload_n 2, 1) := by decide +kernel
theorem dX3_isOn_6 : decode cX3_isOn 6 = .ok (.invokestatic 129, 3) := by decide +kernel
theorem dX3_isOn_9 : decode cX3_isOn 9 = .ok (.aload_n 0, 1) := by decide +kernel
theorem dX3_isOn_10 : decode cX3_isOn 10 = .ok (.getfield 16, 3) := by decide +kernel
theorem dX3_isOn_13 : decode cX3_isOn 13 = .ok (.iload_n 1, 1) := by decide +kernel
theorem dX3_isOn_14 : decode cX3_isOn 14 = .ok (.invokevirtual 57, 3) := by decide +kernel
theorem dX3_isOn_17 : decode cX3_isOn 17 = .ok (.checkcast 77, 3) := by decide +kernel
theorem dX3_isOn_20 : decode cX3_isOn 20 = .ok (.iload_n 2, 1) := by decide +kernel
theorem dX3_isOn_21 : decode cX3_isOn 21 = .ok (.invokevirtual 132, 3) := by decide +kernel
theorem dX3_isOn_24 : decode cX3_isOn 24 = .ok (.ireturn, 1) := by decide +kernel
set_option maxRecDepth 20000 in
theorem ggX3_together_X3_checkNode : GoodIn wsX3_together wsX3_checkNode := goodIn_ca (goodIn_r _ [6, 7, 8, 9, 10, 11, 12, 13, 14, 15, 66, 67, 68, 69, 70, 71, 72] (by decide +kernel) (by decide +kernel)) (goodIn_sub (fun _ h => List.mem_cons_of_mem _ (List.mem_append_left _ (List.mem_append_right _ h))) (by decide +kernel))
set_option maxRecDepth 20000 in
theorem gX3_together_X3_checkNode : GoodIn wsX3_together (wsV RX3 48 RX3 yX3_checkNode wsX3_checkNode) := goodIn_app (goodIn_of _ (by decide +kernel)) ggX3_together_X3_checkNode
set_option maxRecDepth 20000 in
theorem ggX3_together_X3_checkTime : GoodIn wsX3_together wsX3_checkTime := goodIn_ca (goodIn_r _ [18, 19, 20] (by decide +kernel) (by decide +kernel)) (goodIn_sub (fun _ h => List.mem_cons_of_mem _ (List.mem_append_right _ h)) (by decide +kernel))
set_option maxRecDepth 20000 in
theorem gX3_together_X3_checkTime : GoodIn wsX3_together (va_wsS RX3 129 yX3_checkTime wsX3_checkTime) := goodIn_app (goodIn_of _ (by decide +kernel)) ggX3_together_X3_checkTime
set_option maxRecDepth 20000 in
theorem ggX3_together_X3_group : GoodIn wsX3_together wsX3_group := goodIn_r _ [24, 1, 25, 26, 27, 28, 29, 10, 11, 12, 13, 14, 15, 30, 31, 32, 33, 34, 35, 36, 37, 38, 39, 40, 41, 42, 43, 44, 45, 46, 47, 48, 49, 50, 51, 52, 53, 54, 55, 56, 57, 58, 59, 60, 61, 5, 62, 63, 64, 65, 66, 67, 68, 69, 73, 74, 75, 76, 77, 78, 79, 70, 71, 72] (by decide +kernel) (by decide +kernel)
set_option maxRecDepth 20000 in
theorem gX3_together_X3_group : GoodIn wsX3_together (wsV RX3 135 RX3 yX3_group wsX3_group) := goodIn_app (goodIn_of _ (by decide +kernel)) ggX3_together_X3_group
theorem dX3_together_0 : decode cX3_together 0 = .ok (.aload_n 0, 1) := by decide +kernel
theorem dX3_together_1 : decode cX3_together 1 = .ok (.iload_n 1, 1) := by decide +kernel
theorem dX3_together_2 : decode cX3_together 2 = .ok (.invokevirtual 48, 3) := by decide +kernel
theorem dX3_together_5 : decode cX3_together 5 = .ok (.iload_n 2, 1) := by decide +kernel
theorem dX3_together_6 : decode cX3_together 6 = .ok (.invokestatic 129, 3) := by decide +kernel
theorem dX3_together_9 : decode cX3_together 9 = .ok (.aload_n 0, 1) := by decide +kernel
theorem dX3_together_10 : decode cX3_together 10 = .ok (.iload_n 2, 1) := by decide +kernel
theorem dX3_together_11 : decode cX3_together 11 = .ok (.invokevirtual 135, 3) := by decide +kernel
theorem dX3_together_14 : decode cX3_together 14 = .ok (.aload_n 0, 1) := by decide +kernel
theorem dX3_together_15 : decode cX3_together 15 = .ok (.getfield 19, 3) := by decide +kernel
theorem dX3_together_18 : decode cX3_together 18 = .ok (.iload_n 1, 1) := by decide +kernel
theorem dX3_together_19 : decode cX3_together 19 = .ok (.iaload, 1) := by decide +kernel
theorem dX3_together_20 : decode cX3_together 20 = .ok (.ireturn, 1) := by decide +kernel
set_option maxRecDepth 20000 in
theorem ggX3_floats_X3_checkNode : GoodIn wsX3_floats wsX3_checkNode := goodIn_ca (goodIn_r _ [5, 6, 7, 8, 9, 10, 11, 12, 13, 14, 72, 73, 74, 75, 76, 77, 78] (by decide +kernel) (by decide +kernel)) (goodIn_sub (fun _ h => List.mem_cons_of_mem _ (List.mem_append_left _ (List.mem_append_right _ h))) (by decide +kernel))
set_option maxRecDepth 20000 in
theorem gX3_floats_X3_checkNode : GoodIn wsX3_floats (wsV RX3 48 RX3 yX3_checkNode wsX3_checkNode) := goodIn_app (goodIn_of _ (by decide +kernel)) ggX3_floats_X3_checkNode
set_option maxRecDepth 20000 in
theorem ggX3_floats_X3_checkTime : GoodIn wsX3_floats wsX3_checkTime := goodIn_ca (goodIn_r _ [17, 18, 19] (by decide +kernel) (by decide +kernel)) (goodIn_sub (fun _ h => List.mem_cons_of_mem _ (List.mem_append_right _ h)) (by decide +kernel))
set_option maxRecDepth 20000 in
theorem gX3_floats_X3_checkTime : GoodIn wsX3_floats (va_wsS RX3 129 yX3_checkTime wsX3_checkTime) := goodIn_app (goodIn_of _ (by decide +kernel)) ggX3_floats_X3_checkTime
set_option maxRecDepth 20000 in
theorem ggX3_floats_X3_group : GoodIn wsX3_floats wsX3_group := goodIn_r _ [23, 24, 25, 26, 27, 28, 29, 9, 10, 11, 12, 13, 14, 30, 31, 32, 33, 34, 35, 36, 37, 38, 39, 40, 41, 42, 43, 44, 45, 46, 47, 48, 49, 50, 51, 52, 53, 54, 55, 56, 57, 58, 59, 60, 61, 4, 62, 63, 64, 65, 72, 73, 74, 75, 79, 80, 81, 82, 83, 84, 85, 76, 77, 78] (by decide +kernel) (by decide +kernel)
set_option maxRecDepth 20000 in
theorem gX3_floats_X3_group : GoodIn wsX3_floats (wsV RX3 135 RX3 yX3_group wsX3_group) := goodIn_app (goodIn_of _ (by decide +kernel)) ggX3_floats_X3_group
set_option maxRecDepth 20000 in
theorem ggX3_floats_X3_isAfloat : GoodIn wsX3_floats wsX3_isAfloat := goodIn_r _ [69, 8, 70, 71, 24, 9, 10, 11, 12, 13, 14, 30, 31, 32, 33, 34, 35, 36, 37, 38, 39, 40, 41, 42, 43, 44, 45, 46, 63, 64, 4, 65, 72, 73, 74, 75, 86, 87, 76, 77, 78] (by decide +kernel) (by decide +kernel)
set_option maxRecDepth 20000 in
theorem gX3_floats_X3_isAfloat : GoodIn wsX3_floats (wsV RX3 138 RX3 yX3_isAfloat wsX3_isAfloat) := goodIn_app (goodIn_of _ (by decide +kernel)) ggX3_floats_X3_isAfloat
theorem dX3_floats_0 : decode cX3_floats 0 = .ok (.aload_n 0, 1) := by decide +kernel
theorem dX3_floats_1 : decode cX3_floats 1 = .ok (.iload_n 1, 1) := by decide +kernel
theorem dX3_floats_2 : decode cX3_floats 2 = .ok (.invokevirtual 48, 3) := by decide +kernel
theorem dX3_floats_5 : decode cX3_floats 5 = .ok (.iload_n 2, 1) := by decide +kernel
theorem dX3_floats_6 : decode cX3_floats 6 = .ok (.invokestatic 129, 3) := by decide +kernel
theorem dX3_floats_9 : decode cX3_floats 9 = .ok (.aload_n 0, 1) := by decide +kernel
theorem dX3_floats_10 : decode cX3_floats 10 = .ok (.iload_n 2, 1) := by decide +kernel
theorem dX3_floats_11 : decode cX3_floats 11 = .ok (.invokevirtual 135, 3) := by decide +kernel
theorem dX3_floats_14 : decode cX3_floats 14 = .ok (.aload_n 0, 1) := by decide +kernel
theorem dX3_floats_15 : decode cX3_floats 15 = .ok (.iload_n 1, 1) := by decide +kernel
theorem dX3_floats_16 : decode cX3_floats 16 = .ok (.invokevirtual 138, 3) := by decide +kernel
theorem dX3_floats_19 : decode cX3_floats 19 = .ok (.ireturn, 1) := by decide +kernel
set_option maxRecDepth 20000 in
theorem ggX3_potential_X3_checkNode : GoodIn wsX3_potential wsX3_checkNode := goodIn_ca (goodIn_r _ [6, 7, 8, 9, 10, 11, 12, 13, 14, 15, 157, 158, 159, 160, 161, 162, 163] (by decide +kernel) (by decide +kernel)) (goodIn_sub (fun _ h => List.mem_cons_of_mem _ (List.mem_append_left _ (List.mem_append_left _ (List.mem_append_right _ h)))) (by decide +kernel))
set_option maxRecDepth 20000 in
theorem gX3_potential_X3_checkNode : GoodIn wsX3_potential (wsV RX3 48 RX3 yX3_checkNode wsX3_checkNode) := goodIn_app (goodIn_of _ (by decide +kernel)) ggX3_potential_X3_checkNode
set_option maxRecDepth 20000 in
theorem ggX3_potential_X3_checkTime : GoodIn wsX3_potential wsX3_checkTime := goodIn_ca (goodIn_r _ [18, 19, 20] (by decide +kernel) (by decide +kernel)) (goodIn_sub (fun _ h => List.mem_cons_of_mem _ (List.mem_append_left _ (List.mem_append_right _ h))) (by decide +kernel))
set_option maxRecDepth 20000 in
theorem gX3_potential_X3_checkTime : GoodIn wsX3_potential (va_wsS RX3 129 yX3_checkTime wsX3_checkTime) := goodIn_app (goodIn_of _ (by decide +kernel)) ggX3_potential_X3_checkTime
set_option maxRecDepth 20000 in
theorem ggX3_potential_X3_settle : GoodIn wsX3_potential wsX3_settle := goodIn_r _ [24, 1, 9, 25, 26, 27, 28, 29, 30, 31, 32, 33, 34, 35, 36, 5, 37, 38, 10, 11, 12, 13, 14, 15, 39, 40, 41, 42, 43, 44, 45, 46, 47, 48, 49, 50, 51, 52, 53, 54, 55, 56, 57, 58, 59, 60, 61, 62, 63, 64, 65, 66, 67, 68, 69, 70, 71, 72, 73, 74, 75, 76, 77, 78, 79, 80, 81, 82, 83, 84, 85, 86, 87, 88, 89, 90, 91, 92, 93, 94, 95, 96, 97, 98, 99, 100, 101, 102, 103, 104, 105, 106, 107, 108, 109, 110, 111, 112, 113, 114, 115, 116, 117, 118, 119, 120, 121, 122, 123, 124, 125, 126, 127, 128, 129, 130, 131, 157, 158, 159, 160, 164, 165, 166, 167, 168, 169, 170, 171, 172, 161, 162, 163, 173, 174, 175, 176, 177] (by decide +kernel) (by decide +kernel)
set_option maxRecDepth 20000 in
theorem gX3_potential_X3_settle : GoodIn wsX3_potential (wsV RX3 141 RX3 yX3_settle wsX3_settle) := goodIn_app (goodIn_of _ (by decide +kernel)) ggX3_potential_X3_settle
set_option maxRecDepth 20000 in
theorem ggX3_potential_X3_checkGrounded : GoodIn wsX3_potential wsX3_checkGrounded := goodIn_ca (goodIn_r _ [135, 136, 137, 88, 89, 90, 5, 91, 9, 25, 26, 38, 10, 11, 12, 13, 14, 15, 39, 40, 41, 42, 43, 44, 45, 46, 47, 48, 49, 50, 51, 52, 53, 54, 55, 72, 73, 74, 157, 158, 159, 160, 164, 165, 161, 162, 163] (by decide +kernel) (by decide +kernel)) (goodIn_sub (fun _ h => List.mem_cons_of_mem _ (List.mem_append_right _ h)) (by decide +kernel))
set_option maxRecDepth 20000 in
theorem gX3_potential_X3_checkGrounded : GoodIn wsX3_potential (wsV RX3 144 RX3 yX3_checkGrounded wsX3_checkGrounded) := goodIn_app (goodIn_of _ (by decide +kernel)) ggX3_potential_X3_checkGrounded
set_option maxRecDepth 20000 in
theorem ggX3_potential_X1_upper : GoodIn wsX3_potential wsX1_upper := goodIn_r _ [141, 81, 82, 116, 80, 142, 143, 144, 78, 145, 117, 118, 119, 120, 173, 174, 175, 176, 177] (by decide +kernel) (by decide +kernel)
set_option maxRecDepth 20000 in
theorem gX3_potential_X1_upper : GoodIn wsX3_potential (wsV RX3 147 RX1 yX1_upper wsX1_upper) := goodIn_app (goodIn_of _ (by decide +kernel)) ggX3_potential_X1_upper
set_option maxRecDepth 20000 in
theorem ggX3_potential_X1_lower : GoodIn wsX3_potential wsX1_lower := goodIn_r _ [145, 116, 80, 117, 118, 119, 78, 120, 173, 174, 175, 176, 177] (by decide +kernel) (by decide +kernel)
set_option maxRecDepth 20000 in
theorem gX3_potential_X1_lower : GoodIn wsX3_potential (wsV RX3 151 RX1 yX1_lower wsX1_lower) := goodIn_app (goodIn_of _ (by decide +kernel)) ggX3_potential_X1_lower
set_option maxRecDepth 20000 in
theorem ggX3_potential_X3_partOf : GoodIn wsX3_potential wsX3_partOf := goodIn_r _ [149, 150, 151, 152, 153, 154, 155, 5, 156] (by decide +kernel) (by decide +kernel)
set_option maxRecDepth 20000 in
theorem gX3_potential_X3_partOf : GoodIn wsX3_potential (va_wsS RX3 155 yX3_partOf wsX3_partOf) := goodIn_app (goodIn_of _ (by decide +kernel)) ggX3_potential_X3_partOf
theorem dX3_potential_0 : decode cX3_potential 0 = .ok (.aload_n 0, 1) := by decide +kernel
theorem dX3_potential_1 : decode cX3_potential 1 = .ok (.iload_n 1, 1) := by decide +kernel
theorem dX3_potential_2 : decode cX3_potential 2 = .ok (.invokevirtual 48, 3) := by decide +kernel
theorem dX3_potential_5 : decode cX3_potential 5 = .ok (.iload_n 2, 1) := by decide +kernel
theorem dX3_potential_6 : decode cX3_potential 6 = .ok (.invokestatic 129, 3) := by decide +kernel
theorem dX3_potential_9 : decode cX3_potential 9 = .ok (.aload_n 0, 1) := by decide +kernel
theorem dX3_potential_10 : decode cX3_potential 10 = .ok (.iload_n 2, 1) := by decide +kernel
theorem dX3_potential_11 : decode cX3_potential 11 = .ok (.invokevirtual 141, 3) := by decide +kernel
theorem dX3_potential_14 : decode cX3_potential 14 = .ok (.aload_n 0, 1) := by decide +kernel
theorem dX3_potential_15 : decode cX3_potential 15 = .ok (.iload_n 1, 1) := by decide +kernel
theorem dX3_potential_16 : decode cX3_potential 16 = .ok (.invokevirtual 144, 3) := by decide +kernel
theorem dX3_potential_19 : decode cX3_potential 19 = .ok (.aload_n 0, 1) := by decide +kernel
theorem dX3_potential_20 : decode cX3_potential 20 = .ok (.getfield 26, 3) := by decide +kernel
theorem dX3_potential_23 : decode cX3_potential 23 = .ok (.iload_n 1, 1) := by decide +kernel
theorem dX3_potential_24 : decode cX3_potential 24 = .ok (.invokevirtual 147, 3) := by decide +kernel
theorem dX3_potential_27 : decode cX3_potential 27 = .ok (.aload_n 0, 1) := by decide +kernel
theorem dX3_potential_28 : decode cX3_potential 28 = .ok (.getfield 26, 3) := by decide +kernel
theorem dX3_potential_31 : decode cX3_potential 31 = .ok (.invokevirtual 151, 3) := by decide +kernel
theorem dX3_potential_34 : decode cX3_potential 34 = .ok (.iload_n 3, 1) := by decide +kernel
theorem dX3_potential_35 : decode cX3_potential 35 = .ok (.invokestatic 155, 3) := by decide +kernel
theorem dX3_potential_38 : decode cX3_potential 38 = .ok (.lreturn, 1) := by decide +kernel
set_option maxRecDepth 20000 in
theorem ggX3_current_X3_checkElement : GoodIn wsX3_current wsX3_checkElement := goodIn_ca (goodIn_r _ [11, 12, 13, 1, 14, 15, 16, 17, 18, 19, 161, 162, 163, 164, 172, 173, 174] (by decide +kernel) (by decide +kernel)) (goodIn_sub (fun _ h => List.mem_cons_of_mem _ (List.mem_append_left _ (List.mem_append_left _ (List.mem_append_right _ h)))) (by decide +kernel))
set_option maxRecDepth 20000 in
theorem gX3_current_X3_checkElement : GoodIn wsX3_current (wsV RX3 82 RX3 yX3_checkElement wsX3_checkElement) := goodIn_app (goodIn_of _ (by decide +kernel)) ggX3_current_X3_checkElement
set_option maxRecDepth 20000 in
theorem ggX3_current_X3_checkTime : GoodIn wsX3_current wsX3_checkTime := goodIn_ca (goodIn_r _ [22, 23, 24] (by decide +kernel) (by decide +kernel)) (goodIn_sub (fun _ h => List.mem_cons_of_mem _ (List.mem_append_left _ (List.mem_append_right _ h))) (by decide +kernel))
set_option maxRecDepth 20000 in
theorem gX3_current_X3_checkTime : GoodIn wsX3_current (va_wsS RX3 129 yX3_checkTime wsX3_checkTime) := goodIn_app (goodIn_of _ (by decide +kernel)) ggX3_current_X3_checkTime
set_option maxRecDepth 20000 in
theorem ggX3_current_Jx4a65c_get_915e3 : GoodIn wsX3_current wsJx4a65c_get_915e3 := goodIn_r _ [28, 19, 29, 30, 31, 32, 33, 34, 35, 36, 37, 38, 39, 17, 40, 41, 172, 173, 174] (by decide +kernel) (by decide +kernel)
set_option maxRecDepth 20000 in
theorem gX3_current_Jx4a65c_get_915e3 : GoodIn wsX3_current (wsV RX3 57 RJx4a65c yJx4a65c_get_915e3 wsJx4a65c_get_915e3) := goodIn_app (goodIn_of _ (by decide +kernel)) ggX3_current_Jx4a65c_get_915e3
set_option maxRecDepth 20000 in
theorem ggX3_current_X0_runsAt : GoodIn wsX3_current wsX0_runsAt := goodIn_r _ [46, 47, 48, 49, 50, 45, 51, 52, 53, 165, 166, 167, 168, 169, 170, 171] (by decide +kernel) (by decide +kernel)
set_option maxRecDepth 20000 in
theorem gX3_current_X0_runsAt : GoodIn wsX3_current (wsV RX3 132 RX0 yX0_runsAt wsX0_runsAt) := goodIn_app (goodIn_of _ (by decide +kernel)) ggX3_current_X0_runsAt
set_option maxRecDepth 20000 in
theorem ggX3_current_X3_partOf : GoodIn wsX3_current wsX3_partOf := goodIn_r _ [56, 57, 58, 59, 60, 61, 62, 10, 63] (by decide +kernel) (by decide +kernel)
set_option maxRecDepth 20000 in
theorem gX3_current_X3_partOf : GoodIn wsX3_current (va_wsS RX3 155 yX3_partOf wsX3_partOf) := goodIn_app (goodIn_of _ (by decide +kernel)) ggX3_current_X3_partOf
set_option maxRecDepth 20000 in
theorem ggX3_current_X3_settle : GoodIn wsX3_current wsX3_settle := goodIn_r _ [67, 6, 68, 69, 70, 71, 1, 2, 3, 5, 4, 72, 73, 74, 75, 10, 76, 77, 14, 15, 16, 17, 18, 19, 25, 26, 27, 28, 29, 30, 31, 32, 33, 34, 35, 36, 37, 38, 39, 40, 41, 42, 43, 44, 45, 46, 47, 48, 49, 50, 51, 52, 53, 78, 79, 80, 81, 82, 83, 84, 85, 86, 87, 88, 89, 90, 91, 92, 93, 94, 95, 96, 97, 98, 99, 100, 101, 102, 103, 104, 105, 106, 107, 108, 109, 110, 111, 112, 113, 114, 115, 116, 117, 118, 119, 120, 121, 122, 123, 124, 125, 126, 127, 128, 129, 130, 131, 132, 133, 134, 135, 136, 137, 138, 139, 140, 141, 161, 162, 163, 164, 175, 176, 165, 166, 167, 168, 169, 170, 171, 172, 173, 174, 177, 178, 179, 180, 181] (by decide +kernel) (by decide +kernel)
set_option maxRecDepth 20000 in
theorem gX3_current_X3_settle : GoodIn wsX3_current (wsV RX3 141 RX3 yX3_settle wsX3_settle) := goodIn_app (goodIn_of _ (by decide +kernel)) ggX3_current_X3_settle
set_option maxRecDepth 20000 in
theorem ggX3_current_X3_checkGrounded : GoodIn wsX3_current wsX3_checkGrounded := goodIn_ca (goodIn_r _ [145, 146, 147, 98, 99, 100, 10, 101, 68, 69, 70, 77, 14, 15, 16, 17, 18, 19, 25, 26, 27, 28, 29, 30, 31, 32, 33, 34, 35, 36, 37, 38, 39, 40, 41, 82, 83, 84, 161, 162, 163, 164, 175, 176, 172, 173, 174] (by decide +kernel) (by decide +kernel)) (goodIn_sub (fun _ h => List.mem_cons_of_mem _ (List.mem_append_right _ h)) (by decide +kernel))
set_option maxRecDepth 20000 in
theorem gX3_current_X3_checkGrounded : GoodIn wsX3_current (wsV RX3 144 RX3 yX3_checkGrounded wsX3_checkGrounded) := goodIn_app (goodIn_of _ (by decide +kernel)) ggX3_current_X3_checkGrounded
set_option maxRecDepth 20000 in
theorem ggX3_current_X3_flowOut : GoodIn wsX3_current wsX3_flowOut := goodIn_r _ [151, 5, 72, 3, 4, 6, 152, 153, 154, 88, 155, 126, 90, 127, 128, 129, 130, 156, 157, 158, 159, 91, 92, 160, 165, 166, 167, 168, 169, 170, 171, 161, 162, 163, 164, 177, 178, 179, 180, 181] (by decide +kernel) (by decide +kernel)
set_option maxRecDepth 20000 in
theorem gX3_current_X3_flowOut : GoodIn wsX3_current (wsV RX3 162 RX3 yX3_flowOut wsX3_flowOut) := goodIn_app (goodIn_of _ (by decide +kernel)) ggX3_current_X3_flowOut
set_option maxRecDepth 20000 in
theorem ggX3_current_X1_lower : GoodIn wsX3_current wsX1_lower := goodIn_r _ [155, 126, 90, 127, 128, 129, 88, 130, 177, 178, 179, 180, 181] (by decide +kernel) (by decide +kernel)
set_option maxRecDepth 20000 in
theorem gX3_current_X1_lower : GoodIn wsX3_current (wsV RX3 151 RX1 yX1_lower wsX1_lower) := goodIn_app (goodIn_of _ (by decide +kernel)) ggX3_current_X1_lower
theorem dX3_current_0 : decode cX3_current 0 = .ok (.aload_n 0, 1) := by decide +kernel
theorem dX3_current_1 : decode cX3_current 1 = .ok (.iload_n 1, 1) := by decide +kernel
theorem dX3_current_2 : decode cX3_current 2 = .ok (.invokevirtual 82, 3) := by decide +kernel
theorem dX3_current_5 : decode cX3_current 5 = .ok (.iload_n 2, 1) := by decide +kernel
theorem dX3_current_6 : decode cX3_current 6 = .ok (.invokestatic 129, 3) := by decide +kernel
theorem dX3_current_9 : decode cX3_current 9 = .ok (.aload_n 0, 1) := by decide +kernel
theorem dX3_current_10 : decode cX3_current 10 = .ok (.getfield 16, 3) := by decide +kernel
theorem dX3_current_13 : decode cX3_current 13 = .ok (.iload_n 1, 1) := by decide +kernel
theorem dX3_current_14 : decode cX3_current 14 = .ok (.invokevirtual 57, 3) := by decide +kernel
theorem dX3_current_17 : decode cX3_current 17 = .ok (.checkcast 77, 3) := by decide +kernel
theorem dX3_current_20 : decode cX3_current 20 = .ok (.astore 4, 2) := by decide +kernel
theorem dX3_current_22 : decode cX3_current 22 = .ok (.aload 4, 2) := by decide +kernel
theorem dX3_current_24 : decode cX3_current 24 = .ok (.iload_n 2, 1) := by decide +kernel
theorem dX3_current_25 : decode cX3_current 25 = .ok (.invokevirtual 132, 3) := by decide +kernel
theorem dX3_current_28 : decode cX3_current 28 = .ok (.ifCond .ne 10, 3) := by decide +kernel
theorem dX3_current_31 : decode cX3_current 31 = .ok (.lconst 0, 1) := by decide +kernel
theorem dX3_current_32 : decode cX3_current 32 = .ok (.lconst 1, 1) := by decide +kernel
theorem dX3_current_33 : decode cX3_current 33 = .ok (.iload_n 3, 1) := by decide +kernel
theorem dX3_current_34 : decode cX3_current 34 = .ok (.invokestatic 155, 3) := by decide +kernel
theorem dX3_current_37 : decode cX3_current 37 = .ok (.lreturn, 1) := by decide +kernel
theorem dX3_current_38 : decode cX3_current 38 = .ok (.aload 4, 2) := by decide +kernel
theorem dX3_current_40 : decode cX3_current 40 = .ok (.getfield 85, 3) := by decide +kernel
theorem dX3_current_43 : decode cX3_current 43 = .ok (.ifCond .eq 15, 3) := by decide +kernel
theorem dX3_current_46 : decode cX3_current 46 = .ok (.aload 4, 2) := by decide +kernel
theorem dX3_current_48 : decode cX3_current 48 = .ok (.getfield 88, 3) := by decide +kernel
theorem dX3_current_51 : decode cX3_current 51 = .ok (.i2l, 1) := by decide +kernel
theorem dX3_current_52 : decode cX3_current 52 = .ok (.lconst 1, 1) := by decide +kernel
theorem dX3_current_53 : decode cX3_current 53 = .ok (.iload_n 3, 1) := by decide +kernel
theorem dX3_current_54 : decode cX3_current 54 = .ok (.invokestatic 155, 3) := by decide +kernel
theorem dX3_current_57 : decode cX3_current 57 = .ok (.lreturn, 1) := by decide +kernel
theorem dX3_current_58 : decode cX3_current 58 = .ok (.aload_n 0, 1) := by decide +kernel
theorem dX3_current_59 : decode cX3_current 59 = .ok (.iload_n 2, 1) := by decide +kernel
theorem dX3_current_60 : decode cX3_current 60 = .ok (.invokevirtual 141, 3) := by decide +kernel
theorem dX3_current_63 : decode cX3_current 63 = .ok (.aload_n 0, 1) := by decide +kernel
theorem dX3_current_64 : decode cX3_current 64 = .ok (.aload 4, 2) := by decide +kernel
theorem dX3_current_66 : decode cX3_current 66 = .ok (.getfield 159, 3) := by decide +kernel
theorem dX3_current_69 : decode cX3_current 69 = .ok (.invokevirtual 144, 3) := by decide +kernel
theorem dX3_current_72 : decode cX3_current 72 = .ok (.aload_n 0, 1) := by decide +kernel
theorem dX3_current_73 : decode cX3_current 73 = .ok (.aload 4, 2) := by decide +kernel
theorem dX3_current_75 : decode cX3_current 75 = .ok (.aload 4, 2) := by decide +kernel
theorem dX3_current_77 : decode cX3_current 77 = .ok (.getfield 159, 3) := by decide +kernel
theorem dX3_current_80 : decode cX3_current 80 = .ok (.invokevirtual 162, 3) := by decide +kernel
theorem dX3_current_83 : decode cX3_current 83 = .ok (.aload_n 0, 1) := by decide +kernel
theorem dX3_current_84 : decode cX3_current 84 = .ok (.getfield 26, 3) := by decide +kernel
theorem dX3_current_87 : decode cX3_current 87 = .ok (.invokevirtual 151, 3) := by decide +kernel
theorem dX3_current_90 : decode cX3_current 90 = .ok (.iload_n 3, 1) := by decide +kernel
theorem dX3_current_91 : decode cX3_current 91 = .ok (.invokestatic 155, 3) := by decide +kernel
theorem dX3_current_94 : decode cX3_current 94 = .ok (.lreturn, 1) := by decide +kernel
set_option maxRecDepth 20000 in
theorem ggX3_feed_X3_checkNode : GoodIn wsX3_feed wsX3_checkNode := goodIn_ca (goodIn_r _ [13, 14, 15, 3, 16, 17, 18, 19, 20, 21, 157, 158, 159, 160, 163, 164, 165] (by decide +kernel) (by decide +kernel)) (goodIn_sub (fun _ h => List.mem_cons_of_mem _ (List.mem_append_left _ (List.mem_append_right _ h))) (by decide +kernel))
set_option maxRecDepth 20000 in
theorem gX3_feed_X3_checkNode : GoodIn wsX3_feed (wsV RX3 48 RX3 yX3_checkNode wsX3_checkNode) := goodIn_app (goodIn_of _ (by decide +kernel)) ggX3_feed_X3_checkNode
set_option maxRecDepth 20000 in
theorem ggX3_feed_X3_checkTime : GoodIn wsX3_feed wsX3_checkTime := goodIn_ca (goodIn_r _ [24, 25, 26] (by decide +kernel) (by decide +kernel)) (goodIn_sub (fun _ h => List.mem_cons_of_mem _ (List.mem_append_right _ h)) (by decide +kernel))
set_option maxRecDepth 20000 in
theorem gX3_feed_X3_checkTime : GoodIn wsX3_feed (va_wsS RX3 129 yX3_checkTime wsX3_checkTime) := goodIn_app (goodIn_of _ (by decide +kernel)) ggX3_feed_X3_checkTime
set_option maxRecDepth 20000 in
theorem ggX3_feed_Jx4a65c_get_915e3 : GoodIn wsX3_feed wsJx4a65c_get_915e3 := goodIn_r _ [30, 21, 31, 32, 33, 34, 35, 36, 37, 38, 39, 40, 41, 19, 42, 43, 163, 164, 165] (by decide +kernel) (by decide +kernel)
set_option maxRecDepth 20000 in
theorem gX3_feed_Jx4a65c_get_915e3 : GoodIn wsX3_feed (wsV RX3 57 RJx4a65c yJx4a65c_get_915e3 wsJx4a65c_get_915e3) := goodIn_app (goodIn_of _ (by decide +kernel)) ggX3_feed_Jx4a65c_get_915e3
set_option maxRecDepth 20000 in
theorem ggX3_feed_X3_settle : GoodIn wsX3_feed wsX3_settle := goodIn_r _ [47, 8, 3, 4, 5, 48, 6, 7, 49, 50, 51, 52, 53, 54, 55, 12, 56, 57, 16, 17, 18, 19, 20, 21, 27, 28, 29, 30, 31, 32, 33, 34, 35, 36, 37, 38, 39, 40, 41, 42, 43, 58, 59, 60, 61, 62, 63, 64, 65, 66, 67, 68, 69, 70, 71, 72, 73, 74, 75, 76, 77, 78, 79, 80, 81, 82, 83, 84, 85, 86, 87, 88, 89, 90, 91, 92, 93, 94, 95, 96, 97, 98, 99, 100, 101, 102, 103, 104, 105, 106, 107, 108, 109, 110, 111, 112, 113, 114, 115, 116, 117, 118, 119, 120, 121, 122, 123, 124, 125, 126, 127, 128, 129, 130, 131, 132, 133, 157, 158, 159, 160, 161, 162, 166, 167, 168, 169, 170, 171, 172, 163, 164, 165, 173, 174, 175, 176, 177] (by decide +kernel) (by decide +kernel)
set_option maxRecDepth 20000 in
theorem gX3_feed_X3_settle : GoodIn wsX3_feed (wsV RX3 141 RX3 yX3_settle wsX3_settle) := goodIn_app (goodIn_of _ (by decide +kernel)) ggX3_feed_X3_settle
set_option maxRecDepth 20000 in
theorem ggX3_feed_Jx4a65c_size_8abf5 : GoodIn wsX3_feed wsJx4a65c_size_8abf5 := goodIn_r _ [20, 21, 163, 164, 165] (by decide +kernel) (by decide +kernel)
set_option maxRecDepth 20000 in
theorem gX3_feed_Jx4a65c_size_8abf5 : GoodIn wsX3_feed (wsV RX3 30 RJx4a65c yJx4a65c_size_8abf5 wsJx4a65c_size_8abf5) := goodIn_app (goodIn_of _ (by decide +kernel)) ggX3_feed_Jx4a65c_size_8abf5
set_option maxRecDepth 20000 in
theorem ggX3_feed_X0_runsAt : GoodIn wsX3_feed wsX0_runsAt := goodIn_r _ [62, 63, 64, 65, 66, 61, 67, 68, 69, 166, 167, 168, 169, 170, 171, 172] (by decide +kernel) (by decide +kernel)
set_option maxRecDepth 20000 in
theorem gX3_feed_X0_runsAt : GoodIn wsX3_feed (wsV RX3 132 RX0 yX0_runsAt wsX0_runsAt) := goodIn_app (goodIn_of _ (by decide +kernel)) ggX3_feed_X0_runsAt
set_option maxRecDepth 20000 in
theorem ggX3_feed_X3_flowOut : GoodIn wsX3_feed wsX3_flowOut := goodIn_r _ [137, 50, 52, 49, 51, 8, 138, 139, 140, 80, 141, 118, 82, 119, 120, 121, 122, 142, 143, 144, 145, 83, 84, 146, 166, 167, 168, 169, 170, 171, 172, 157, 158, 159, 160, 173, 174, 175, 176, 177] (by decide +kernel) (by decide +kernel)
set_option maxRecDepth 20000 in
theorem gX3_feed_X3_flowOut : GoodIn wsX3_feed (wsV RX3 162 RX3 yX3_flowOut wsX3_flowOut) := goodIn_app (goodIn_of _ (by decide +kernel)) ggX3_feed_X3_flowOut
set_option maxRecDepth 20000 in
theorem ggX3_feed_X1_lower : GoodIn wsX3_feed wsX1_lower := goodIn_r _ [141, 118, 82, 119, 120, 121, 80, 122, 173, 174, 175, 176, 177] (by decide +kernel) (by decide +kernel)
set_option maxRecDepth 20000 in
theorem gX3_feed_X1_lower : GoodIn wsX3_feed (wsV RX3 151 RX1 yX1_lower wsX1_lower) := goodIn_app (goodIn_of _ (by decide +kernel)) ggX3_feed_X1_lower
set_option maxRecDepth 20000 in
theorem ggX3_feed_X3_partOf : GoodIn wsX3_feed wsX3_partOf := goodIn_r _ [149, 150, 151, 152, 153, 154, 155, 12, 156] (by decide +kernel) (by decide +kernel)
set_option maxRecDepth 20000 in
theorem gX3_feed_X3_partOf : GoodIn wsX3_feed (va_wsS RX3 155 yX3_partOf wsX3_partOf) := goodIn_app (goodIn_of _ (by decide +kernel)) ggX3_feed_X3_partOf
theorem dX3_feed_0 : decode cX3_feed 0 = .ok (.aload_n 0, 1) := by decide +kernel
theorem dX3_feed_1 : decode cX3_feed 1 = .ok (.iload_n 1, 1) := by decide +kernel
theorem dX3_feed_2 : decode cX3_feed 2 = .ok (.invokevirtual 48, 3) := by decide +kernel
theorem dX3_feed_5 : decode cX3_feed 5 = .ok (.iload_n 2, 1) := by decide +kernel
theorem dX3_feed_6 : decode cX3_feed 6 = .ok (.invokestatic 129, 3) := by decide +kernel
theorem dX3_feed_9 : decode cX3_feed 9 = .ok (.aload_n 0, 1) := by decide +kernel
theorem dX3_feed_10 : decode cX3_feed 10 = .ok (.getfield 12, 3) := by decide +kernel
theorem dX3_feed_13 : decode cX3_feed 13 = .ok (.iload_n 1, 1) := by decide +kernel
theorem dX3_feed_14 : decode cX3_feed 14 = .ok (.invokevirtual 57, 3) := by decide +kernel
theorem dX3_feed_17 : decode cX3_feed 17 = .ok (.checkcast 41, 3) := by decide +kernel
theorem dX3_feed_20 : decode cX3_feed 20 = .ok (.getfield 61, 3) := by decide +kernel
theorem dX3_feed_23 : decode cX3_feed 23 = .ok (.ifCond .ne 13, 3) := by decide +kernel
theorem dX3_feed_26 : decode cX3_feed 26 = .ok (.new 34, 3) := by decide +kernel
theorem dX3_feed_29 : decode cX3_feed 29 = .ok (.dup, 1) := by decide +kernel
theorem dX3_feed_30 : decode cX3_feed 30 = .ok (.ldc 166, 2) := by decide +kernel
theorem dX3_feed_32 : decode cX3_feed 32 = .ok (.invokespecial 38, 3) := by decide +kernel
theorem dX3_feed_35 : decode cX3_feed 35 = .ok (.athrow, 1) := by decide +kernel
theorem dX3_feed_36 : decode cX3_feed 36 = .ok (.aload_n 0, 1) := by decide +kernel
theorem dX3_feed_37 : decode cX3_feed 37 = .ok (.iload_n 2, 1) := by decide +kernel
theorem dX3_feed_38 : decode cX3_feed 38 = .ok (.invokevirtual 141, 3) := by decide +kernel
theorem dX3_feed_41 : decode cX3_feed 41 = .ok (.lconst 0, 1) := by decide +kernel
theorem dX3_feed_42 : decode cX3_feed 42 = .ok (.lstore 4, 2) := by decide +kernel
theorem dX3_feed_44 : decode cX3_feed 44 = .ok (.iconst 0, 1) := by decide +kernel
theorem dX3_feed_45 : decode cX3_feed 45 = .ok (.istore 6, 2) := by decide +kernel
theorem dX3_feed_47 : decode cX3_feed 47 = .ok (.iload 6, 2) := by decide +kernel
theorem dX3_feed_49 : decode cX3_feed 49 = .ok (.aload_n 0, 1) := by decide +kernel
theorem dX3_feed_50 : decode cX3_feed 50 = .ok (.getfield 16, 3) := by decide +kernel
theorem dX3_feed_53 : decode cX3_feed 53 = .ok (.invokevirtual 30, 3) := by decide +kernel
theorem dX3_feed_56 : decode cX3_feed 56 = .ok (.if_icmp .ge 44, 3) := by decide +kernel
theorem dX3_feed_59 : decode cX3_feed 59 = .ok (.aload_n 0, 1) := by decide +kernel
theorem dX3_feed_60 : decode cX3_feed 60 = .ok (.getfield 16, 3) := by decide +kernel
theorem dX3_feed_63 : decode cX3_feed 63 = .ok (.iload 6, 2) := by decide +kernel
theorem dX3_feed_65 : decode cX3_feed 65 = .ok (.invokevirtual 57, 3) := by decide +kernel
theorem dX3_feed_68 : decode cX3_feed 68 = .ok (.checkcast 77, 3) := by decide +kernel
theorem dX3_feed_71 : decode cX3_feed 71 = .ok (.astore 7, 2) := by decide +kernel
theorem dX3_feed_73 : decode cX3_feed 73 = .ok (.aload 7, 2) := by decide +kernel
theorem dX3_feed_75 : decode cX3_feed 75 = .ok (.iload_n 2, 1) := by decide +kernel
theorem dX3_feed_76 : decode cX3_feed 76 = .ok (.invokevirtual 132, 3) := by decide +kernel
theorem dX3_feed_79 : decode cX3_feed 79 = .ok (.ifCond .eq 15, 3) := by decide +kernel
theorem dX3_feed_82 : decode cX3_feed 82 = .ok (.lload 4, 2) := by decide +kernel
theorem dX3_feed_84 : decode cX3_feed 84 = .ok (.aload_n 0, 1) := by decide +kernel
theorem dX3_feed_85 : decode cX3_feed 85 = .ok (.aload 7, 2) := by decide +kernel
theorem dX3_feed_87 : decode cX3_feed 87 = .ok (.iload_n 1, 1) := by decide +kernel
theorem dX3_feed_88 : decode cX3_feed 88 = .ok (.invokevirtual 162, 3) := by decide +kernel
theorem dX3_feed_91 : decode cX3_feed 91 = .ok (.ladd, 1) := by decide +kernel
theorem dX3_feed_92 : decode cX3_feed 92 = .ok (.lstore 4, 2) := by decide +kernel
theorem dX3_feed_94 : decode cX3_feed 94 = .ok (.iinc 6 1, 3) := by decide +kernel
theorem dX3_feed_97 : decode cX3_feed 97 = .ok (.goto (-50), 3) := by decide +kernel
theorem dX3_feed_100 : decode cX3_feed 100 = .ok (.lload 4, 2) := by decide +kernel
theorem dX3_feed_102 : decode cX3_feed 102 = .ok (.aload_n 0, 1) := by decide +kernel
theorem dX3_feed_103 : decode cX3_feed 103 = .ok (.getfield 26, 3) := by decide +kernel
theorem dX3_feed_106 : decode cX3_feed 106 = .ok (.invokevirtual 151, 3) := by decide +kernel
theorem dX3_feed_109 : decode cX3_feed 109 = .ok (.iload_n 3, 1) := by decide +kernel
theorem dX3_feed_110 : decode cX3_feed 110 = .ok (.invokestatic 155, 3) := by decide +kernel
theorem dX3_feed_113 : decode cX3_feed 113 = .ok (.lreturn, 1) := by decide +kernel
set_option maxRecDepth 20000 in
theorem ggX3_resistance_X3_checkNode : GoodIn wsX3_resistance wsX3_checkNode := goodIn_ca (goodIn_r _ [9, 10, 11, 12, 13, 14, 15, 16, 17, 18, 142, 143, 144, 145, 146, 147, 148] (by decide +kernel) (by decide +kernel)) (goodIn_sub (fun _ h => List.mem_cons_of_mem _ (List.mem_append_left _ (List.mem_append_right _ h))) (by decide +kernel))
set_option maxRecDepth 20000 in
theorem gX3_resistance_X3_checkNode : GoodIn wsX3_resistance (wsV RX3 48 RX3 yX3_checkNode wsX3_checkNode) := goodIn_app (goodIn_of _ (by decide +kernel)) ggX3_resistance_X3_checkNode
set_option maxRecDepth 20000 in
theorem ggX3_resistance_X3_checkTime : GoodIn wsX3_resistance wsX3_checkTime := goodIn_ca (goodIn_r _ [21, 22, 23] (by decide +kernel) (by decide +kernel)) (goodIn_sub (fun _ h => List.mem_cons_of_mem _ (List.mem_append_right _ h)) (by decide +kernel))
set_option maxRecDepth 20000 in
theorem gX3_resistance_X3_checkTime : GoodIn wsX3_resistance (va_wsS RX3 129 yX3_checkTime wsX3_checkTime) := goodIn_app (goodIn_of _ (by decide +kernel)) ggX3_resistance_X3_checkTime
set_option maxRecDepth 20000 in
theorem ggX3_resistance_X3_group : GoodIn wsX3_resistance wsX3_group := goodIn_r _ [27, 3, 28, 29, 30, 31, 32, 13, 14, 15, 16, 17, 18, 33, 34, 35, 36, 37, 38, 39, 40, 41, 42, 43, 44, 45, 46, 47, 48, 49, 50, 51, 52, 53, 54, 55, 56, 57, 58, 59, 60, 61, 62, 63, 64, 8, 65, 66, 67, 68, 142, 143, 144, 145, 149, 150, 151, 152, 153, 154, 155, 146, 147, 148] (by decide +kernel) (by decide +kernel)
set_option maxRecDepth 20000 in
theorem gX3_resistance_X3_group : GoodIn wsX3_resistance (wsV RX3 135 RX3 yX3_group wsX3_group) := goodIn_app (goodIn_of _ (by decide +kernel)) ggX3_resistance_X3_group
set_option maxRecDepth 20000 in
theorem ggX3_resistance_X3_contains : GoodIn wsX3_resistance wsX3_contains := goodIn_r _ [68] (by decide +kernel) (by decide +kernel)
set_option maxRecDepth 20000 in
theorem gX3_resistance_X3_contains : GoodIn wsX3_resistance (va_wsS RX3 168 yX3_contains wsX3_contains) := goodIn_app (goodIn_of _ (by decide +kernel)) ggX3_resistance_X3_contains
set_option maxRecDepth 20000 in
theorem ggX3_resistance_X3_drive : GoodIn wsX3_resistance wsX3_drive := goodIn_r _ [72, 4, 12, 3, 73, 74, 75, 76, 77, 78, 79, 80, 81, 13, 14, 15, 16, 17, 18, 66, 67, 8, 68, 82, 83, 84, 85, 86, 87, 88, 89, 90, 91, 92, 93, 28, 29, 30, 31, 32, 94, 33, 34, 35, 36, 37, 38, 39, 40, 41, 42, 43, 44, 45, 46, 47, 48, 49, 50, 51, 52, 53, 54, 55, 56, 57, 58, 59, 60, 61, 95, 96, 97, 98, 99, 100, 101, 102, 103, 104, 105, 106, 107, 108, 109, 110, 111, 112, 113, 114, 115, 116, 117, 118, 119, 120, 121, 122, 142, 143, 144, 145, 156, 157, 158, 159, 160, 146, 147, 148, 149, 150, 151, 152, 153, 154, 155] (by decide +kernel) (by decide +kernel)
set_option maxRecDepth 20000 in
theorem gX3_resistance_X3_drive : GoodIn wsX3_resistance (wsV RX3 174 RX3 yX3_drive wsX3_drive) := goodIn_app (goodIn_of _ (by decide +kernel)) ggX3_resistance_X3_drive
set_option maxRecDepth 20000 in
theorem ggX3_resistance_X1_upper : GoodIn wsX3_resistance wsX1_upper := goodIn_r _ [126, 79, 80, 107, 78, 127, 128, 129, 76, 130, 108, 109, 110, 111, 156, 157, 158, 159, 160] (by decide +kernel) (by decide +kernel)
set_option maxRecDepth 20000 in
theorem gX3_resistance_X1_upper : GoodIn wsX3_resistance (wsV RX3 147 RX1 yX1_upper wsX1_upper) := goodIn_app (goodIn_of _ (by decide +kernel)) ggX3_resistance_X1_upper
set_option maxRecDepth 20000 in
theorem ggX3_resistance_X1_lower : GoodIn wsX3_resistance wsX1_lower := goodIn_r _ [130, 107, 78, 108, 109, 110, 76, 111, 156, 157, 158, 159, 160] (by decide +kernel) (by decide +kernel)
set_option maxRecDepth 20000 in
theorem gX3_resistance_X1_lower : GoodIn wsX3_resistance (wsV RX3 151 RX1 yX1_lower wsX1_lower) := goodIn_app (goodIn_of _ (by decide +kernel)) ggX3_resistance_X1_lower
set_option maxRecDepth 20000 in
theorem ggX3_resistance_X3_partOf : GoodIn wsX3_resistance wsX3_partOf := goodIn_r _ [134, 135, 136, 137, 138, 139, 140, 8, 141] (by decide +kernel) (by decide +kernel)
set_option maxRecDepth 20000 in
theorem gX3_resistance_X3_partOf : GoodIn wsX3_resistance (va_wsS RX3 155 yX3_partOf wsX3_partOf) := goodIn_app (goodIn_of _ (by decide +kernel)) ggX3_resistance_X3_partOf
theorem dX3_resistance_0 : decode cX3_resistance 0 = .ok (.aload_n 0, 1) := by decide +kernel
theorem dX3_resistance_1 : decode cX3_resistance 1 = .ok (.iload_n 1, 1) := by decide +kernel
theorem dX3_resistance_2 : decode cX3_resistance 2 = .ok (.invokevirtual 48, 3) := by decide +kernel
theorem dX3_resistance_5 : decode cX3_resistance 5 = .ok (.aload_n 0, 1) := by decide +kernel
theorem dX3_resistance_6 : decode cX3_resistance 6 = .ok (.iload_n 2, 1) := by decide +kernel
theorem dX3_resistance_7 : decode cX3_resistance 7 = .ok (.invokevirtual 48, 3) := by decide +kernel
theorem dX3_resistance_10 : decode cX3_resistance 10 = .ok (.iload_n 3, 1) := by decide +kernel
theorem dX3_resistance_11 : decode cX3_resistance 11 = .ok (.invokestatic 129, 3) := by decide +kernel
theorem dX3_resistance_14 : decode cX3_resistance 14 = .ok (.aload_n 0, 1) := by decide +kernel
theorem dX3_resistance_15 : decode cX3_resistance 15 = .ok (.iload_n 3, 1) := by decide +kernel
theorem dX3_resistance_16 : decode cX3_resistance 16 = .ok (.invokevirtual 135, 3) := by decide +kernel
theorem dX3_resistance_19 : decode cX3_resistance 19 = .ok (.aload_n 0, 1) := by decide +kernel
theorem dX3_resistance_20 : decode cX3_resistance 20 = .ok (.getfield 19, 3) := by decide +kernel
theorem dX3_resistance_23 : decode cX3_resistance 23 = .ok (.iload_n 1, 1) := by decide +kernel
theorem dX3_resistance_24 : decode cX3_resistance 24 = .ok (.iaload, 1) := by decide +kernel
theorem dX3_resistance_25 : decode cX3_resistance 25 = .ok (.iload_n 2, 1) := by decide +kernel
theorem dX3_resistance_26 : decode cX3_resistance 26 = .ok (.invokestatic 168, 3) := by decide +kernel
theorem dX3_resistance_29 : decode cX3_resistance 29 = .ok (.ifCond .ne 13, 3) := by decide +kernel
theorem dX3_resistance_32 : decode cX3_resistance 32 = .ok (.new 34, 3) := by decide +kernel
theorem dX3_resistance_35 : decode cX3_resistance 35 = .ok (.dup, 1) := by decide +kernel
theorem dX3_resistance_36 : decode cX3_resistance 36 = .ok (.ldc 172, 2) := by decide +kernel
theorem dX3_resistance_38 : decode cX3_resistance 38 = .ok (.invokespecial 38, 3) := by decide +kernel
theorem dX3_resistance_41 : decode cX3_resistance 41 = .ok (.athrow, 1) := by decide +kernel
theorem dX3_resistance_42 : decode cX3_resistance 42 = .ok (.aload_n 0, 1) := by decide +kernel
theorem dX3_resistance_43 : decode cX3_resistance 43 = .ok (.iload_n 1, 1) := by decide +kernel
theorem dX3_resistance_44 : decode cX3_resistance 44 = .ok (.iload_n 2, 1) := by decide +kernel
theorem dX3_resistance_45 : decode cX3_resistance 45 = .ok (.iload_n 3, 1) := by decide +kernel
theorem dX3_resistance_46 : decode cX3_resistance 46 = .ok (.invokevirtual 174, 3) := by decide +kernel
theorem dX3_resistance_49 : decode cX3_resistance 49 = .ok (.aload_n 0, 1) := by decide +kernel
theorem dX3_resistance_50 : decode cX3_resistance 50 = .ok (.getfield 26, 3) := by decide +kernel
theorem dX3_resistance_53 : decode cX3_resistance 53 = .ok (.iload_n 1, 1) := by decide +kernel
theorem dX3_resistance_54 : decode cX3_resistance 54 = .ok (.invokevirtual 147, 3) := by decide +kernel
theorem dX3_resistance_57 : decode cX3_resistance 57 = .ok (.aload_n 0, 1) := by decide +kernel
theorem dX3_resistance_58 : decode cX3_resistance 58 = .ok (.getfield 26, 3) := by decide +kernel
theorem dX3_resistance_61 : decode cX3_resistance 61 = .ok (.invokevirtual 151, 3) := by decide +kernel
theorem dX3_resistance_64 : decode cX3_resistance 64 = .ok (.iload 4, 2) := by decide +kernel
theorem dX3_resistance_66 : decode cX3_resistance 66 = .ok (.invokestatic 155, 3) := by decide +kernel
theorem dX3_resistance_69 : decode cX3_resistance 69 = .ok (.lreturn, 1) := by decide +kernel
set_option maxRecDepth 20000 in
theorem ggX3_power_X3_checkTime : GoodIn wsX3_power wsX3_checkTime := goodIn_ca (goodIn_r _ [10, 11, 12] (by decide +kernel) (by decide +kernel)) (goodIn_sub (fun _ h => List.mem_cons_of_mem _ (List.mem_append_right _ h)) (by decide +kernel))
set_option maxRecDepth 20000 in
theorem gX3_power_X3_checkTime : GoodIn wsX3_power (va_wsS RX3 129 yX3_checkTime wsX3_checkTime) := goodIn_app (goodIn_of _ (by decide +kernel)) ggX3_power_X3_checkTime
set_option maxRecDepth 20000 in
theorem ggX3_power_X3_settle : GoodIn wsX3_power wsX3_settle := goodIn_r _ [16, 17, 18, 19, 20, 21, 1, 2, 3, 4, 6, 5, 22, 23, 24, 9, 25, 26, 27, 28, 29, 30, 31, 32, 33, 34, 35, 36, 37, 38, 39, 40, 41, 42, 43, 44, 45, 46, 47, 48, 49, 50, 51, 52, 53, 54, 55, 56, 57, 58, 59, 60, 61, 62, 63, 64, 65, 66, 67, 68, 69, 70, 71, 72, 73, 74, 75, 76, 77, 78, 79, 80, 81, 82, 83, 84, 85, 86, 87, 88, 89, 90, 91, 92, 93, 94, 95, 96, 97, 98, 99, 100, 101, 102, 103, 104, 105, 106, 107, 108, 109, 110, 111, 112, 113, 114, 115, 116, 117, 118, 119, 120, 121, 122, 123, 124, 125, 149, 150, 151, 152, 160, 161, 153, 154, 155, 156, 157, 158, 159, 162, 163, 164, 165, 166, 167, 168, 169] (by decide +kernel) (by decide +kernel)
set_option maxRecDepth 20000 in
theorem gX3_power_X3_settle : GoodIn wsX3_power (wsV RX3 141 RX3 yX3_settle wsX3_settle) := goodIn_app (goodIn_of _ (by decide +kernel)) ggX3_power_X3_settle
set_option maxRecDepth 20000 in
theorem ggX3_power_Jx4a65c_size_8abf5 : GoodIn wsX3_power wsJx4a65c_size_8abf5 := goodIn_r _ [31, 32, 162, 163, 164] (by decide +kernel) (by decide +kernel)
set_option maxRecDepth 20000 in
theorem gX3_power_Jx4a65c_size_8abf5 : GoodIn wsX3_power (wsV RX3 30 RJx4a65c yJx4a65c_size_8abf5 wsJx4a65c_size_8abf5) := goodIn_app (goodIn_of _ (by decide +kernel)) ggX3_power_Jx4a65c_size_8abf5
set_option maxRecDepth 20000 in
theorem ggX3_power_Jx4a65c_get_915e3 : GoodIn wsX3_power wsJx4a65c_get_915e3 := goodIn_r _ [36, 32, 37, 38, 39, 40, 41, 42, 43, 44, 45, 46, 47, 30, 48, 49, 162, 163, 164] (by decide +kernel) (by decide +kernel)
set_option maxRecDepth 20000 in
theorem gX3_power_Jx4a65c_get_915e3 : GoodIn wsX3_power (wsV RX3 57 RJx4a65c yJx4a65c_get_915e3 wsJx4a65c_get_915e3) := goodIn_app (goodIn_of _ (by decide +kernel)) ggX3_power_Jx4a65c_get_915e3
set_option maxRecDepth 20000 in
theorem ggX3_power_X0_runsAt : GoodIn wsX3_power wsX0_runsAt := goodIn_r _ [54, 55, 56, 57, 58, 53, 59, 60, 61, 153, 154, 155, 156, 157, 158, 159] (by decide +kernel) (by decide +kernel)
set_option maxRecDepth 20000 in
theorem gX3_power_X0_runsAt : GoodIn wsX3_power (wsV RX3 132 RX0 yX0_runsAt wsX0_runsAt) := goodIn_app (goodIn_of _ (by decide +kernel)) ggX3_power_X0_runsAt
set_option maxRecDepth 20000 in
theorem ggX3_power_X3_isAfloat : GoodIn wsX3_power wsX3_isAfloat := goodIn_r _ [85, 18, 19, 20, 26, 27, 28, 29, 30, 31, 32, 33, 34, 35, 36, 37, 38, 39, 40, 41, 42, 43, 44, 45, 46, 47, 48, 49, 66, 67, 9, 68, 149, 150, 151, 152, 160, 161, 162, 163, 164] (by decide +kernel) (by decide +kernel)
set_option maxRecDepth 20000 in
theorem gX3_power_X3_isAfloat : GoodIn wsX3_power (wsV RX3 138 RX3 yX3_isAfloat wsX3_isAfloat) := goodIn_app (goodIn_of _ (by decide +kernel)) ggX3_power_X3_isAfloat
set_option maxRecDepth 20000 in
theorem ggX3_power_X3_quotientAt : GoodIn wsX3_power wsX3_quotientAt := goodIn_r _ [129, 17, 130, 131, 132, 72, 133, 75, 76, 110, 74, 134, 135, 136, 137, 111, 112, 113, 114, 138, 139, 140, 9, 141, 142, 143, 144, 145, 146, 147, 148, 149, 150, 151, 152, 165, 166, 167, 168, 169] (by decide +kernel) (by decide +kernel)
set_option maxRecDepth 20000 in
theorem gX3_power_X3_quotientAt : GoodIn wsX3_power (wsV RX3 178 RX3 yX3_quotientAt wsX3_quotientAt) := goodIn_app (goodIn_of _ (by decide +kernel)) ggX3_power_X3_quotientAt
theorem dX3_power_0 : decode cX3_power 0 = .ok (.iload_n 1, 1) := by decide +kernel
theorem dX3_power_1 : decode cX3_power 1 = .ok (.invokestatic 129, 3) := by decide +kernel
theorem dX3_power_4 : decode cX3_power 4 = .ok (.aload_n 0, 1) := by decide +kernel
theorem dX3_power_5 : decode cX3_power 5 = .ok (.iload_n 1, 1) := by decide +kernel
theorem dX3_power_6 : decode cX3_power 6 = .ok (.invokevirtual 141, 3) := by decide +kernel
theorem dX3_power_9 : decode cX3_power 9 = .ok (.dconst 0, 1) := by decide +kernel
theorem dX3_power_10 : decode cX3_power 10 = .ok (.dstore_n 2, 1) := by decide +kernel
theorem dX3_power_11 : decode cX3_power 11 = .ok (.iconst 0, 1) := by decide +kernel
theorem dX3_power_12 : decode cX3_power 12 = .ok (.istore 4, 2) := by decide +kernel
theorem dX3_power_14 : decode cX3_power 14 = .ok (.iload 4, 2) := by decide +kernel
theorem dX3_power_16 : decode cX3_power 16 = .ok (.aload_n 0, 1) := by decide +kernel
theorem dX3_power_17 : decode cX3_power 17 = .ok (.getfield 16, 3) := by decide +kernel
theorem dX3_power_20 : decode cX3_power 20 = .ok (.invokevirtual 30, 3) := by decide +kernel
theorem dX3_power_23 : decode cX3_power 23 = .ok (.if_icmp .ge 88, 3) := by decide +kernel
theorem dX3_power_26 : decode cX3_power 26 = .ok (.aload_n 0, 1) := by decide +kernel
theorem dX3_power_27 : decode cX3_power 27 = .ok (.getfield 16, 3) := by decide +kernel
theorem dX3_power_30 : decode cX3_power 30 = .ok (.iload 4, 2) := by decide +kernel
theorem dX3_power_32 : decode cX3_power 32 = .ok (.invokevirtual 57, 3) := by decide +kernel
theorem dX3_power_35 : decode cX3_power 35 = .ok (.checkcast 77, 3) := by decide +kernel
theorem dX3_power_38 : decode cX3_power 38 = .ok (.astore 5, 2) := by decide +kernel
theorem dX3_power_40 : decode cX3_power 40 = .ok (.aload 5, 2) := by decide +kernel
theorem dX3_power_42 : decode cX3_power 42 = .ok (.getfield 85, 3) := by decide +kernel
theorem dX3_power_45 : decode cX3_power 45 = .ok (.ifCond .ne 60, 3) := by decide +kernel
theorem dX3_power_48 : decode cX3_power 48 = .ok (.aload 5, 2) := by decide +kernel
theorem dX3_power_50 : decode cX3_power 50 = .ok (.iload_n 1, 1) := by decide +kernel
theorem dX3_power_51 : decode cX3_power 51 = .ok (.invokevirtual 132, 3) := by decide +kernel
theorem dX3_power_54 : decode cX3_power 54 = .ok (.ifCond .eq 51, 3) := by decide +kernel
theorem dX3_power_57 : decode cX3_power 57 = .ok (.aload_n 0, 1) := by decide +kernel
theorem dX3_power_58 : decode cX3_power 58 = .ok (.aload 5, 2) := by decide +kernel
theorem dX3_power_60 : decode cX3_power 60 = .ok (.getfield 159, 3) := by decide +kernel
theorem dX3_power_63 : decode cX3_power 63 = .ok (.invokevirtual 138, 3) := by decide +kernel
theorem dX3_power_66 : decode cX3_power 66 = .ok (.ifCond .ne 39, 3) := by decide +kernel
theorem dX3_power_69 : decode cX3_power 69 = .ok (.aload_n 0, 1) := by decide +kernel
theorem dX3_power_70 : decode cX3_power 70 = .ok (.aload 5, 2) := by decide +kernel
theorem dX3_power_72 : decode cX3_power 72 = .ok (.getfield 159, 3) := by decide +kernel
theorem dX3_power_75 : decode cX3_power 75 = .ok (.invokevirtual 178, 3) := by decide +kernel
theorem dX3_power_78 : decode cX3_power 78 = .ok (.aload_n 0, 1) := by decide +kernel
theorem dX3_power_79 : decode cX3_power 79 = .ok (.aload 5, 2) := by decide +kernel
theorem dX3_power_81 : decode cX3_power 81 = .ok (.getfield 182, 3) := by decide +kernel
theorem dX3_power_84 : decode cX3_power 84 = .ok (.invokevirtual 178, 3) := by decide +kernel
theorem dX3_power_87 : decode cX3_power 87 = .ok (.dsub, 1) := by decide +kernel
theorem dX3_power_88 : decode cX3_power 88 = .ok (.dstore 6, 2) := by decide +kernel
theorem dX3_power_90 : decode cX3_power 90 = .ok (.dload_n 2, 1) := by decide +kernel
theorem dX3_power_91 : decode cX3_power 91 = .ok (.aload 5, 2) := by decide +kernel
theorem dX3_power_93 : decode cX3_power 93 = .ok (.getfield 88, 3) := by decide +kernel
theorem dX3_power_96 : decode cX3_power 96 = .ok (.i2d, 1) := by decide +kernel
theorem dX3_power_97 : decode cX3_power 97 = .ok (.dload 6, 2) := by decide +kernel
theorem dX3_power_99 : decode cX3_power 99 = .ok (.dmul, 1) := by decide +kernel
theorem dX3_power_100 : decode cX3_power 100 = .ok (.dload 6, 2) := by decide +kernel
theorem dX3_power_102 : decode cX3_power 102 = .ok (.dmul, 1) := by decide +kernel
theorem dX3_power_103 : decode cX3_power 103 = .ok (.dadd, 1) := by decide +kernel
theorem dX3_power_104 : decode cX3_power 104 = .ok (.dstore_n 2, 1) := by decide +kernel
theorem dX3_power_105 : decode cX3_power 105 = .ok (.iinc 4 1, 3) := by decide +kernel
theorem dX3_power_108 : decode cX3_power 108 = .ok (.goto (-94), 3) := by decide +kernel
theorem dX3_power_111 : decode cX3_power 111 = .ok (.dload_n 2, 1) := by decide +kernel
theorem dX3_power_112 : decode cX3_power 112 = .ok (.dreturn, 1) := by decide +kernel
set_option maxRecDepth 20000 in
theorem ggX3_nextToggle_X3_checkTime : GoodIn wsX3_nextToggle wsX3_checkTime := goodIn_ca (goodIn_r _ [4, 5, 6] (by decide +kernel) (by decide +kernel)) (goodIn_sub (fun _ h => List.mem_cons_of_mem _ (List.mem_append_right _ h)) (by decide +kernel))
set_option maxRecDepth 20000 in
theorem gX3_nextToggle_X3_checkTime : GoodIn wsX3_nextToggle (va_wsS RX3 129 yX3_checkTime wsX3_checkTime) := goodIn_app (goodIn_of _ (by decide +kernel)) ggX3_nextToggle_X3_checkTime
set_option maxRecDepth 20000 in
theorem ggX3_nextToggle_X3_firstToggleBehind : GoodIn wsX3_nextToggle wsX3_firstToggleBehind := goodIn_r _ [10, 11, 12, 13, 14, 15, 16, 17, 18, 19, 20, 21, 22, 23, 24, 25, 26, 27, 28, 29, 30, 31, 32, 33, 34, 35, 36, 37, 38, 39, 40, 41, 42, 43, 44, 45, 46, 47, 48, 49, 50, 51, 52, 53, 54, 55, 56, 57, 58, 59, 60, 61, 62, 63, 64] (by decide +kernel) (by decide +kernel)
set_option maxRecDepth 20000 in
theorem gX3_nextToggle_X3_firstToggleBehind : GoodIn wsX3_nextToggle (wsV RX3 185 RX3 yX3_firstToggleBehind wsX3_firstToggleBehind) := goodIn_app (goodIn_of _ (by decide +kernel)) ggX3_nextToggle_X3_firstToggleBehind
theorem dX3_nextToggle_0 : decode cX3_nextToggle 0 = .ok (.iload_n 1, 1) := by decide +kernel
theorem dX3_nextToggle_1 : decode cX3_nextToggle 1 = .ok (.invokestatic 129, 3) := by decide +kernel
theorem dX3_nextToggle_4 : decode cX3_nextToggle 4 = .ok (.aload_n 0, 1) := by decide +kernel
theorem dX3_nextToggle_5 : decode cX3_nextToggle 5 = .ok (.iload_n 1, 1) := by decide +kernel
theorem dX3_nextToggle_6 : decode cX3_nextToggle 6 = .ok (.invokevirtual 185, 3) := by decide +kernel
theorem dX3_nextToggle_9 : decode cX3_nextToggle 9 = .ok (.ireturn, 1) := by decide +kernel
set_option maxRecDepth 20000 in
theorem ggX3_probe_X3_checkNode : GoodIn wsX3_probe wsX3_checkNode := goodIn_ca (goodIn_r _ [8, 9, 10, 11, 12, 13, 14, 15, 16, 17, 167, 168, 169, 170, 171, 172, 173] (by decide +kernel) (by decide +kernel)) (goodIn_sub (fun _ h => List.mem_cons_of_mem _ (List.mem_append_right _ h)) (by decide +kernel))
set_option maxRecDepth 20000 in
theorem gX3_probe_X3_checkNode : GoodIn wsX3_probe (wsV RX3 48 RX3 yX3_checkNode wsX3_checkNode) := goodIn_app (goodIn_of _ (by decide +kernel)) ggX3_probe_X3_checkNode
set_option maxRecDepth 20000 in
theorem ggX3_probe_X3_checkTime : GoodIn wsX3_probe wsX3_checkTime := goodIn_ca (goodIn_r _ [20, 1, 2] (by decide +kernel) (by decide +kernel)) (goodIn_sub (fun _ h => List.mem_cons_of_mem _ (List.mem_append_left _ (List.mem_append_right _ h))) (by decide +kernel))
set_option maxRecDepth 20000 in
theorem gX3_probe_X3_checkTime : GoodIn wsX3_probe (va_wsS RX3 129 yX3_checkTime wsX3_checkTime) := goodIn_app (goodIn_of _ (by decide +kernel)) ggX3_probe_X3_checkTime
set_option maxRecDepth 20000 in
theorem ggX3_probe_X3_settle : GoodIn wsX3_probe wsX3_settle := goodIn_r _ [24, 3, 11, 25, 26, 27, 28, 29, 30, 31, 32, 33, 34, 35, 36, 7, 37, 38, 12, 13, 14, 15, 16, 17, 39, 40, 41, 42, 43, 44, 45, 46, 47, 48, 49, 50, 51, 52, 53, 54, 55, 56, 57, 58, 59, 60, 61, 62, 63, 64, 65, 66, 67, 68, 69, 70, 71, 72, 73, 74, 75, 76, 77, 78, 79, 80, 81, 82, 83, 84, 85, 86, 87, 88, 89, 90, 91, 92, 93, 94, 95, 96, 97, 98, 99, 100, 101, 102, 103, 104, 105, 106, 107, 108, 109, 110, 111, 112, 113, 114, 115, 116, 117, 118, 119, 120, 121, 122, 123, 124, 125, 126, 127, 128, 129, 130, 131, 167, 168, 169, 170, 174, 175, 176, 177, 178, 179, 180, 181, 182, 171, 172, 173, 183, 184, 185, 186, 187] (by decide +kernel) (by decide +kernel)
set_option maxRecDepth 20000 in
theorem gX3_probe_X3_settle : GoodIn wsX3_probe (wsV RX3 141 RX3 yX3_settle wsX3_settle) := goodIn_app (goodIn_of _ (by decide +kernel)) ggX3_probe_X3_settle
set_option maxRecDepth 20000 in
theorem ggX3_probe_X3_isAfloat : GoodIn wsX3_probe wsX3_isAfloat := goodIn_r _ [91, 11, 25, 26, 38, 12, 13, 14, 15, 16, 17, 39, 40, 41, 42, 43, 44, 45, 46, 47, 48, 49, 50, 51, 52, 53, 54, 55, 72, 73, 7, 74, 167, 168, 169, 170, 174, 175, 171, 172, 173] (by decide +kernel) (by decide +kernel)
set_option maxRecDepth 20000 in
theorem gX3_probe_X3_isAfloat : GoodIn wsX3_probe (wsV RX3 138 RX3 yX3_isAfloat wsX3_isAfloat) := goodIn_app (goodIn_of _ (by decide +kernel)) ggX3_probe_X3_isAfloat
set_option maxRecDepth 20000 in
theorem ggX3_probe_X1_upper : GoodIn wsX3_probe wsX1_upper := goodIn_r _ [135, 81, 82, 116, 80, 136, 137, 138, 78, 139, 117, 118, 119, 120, 183, 184, 185, 186, 187] (by decide +kernel) (by decide +kernel)
set_option maxRecDepth 20000 in
theorem gX3_probe_X1_upper : GoodIn wsX3_probe (wsV RX3 147 RX1 yX1_upper wsX1_upper) := goodIn_app (goodIn_of _ (by decide +kernel)) ggX3_probe_X1_upper
set_option maxRecDepth 20000 in
theorem ggX3_probe_X1_lower : GoodIn wsX3_probe wsX1_lower := goodIn_r _ [139, 116, 80, 117, 118, 119, 78, 120, 183, 184, 185, 186, 187] (by decide +kernel) (by decide +kernel)
set_option maxRecDepth 20000 in
theorem gX3_probe_X1_lower : GoodIn wsX3_probe (wsV RX3 151 RX1 yX1_lower wsX1_lower) := goodIn_app (goodIn_of _ (by decide +kernel)) ggX3_probe_X1_lower
set_option maxRecDepth 20000 in
theorem ggX3_probe_X3_compareFractions : GoodIn wsX3_probe wsX3_compareFractions := goodIn_r _ [143, 144, 145, 146, 147, 148, 149, 150, 151, 152, 153, 154] (by decide +kernel) (by decide +kernel)
set_option maxRecDepth 20000 in
theorem gX3_probe_X3_compareFractions : GoodIn wsX3_probe (va_wsS RX3 190 yX3_compareFractions wsX3_compareFractions) := goodIn_app (goodIn_of _ (by decide +kernel)) ggX3_probe_X3_compareFractions
set_option maxRecDepth 20000 in
theorem ggX3_probe_X3_firstToggleBehind : GoodIn wsX3_probe wsX3_firstToggleBehind := goodIn_r _ [158, 28, 29, 12, 13, 14, 15, 16, 17, 39, 40, 41, 42, 43, 44, 45, 46, 47, 48, 49, 50, 51, 52, 53, 54, 55, 159, 160, 161, 59, 162, 62, 63, 64, 65, 66, 67, 163, 164, 165, 166, 167, 168, 169, 170, 171, 172, 173, 176, 177, 178, 179, 180, 181, 182] (by decide +kernel) (by decide +kernel)
set_option maxRecDepth 20000 in
theorem gX3_probe_X3_firstToggleBehind : GoodIn wsX3_probe (wsV RX3 185 RX3 yX3_firstToggleBehind wsX3_firstToggleBehind) := goodIn_app (goodIn_of _ (by decide +kernel)) ggX3_probe_X3_firstToggleBehind
theorem dX3_probe_0 : decode cX3_probe 0 = .ok (.aload_n 0, 1) := by decide +kernel
theorem dX3_probe_1 : decode cX3_probe 1 = .ok (.iload_n 1, 1) := by decide +kernel
theorem dX3_probe_2 : decode cX3_probe 2 = .ok (.invokevirtual 48, 3) := by decide +kernel
theorem dX3_probe_5 : decode cX3_probe 5 = .ok (.iload_n 2, 1) := by decide +kernel
theorem dX3_probe_6 : decode cX3_probe 6 = .ok (.invokestatic 129, 3) := by decide +kernel
theorem dX3_probe_9 : decode cX3_probe 9 = .ok (.iload_n 3, 1) := by decide +kernel
theorem dX3_probe_10 : decode cX3_probe 10 = .ok (.invokestatic 129, 3) := by decide +kernel
theorem dX3_probe_13 : decode cX3_probe 13 = .ok (.iload_n 3, 1) := by decide +kernel
theorem dX3_probe_14 : decode cX3_probe 14 = .ok (.iload_n 2, 1) := by decide +kernel
theorem dX3_probe_15 : decode cX3_probe 15 = .ok (.if_icmp .ge 13, 3) := by decide +kernel
theorem dX3_probe_18 : decode cX3_probe 18 = .ok (.new 52, 3) := by decide +kernel
theorem dX3_probe_21 : decode cX3_probe 21 = .ok (.dup, 1) := by decide +kernel
theorem dX3_probe_22 : decode cX3_probe 22 = .ok (.ldc 188, 2) := by decide +kernel
theorem dX3_probe_24 : decode cX3_probe 24 = .ok (.invokespecial 56, 3) := by decide +kernel
theorem dX3_probe_27 : decode cX3_probe 27 = .ok (.athrow, 1) := by decide +kernel
theorem dX3_probe_28 : decode cX3_probe 28 = .ok (.iconst (-1), 1) := by decide +kernel
theorem dX3_probe_29 : decode cX3_probe 29 = .ok (.istore 5, 2) := by decide +kernel
theorem dX3_probe_31 : decode cX3_probe 31 = .ok (.lconst 0, 1) := by decide +kernel
theorem dX3_probe_32 : decode cX3_probe 32 = .ok (.lstore 6, 2) := by decide +kernel
theorem dX3_probe_34 : decode cX3_probe 34 = .ok (.lconst 1, 1) := by decide +kernel
theorem dX3_probe_35 : decode cX3_probe 35 = .ok (.lstore 8, 2) := by decide +kernel
theorem dX3_probe_37 : decode cX3_probe 37 = .ok (.iload_n 2, 1) := by decide +kernel
theorem dX3_probe_38 : decode cX3_probe 38 = .ok (.istore 10, 2) := by decide +kernel
theorem dX3_probe_40 : decode cX3_probe 40 = .ok (.iconst 0, 1) := by decide +kernel
theorem dX3_probe_41 : decode cX3_probe 41 = .ok (.istore 11, 2) := by decide +kernel
theorem dX3_probe_43 : decode cX3_probe 43 = .ok (.iload 11, 2) := by decide +kernel
theorem dX3_probe_45 : decode cX3_probe 45 = .ok (.sipush 999, 3) := by decide +kernel
theorem dX3_probe_48 : decode cX3_probe 48 = .ok (.if_icmp .gt 109, 3) := by decide +kernel
theorem dX3_probe_51 : decode cX3_probe 51 = .ok (.iload 10, 2) := by decide +kernel
theorem dX3_probe_53 : decode cX3_probe 53 = .ok (.ifCond .lt 104, 3) := by decide +kernel
theorem dX3_probe_56 : decode cX3_probe 56 = .ok (.iload 10, 2) := by decide +kernel
theorem dX3_probe_58 : decode cX3_probe 58 = .ok (.iload_n 3, 1) := by decide +kernel
theorem dX3_probe_59 : decode cX3_probe 59 = .ok (.if_icmp .gt 98, 3) := by decide +kernel
theorem dX3_probe_62 : decode cX3_probe 62 = .ok (.aload_n 0, 1) := by decide +kernel
theorem dX3_probe_63 : decode cX3_probe 63 = .ok (.iload 10, 2) := by decide +kernel
theorem dX3_probe_65 : decode cX3_probe 65 = .ok (.invokevirtual 141, 3) := by decide +kernel
theorem dX3_probe_68 : decode cX3_probe 68 = .ok (.aload_n 0, 1) := by decide +kernel
theorem dX3_probe_69 : decode cX3_probe 69 = .ok (.iload_n 1, 1) := by decide +kernel
theorem dX3_probe_70 : decode cX3_probe 70 = .ok (.invokevirtual 138, 3) := by decide +kernel
theorem dX3_probe_73 : decode cX3_probe 73 = .ok (.ifCond .ne 70, 3) := by decide +kernel
theorem dX3_probe_76 : decode cX3_probe 76 = .ok (.aload_n 0, 1) := by decide +kernel
theorem dX3_probe_77 : decode cX3_probe 77 = .ok (.getfield 26, 3) := by decide +kernel
theorem dX3_probe_80 : decode cX3_probe 80 = .ok (.iload_n 1, 1) := by decide +kernel
theorem dX3_probe_81 : decode cX3_probe 81 = .ok (.invokevirtual 147, 3) := by decide +kernel
theorem dX3_probe_84 : decode cX3_probe 84 = .ok (.lstore 12, 2) := by decide +kernel
theorem dX3_probe_86 : decode cX3_probe 86 = .ok (.aload_n 0, 1) := by decide +kernel
theorem dX3_probe_87 : decode cX3_probe 87 = .ok (.getfield 26, 3) := by decide +kernel
theorem dX3_probe_90 : decode cX3_probe 90 = .ok (.invokevirtual 151, 3) := by decide +kernel
theorem dX3_probe_93 : decode cX3_probe 93 = .ok (.lstore 14, 2) := by decide +kernel
theorem dX3_probe_95 : decode cX3_probe 95 = .ok (.lload 12, 2) := by decide +kernel
theorem dX3_probe_97 : decode cX3_probe 97 = .ok (.lload 14, 2) := by decide +kernel
theorem dX3_probe_99 : decode cX3_probe 99 = .ok (.lload 6, 2) := by decide +kernel
theorem dX3_probe_101 : decode cX3_probe 101 = .ok (.lload 8, 2) := by decide +kernel
theorem dX3_probe_103 : decode cX3_probe 103 = .ok (.invokestatic 190, 3) := by decide +kernel
theorem dX3_probe_106 : decode cX3_probe 106 = .ok (.istore 16, 2) := by decide +kernel
theorem dX3_probe_108 : decode cX3_probe 108 = .ok (.iload 5, 2) := by decide +kernel
theorem dX3_probe_110 : decode cX3_probe 110 = .ok (.ifCond .lt 21, 3) := by decide +kernel
theorem dX3_probe_113 : decode cX3_probe 113 = .ok (.iload 4, 2) := by decide +kernel
theorem dX3_probe_115 : decode cX3_probe 115 = .ok (.ifCond .eq 11, 3) := by decide +kernel
theorem dX3_probe_118 : decode cX3_probe 118 = .ok (.iload 16, 2) := by decide +kernel
theorem dX3_probe_120 : decode cX3_probe 120 = .ok (.ifCond .le 23, 3) := by decide +kernel
theorem dX3_probe_123 : decode cX3_probe 123 = .ok (.goto 8, 3) := by decide +kernel
theorem dX3_probe_126 : decode cX3_probe 126 = .ok (.iload 16, 2) := by decide +kernel
theorem dX3_probe_128 : decode cX3_probe 128 = .ok (.ifCond .ge 15, 3) := by decide +kernel
theorem dX3_probe_131 : decode cX3_probe 131 = .ok (.iload 10, 2) := by decide +kernel
theorem dX3_probe_133 : decode cX3_probe 133 = .ok (.istore 5, 2) := by decide +kernel
theorem dX3_probe_135 : decode cX3_probe 135 = .ok (.lload 12, 2) := by decide +kernel
theorem dX3_probe_137 : decode cX3_probe 137 = .ok (.lstore 6, 2) := by decide +kernel
theorem dX3_probe_139 : decode cX3_probe 139 = .ok (.lload 14, 2) := by decide +kernel
theorem dX3_probe_141 : decode cX3_probe 141 = .ok (.lstore 8, 2) := by decide +kernel
theorem dX3_probe_143 : decode cX3_probe 143 = .ok (.aload_n 0, 1) := by decide +kernel
theorem dX3_probe_144 : decode cX3_probe 144 = .ok (.iload 10, 2) := by decide +kernel
theorem dX3_probe_146 : decode cX3_probe 146 = .ok (.invokevirtual 185, 3) := by decide +kernel
theorem dX3_probe_149 : decode cX3_probe 149 = .ok (.istore 10, 2) := by decide +kernel
theorem dX3_probe_151 : decode cX3_probe 151 = .ok (.iinc 11 1, 3) := by decide +kernel
theorem dX3_probe_154 : decode cX3_probe 154 = .ok (.goto (-111), 3) := by decide +kernel
theorem dX3_probe_157 : decode cX3_probe 157 = .ok (.iload 5, 2) := by decide +kernel
theorem dX3_probe_159 : decode cX3_probe 159 = .ok (.ireturn, 1) := by decide +kernel
set_option maxRecDepth 20000 in
theorem ggX3_compare_X3_checkNode : GoodIn wsX3_compare wsX3_checkNode := goodIn_ca (goodIn_r _ [8, 9, 10, 11, 12, 13, 14, 15, 16, 17, 161, 162, 163, 164, 165, 166, 167] (by decide +kernel) (by decide +kernel)) (goodIn_sub (fun _ h => List.mem_cons_of_mem _ (List.mem_append_left _ (List.mem_append_right _ h))) (by decide +kernel))
set_option maxRecDepth 20000 in
theorem gX3_compare_X3_checkNode : GoodIn wsX3_compare (wsV RX3 48 RX3 yX3_checkNode wsX3_checkNode) := goodIn_app (goodIn_of _ (by decide +kernel)) ggX3_compare_X3_checkNode
set_option maxRecDepth 20000 in
theorem ggX3_compare_X3_checkTime : GoodIn wsX3_compare wsX3_checkTime := goodIn_ca (goodIn_r _ [20, 1, 2] (by decide +kernel) (by decide +kernel)) (goodIn_sub (fun _ h => List.mem_cons_of_mem _ (List.mem_append_left _ (List.mem_append_left _ (List.mem_append_right _ h)))) (by decide +kernel))
set_option maxRecDepth 20000 in
theorem gX3_compare_X3_checkTime : GoodIn wsX3_compare (va_wsS RX3 129 yX3_checkTime wsX3_checkTime) := goodIn_app (goodIn_of _ (by decide +kernel)) ggX3_compare_X3_checkTime
set_option maxRecDepth 20000 in
theorem ggX3_compare_X3_settle : GoodIn wsX3_compare wsX3_settle := goodIn_r _ [24, 3, 11, 25, 26, 27, 28, 29, 30, 31, 32, 33, 34, 35, 36, 7, 37, 38, 12, 13, 14, 15, 16, 17, 39, 40, 41, 42, 43, 44, 45, 46, 47, 48, 49, 50, 51, 52, 53, 54, 55, 56, 57, 58, 59, 60, 61, 62, 63, 64, 65, 66, 67, 68, 69, 70, 71, 72, 73, 74, 75, 76, 77, 78, 79, 80, 81, 82, 83, 84, 85, 86, 87, 88, 89, 90, 91, 92, 93, 94, 95, 96, 97, 98, 99, 100, 101, 102, 103, 104, 105, 106, 107, 108, 109, 110, 111, 112, 113, 114, 115, 116, 117, 118, 119, 120, 121, 122, 123, 124, 125, 126, 127, 128, 129, 130, 131, 161, 162, 163, 164, 168, 169, 170, 171, 172, 173, 174, 175, 176, 165, 166, 167, 177, 178, 179, 180, 181] (by decide +kernel) (by decide +kernel)
set_option maxRecDepth 20000 in
theorem gX3_compare_X3_settle : GoodIn wsX3_compare (wsV RX3 141 RX3 yX3_settle wsX3_settle) := goodIn_app (goodIn_of _ (by decide +kernel)) ggX3_compare_X3_settle
set_option maxRecDepth 20000 in
theorem ggX3_compare_X3_checkGrounded : GoodIn wsX3_compare wsX3_checkGrounded := goodIn_ca (goodIn_r _ [135, 136, 137, 88, 89, 90, 7, 91, 11, 25, 26, 38, 12, 13, 14, 15, 16, 17, 39, 40, 41, 42, 43, 44, 45, 46, 47, 48, 49, 50, 51, 52, 53, 54, 55, 72, 73, 74, 161, 162, 163, 164, 168, 169, 165, 166, 167] (by decide +kernel) (by decide +kernel)) (goodIn_sub (fun _ h => List.mem_cons_of_mem _ (List.mem_append_right _ h)) (by decide +kernel))
set_option maxRecDepth 20000 in
theorem gX3_compare_X3_checkGrounded : GoodIn wsX3_compare (wsV RX3 144 RX3 yX3_checkGrounded wsX3_checkGrounded) := goodIn_app (goodIn_of _ (by decide +kernel)) ggX3_compare_X3_checkGrounded
set_option maxRecDepth 20000 in
theorem ggX3_compare_X1_upper : GoodIn wsX3_compare wsX1_upper := goodIn_r _ [141, 81, 82, 116, 80, 142, 143, 144, 78, 145, 117, 118, 119, 120, 177, 178, 179, 180, 181] (by decide +kernel) (by decide +kernel)
set_option maxRecDepth 20000 in
theorem gX3_compare_X1_upper : GoodIn wsX3_compare (wsV RX3 147 RX1 yX1_upper wsX1_upper) := goodIn_app (goodIn_of _ (by decide +kernel)) ggX3_compare_X1_upper
set_option maxRecDepth 20000 in
theorem ggX3_compare_X1_lower : GoodIn wsX3_compare wsX1_lower := goodIn_r _ [145, 116, 80, 117, 118, 119, 78, 120, 177, 178, 179, 180, 181] (by decide +kernel) (by decide +kernel)
set_option maxRecDepth 20000 in
theorem gX3_compare_X1_lower : GoodIn wsX3_compare (wsV RX3 151 RX1 yX1_lower wsX1_lower) := goodIn_app (goodIn_of _ (by decide +kernel)) ggX3_compare_X1_lower
set_option maxRecDepth 20000 in
theorem ggX3_compare_X3_compareFractions : GoodIn wsX3_compare wsX3_compareFractions := goodIn_r _ [149, 150, 151, 152, 153, 154, 155, 156, 157, 158, 159, 160] (by decide +kernel) (by decide +kernel)
set_option maxRecDepth 20000 in
theorem gX3_compare_X3_compareFractions : GoodIn wsX3_compare (va_wsS RX3 190 yX3_compareFractions wsX3_compareFractions) := goodIn_app (goodIn_of _ (by decide +kernel)) ggX3_compare_X3_compareFractions
theorem dX3_compare_0 : decode cX3_compare 0 = .ok (.aload_n 0, 1) := by decide +kernel
theorem dX3_compare_1 : decode cX3_compare 1 = .ok (.iload_n 1, 1) := by decide +kernel
theorem dX3_compare_2 : decode cX3_compare 2 = .ok (.invokevirtual 48, 3) := by decide +kernel
theorem dX3_compare_5 : decode cX3_compare 5 = .ok (.iload_n 2, 1) := by decide +kernel
theorem dX3_compare_6 : decode cX3_compare 6 = .ok (.invokestatic 129, 3) := by decide +kernel
theorem dX3_compare_9 : decode cX3_compare 9 = .ok (.iload_n 3, 1) := by decide +kernel
theorem dX3_compare_10 : decode cX3_compare 10 = .ok (.sipush (-500), 3) := by decide +kernel
theorem dX3_compare_13 : decode cX3_compare 13 = .ok (.if_icmp .lt 24, 3) := by decide +kernel
theorem dX3_compare_16 : decode cX3_compare 16 = .ok (.iload_n 3, 1) := by decide +kernel
theorem dX3_compare_17 : decode cX3_compare 17 = .ok (.sipush 500, 3) := by decide +kernel
theorem dX3_compare_20 : decode cX3_compare 20 = .ok (.if_icmp .gt 17, 3) := by decide +kernel
theorem dX3_compare_23 : decode cX3_compare 23 = .ok (.iload 4, 2) := by decide +kernel
theorem dX3_compare_25 : decode cX3_compare 25 = .ok (.iconst 1, 1) := by decide +kernel
theorem dX3_compare_26 : decode cX3_compare 26 = .ok (.if_icmp .lt 11, 3) := by decide +kernel
theorem dX3_compare_29 : decode cX3_compare 29 = .ok (.iload 4, 2) := by decide +kernel
theorem dX3_compare_31 : decode cX3_compare 31 = .ok (.sipush 500, 3) := by decide +kernel
theorem dX3_compare_34 : decode cX3_compare 34 = .ok (.if_icmp .le 13, 3) := by decide +kernel
theorem dX3_compare_37 : decode cX3_compare 37 = .ok (.new 52, 3) := by decide +kernel
theorem dX3_compare_40 : decode cX3_compare 40 = .ok (.dup, 1) := by decide +kernel
theorem dX3_compare_41 : decode cX3_compare 41 = .ok (.ldc 194, 2) := by decide +kernel
theorem dX3_compare_43 : decode cX3_compare 43 = .ok (.invokespecial 56, 3) := by decide +kernel
theorem dX3_compare_46 : decode cX3_compare 46 = .ok (.athrow, 1) := by decide +kernel
theorem dX3_compare_47 : decode cX3_compare 47 = .ok (.aload_n 0, 1) := by decide +kernel
theorem dX3_compare_48 : decode cX3_compare 48 = .ok (.iload_n 2, 1) := by decide +kernel
theorem dX3_compare_49 : decode cX3_compare 49 = .ok (.invokevirtual 141, 3) := by decide +kernel
theorem dX3_compare_52 : decode cX3_compare 52 = .ok (.aload_n 0, 1) := by decide +kernel
theorem dX3_compare_53 : decode cX3_compare 53 = .ok (.iload_n 1, 1) := by decide +kernel
theorem dX3_compare_54 : decode cX3_compare 54 = .ok (.invokevirtual 144, 3) := by decide +kernel
theorem dX3_compare_57 : decode cX3_compare 57 = .ok (.aload_n 0, 1) := by decide +kernel
theorem dX3_compare_58 : decode cX3_compare 58 = .ok (.getfield 26, 3) := by decide +kernel
theorem dX3_compare_61 : decode cX3_compare 61 = .ok (.iload_n 1, 1) := by decide +kernel
theorem dX3_compare_62 : decode cX3_compare 62 = .ok (.invokevirtual 147, 3) := by decide +kernel
theorem dX3_compare_65 : decode cX3_compare 65 = .ok (.aload_n 0, 1) := by decide +kernel
theorem dX3_compare_66 : decode cX3_compare 66 = .ok (.getfield 26, 3) := by decide +kernel
theorem dX3_compare_69 : decode cX3_compare 69 = .ok (.invokevirtual 151, 3) := by decide +kernel
theorem dX3_compare_72 : decode cX3_compare 72 = .ok (.iload_n 3, 1) := by decide +kernel
theorem dX3_compare_73 : decode cX3_compare 73 = .ok (.i2l, 1) := by decide +kernel
theorem dX3_compare_74 : decode cX3_compare 74 = .ok (.iload 4, 2) := by decide +kernel
theorem dX3_compare_76 : decode cX3_compare 76 = .ok (.i2l, 1) := by decide +kernel
theorem dX3_compare_77 : decode cX3_compare 77 = .ok (.invokestatic 190, 3) := by decide +kernel
theorem dX3_compare_80 : decode cX3_compare 80 = .ok (.ireturn, 1) := by decide +kernel
set_option maxRecDepth 20000 in
theorem ggX3_levels_X3_checkTime : GoodIn wsX3_levels wsX3_checkTime := goodIn_ca (goodIn_r _ [5, 6, 7] (by decide +kernel) (by decide +kernel)) (goodIn_sub (fun _ h => List.mem_cons_of_mem _ (List.mem_append_right _ h)) (by decide +kernel))
set_option maxRecDepth 20000 in
theorem gX3_levels_X3_checkTime : GoodIn wsX3_levels (va_wsS RX3 129 yX3_checkTime wsX3_checkTime) := goodIn_app (goodIn_of _ (by decide +kernel)) ggX3_levels_X3_checkTime
set_option maxRecDepth 20000 in
theorem ggX3_levels_X3_settle : GoodIn wsX3_levels wsX3_settle := goodIn_r _ [11, 12, 1, 13, 14, 15, 16, 17, 18, 19, 20, 21, 22, 23, 24, 4, 25, 26, 27, 28, 29, 30, 31, 32, 33, 34, 35, 36, 37, 38, 39, 40, 41, 42, 43, 44, 45, 46, 47, 48, 49, 50, 51, 52, 53, 54, 55, 56, 57, 58, 59, 60, 61, 62, 63, 64, 65, 66, 67, 68, 69, 70, 71, 72, 73, 74, 75, 76, 77, 78, 79, 80, 81, 82, 83, 84, 85, 86, 87, 88, 89, 90, 91, 92, 93, 94, 95, 96, 97, 98, 99, 100, 101, 102, 103, 104, 105, 106, 107, 108, 109, 110, 111, 112, 113, 114, 115, 116, 117, 118, 119, 120, 121, 122, 123, 124, 125, 138, 139, 140, 141, 142, 143, 144, 145, 146, 147, 148, 149, 150, 151, 152, 153, 154, 155, 156, 157, 158] (by decide +kernel) (by decide +kernel)
set_option maxRecDepth 20000 in
theorem gX3_levels_X3_settle : GoodIn wsX3_levels (wsV RX3 141 RX3 yX3_settle wsX3_settle) := goodIn_app (goodIn_of _ (by decide +kernel)) ggX3_levels_X3_settle
set_option maxRecDepth 20000 in
theorem ggX3_levels_Jx4a65c_size_8abf5 : GoodIn wsX3_levels wsJx4a65c_size_8abf5 := goodIn_r _ [31, 32, 151, 152, 153] (by decide +kernel) (by decide +kernel)
set_option maxRecDepth 20000 in
theorem gX3_levels_Jx4a65c_size_8abf5 : GoodIn wsX3_levels (wsV RX3 30 RJx4a65c yJx4a65c_size_8abf5 wsJx4a65c_size_8abf5) := goodIn_app (goodIn_of _ (by decide +kernel)) ggX3_levels_Jx4a65c_size_8abf5
set_option maxRecDepth 20000 in
theorem ggX3_levels_X3_isAfloat : GoodIn wsX3_levels wsX3_isAfloat := goodIn_r _ [85, 1, 13, 14, 26, 27, 28, 29, 30, 31, 32, 33, 34, 35, 36, 37, 38, 39, 40, 41, 42, 43, 44, 45, 46, 47, 48, 49, 66, 67, 4, 68, 138, 139, 140, 141, 142, 143, 151, 152, 153] (by decide +kernel) (by decide +kernel)
set_option maxRecDepth 20000 in
theorem gX3_levels_X3_isAfloat : GoodIn wsX3_levels (wsV RX3 138 RX3 yX3_isAfloat wsX3_isAfloat) := goodIn_app (goodIn_of _ (by decide +kernel)) ggX3_levels_X3_isAfloat
set_option maxRecDepth 20000 in
theorem ggX3_levels_X3_isFirstOfLevel : GoodIn wsX3_levels wsX3_isFirstOfLevel := goodIn_r _ [129, 12, 82, 83, 84, 4, 85, 1, 13, 14, 26, 27, 28, 29, 30, 31, 32, 33, 34, 35, 36, 37, 38, 39, 40, 41, 42, 43, 44, 45, 46, 47, 48, 49, 66, 67, 68, 130, 131, 132, 72, 133, 75, 76, 110, 74, 134, 135, 136, 137, 111, 112, 113, 114, 138, 139, 140, 141, 142, 143, 151, 152, 153, 154, 155, 156, 157, 158] (by decide +kernel) (by decide +kernel)
set_option maxRecDepth 20000 in
theorem gX3_levels_X3_isFirstOfLevel : GoodIn wsX3_levels (wsV RX3 196 RX3 yX3_isFirstOfLevel wsX3_isFirstOfLevel) := goodIn_app (goodIn_of _ (by decide +kernel)) ggX3_levels_X3_isFirstOfLevel
theorem dX3_levels_0 : decode cX3_levels 0 = .ok (.iload_n 1, 1) := by decide +kernel
theorem dX3_levels_1 : decode cX3_levels 1 = .ok (.invokestatic 129, 3) := by decide +kernel
theorem dX3_levels_4 : decode cX3_levels 4 = .ok (.aload_n 0, 1) := by decide +kernel
theorem dX3_levels_5 : decode cX3_levels 5 = .ok (.iload_n 1, 1) := by decide +kernel
theorem dX3_levels_6 : decode cX3_levels 6 = .ok (.invokevirtual 141, 3) := by decide +kernel
theorem dX3_levels_9 : decode cX3_levels 9 = .ok (.iconst 0, 1) := by decide +kernel
theorem dX3_levels_10 : decode cX3_levels 10 = .ok (.istore_n 2, 1) := by decide +kernel
theorem dX3_levels_11 : decode cX3_levels 11 = .ok (.iconst 0, 1) := by decide +kernel
theorem dX3_levels_12 : decode cX3_levels 12 = .ok (.istore_n 3, 1) := by decide +kernel
theorem dX3_levels_13 : decode cX3_levels 13 = .ok (.iload_n 3, 1) := by decide +kernel
theorem dX3_levels_14 : decode cX3_levels 14 = .ok (.aload_n 0, 1) := by decide +kernel
theorem dX3_levels_15 : decode cX3_levels 15 = .ok (.getfield 12, 3) := by decide +kernel
theorem dX3_levels_18 : decode cX3_levels 18 = .ok (.invokevirtual 30, 3) := by decide +kernel
theorem dX3_levels_21 : decode cX3_levels 21 = .ok (.if_icmp .ge 28, 3) := by decide +kernel
theorem dX3_levels_24 : decode cX3_levels 24 = .ok (.aload_n 0, 1) := by decide +kernel
theorem dX3_levels_25 : decode cX3_levels 25 = .ok (.iload_n 3, 1) := by decide +kernel
theorem dX3_levels_26 : decode cX3_levels 26 = .ok (.invokevirtual 138, 3) := by decide +kernel
theorem dX3_levels_29 : decode cX3_levels 29 = .ok (.ifCond .ne 14, 3) := by decide +kernel
theorem dX3_levels_32 : decode cX3_levels 32 = .ok (.aload_n 0, 1) := by decide +kernel
theorem dX3_levels_33 : decode cX3_levels 33 = .ok (.iload_n 3, 1) := by decide +kernel
theorem dX3_levels_34 : decode cX3_levels 34 = .ok (.invokevirtual 196, 3) := by decide +kernel
theorem dX3_levels_37 : decode cX3_levels 37 = .ok (.ifCond .eq 6, 3) := by decide +kernel
theorem dX3_levels_40 : decode cX3_levels 40 = .ok (.iinc 2 1, 3) := by decide +kernel
theorem dX3_levels_43 : decode cX3_levels 43 = .ok (.iinc 3 1, 3) := by decide +kernel
theorem dX3_levels_46 : decode cX3_levels 46 = .ok (.goto (-33), 3) := by decide +kernel
theorem dX3_levels_49 : decode cX3_levels 49 = .ok (.iload_n 2, 1) := by decide +kernel
theorem dX3_levels_50 : decode cX3_levels 50 = .ok (.ireturn, 1) := by decide +kernel
set_option maxRecDepth 20000 in
theorem ggX3_digest_X3_digestCircuit : GoodIn wsX3_digest wsX3_digestCircuit := goodIn_r _ [6, 7, 8, 9, 10, 11, 12, 13, 14, 5, 15, 16, 17, 18, 19, 20, 21, 22, 23, 24, 25, 26, 27, 28, 29, 30, 31, 32, 33, 34, 35, 36, 37, 38, 39, 40, 41, 42, 43, 44, 45, 46, 47, 48, 49, 50, 51, 52, 53, 54, 55, 56, 57, 58, 59, 60, 61, 62, 63, 64, 65, 66, 67, 68, 69, 70, 191, 192, 193, 194, 195, 196, 197, 198, 199, 200, 201, 202, 203, 204, 205, 206] (by decide +kernel) (by decide +kernel)
set_option maxRecDepth 20000 in
theorem gX3_digest_X3_digestCircuit : GoodIn wsX3_digest (wsV RX3 201 RX3 yX3_digestCircuit wsX3_digestCircuit) := goodIn_app (goodIn_of _ (by decide +kernel)) ggX3_digest_X3_digestCircuit
set_option maxRecDepth 20000 in
theorem ggX3_digest_X3_digestPotentials : GoodIn wsX3_digest wsX3_digestPotentials := goodIn_r _ [74, 7, 75, 76, 77, 78, 79, 5, 80, 8, 9, 81, 10, 11, 82, 83, 84, 85, 86, 87, 88, 89, 90, 16, 17, 18, 19, 20, 21, 26, 27, 28, 29, 30, 31, 32, 33, 34, 35, 36, 37, 38, 39, 40, 41, 42, 91, 92, 93, 58, 94, 64, 95, 96, 97, 98, 65, 70, 99, 100, 101, 102, 103, 104, 105, 106, 107, 108, 109, 110, 111, 112, 113, 114, 115, 116, 117, 118, 119, 120, 121, 122, 123, 124, 125, 126, 127, 128, 129, 130, 131, 132, 133, 134, 135, 136, 137, 138, 139, 140, 141, 142, 143, 144, 145, 146, 147, 148, 149, 150, 151, 152, 153, 154, 155, 156, 157, 158, 159, 160, 161, 162, 48, 49, 50, 51, 163, 164, 165, 166, 167, 168, 169, 170, 171, 172, 173, 174, 175, 176, 177, 178, 179, 180, 181, 191, 192, 193, 194, 195, 196, 200, 201, 202, 203, 204, 205, 206, 197, 198, 199, 207, 208, 209, 210, 211] (by decide +kernel) (by decide +kernel)
set_option maxRecDepth 20000 in
theorem gX3_digest_X3_digestPotentials : GoodIn wsX3_digest (wsV RX3 205 RX3 yX3_digestPotentials wsX3_digestPotentials) := goodIn_app (goodIn_of _ (by decide +kernel)) ggX3_digest_X3_digestPotentials
set_option maxRecDepth 20000 in
theorem ggX3_digest_X3_firstToggleBehind : GoodIn wsX3_digest wsX3_firstToggleBehind := goodIn_r _ [185, 10, 11, 16, 17, 18, 19, 20, 21, 26, 27, 28, 29, 30, 31, 32, 33, 34, 35, 36, 37, 38, 39, 40, 41, 42, 186, 187, 188, 58, 189, 95, 96, 97, 98, 65, 70, 190, 67, 68, 69, 191, 192, 193, 194, 197, 198, 199, 200, 201, 202, 203, 204, 205, 206] (by decide +kernel) (by decide +kernel)
set_option maxRecDepth 20000 in
theorem gX3_digest_X3_firstToggleBehind : GoodIn wsX3_digest (wsV RX3 185 RX3 yX3_firstToggleBehind wsX3_firstToggleBehind) := goodIn_app (goodIn_of _ (by decide +kernel)) ggX3_digest_X3_firstToggleBehind
theorem dX3_digest_0 : decode cX3_digest 0 = .ok (.aload_n 0, 1) := by decide +kernel
theorem dX3_digest_1 : decode cX3_digest 1 = .ok (.ldc2_w 199, 3) := by decide +kernel
theorem dX3_digest_4 : decode cX3_digest 4 = .ok (.invokevirtual 201, 3) := by decide +kernel
theorem dX3_digest_7 : decode cX3_digest 7 = .ok (.lstore_n 1, 1) := by decide +kernel
theorem dX3_digest_8 : decode cX3_digest 8 = .ok (.aload_n 0, 1) := by decide +kernel
theorem dX3_digest_9 : decode cX3_digest 9 = .ok (.lload_n 1, 1) := by decide +kernel
theorem dX3_digest_10 : decode cX3_digest 10 = .ok (.iconst 0, 1) := by decide +kernel
theorem dX3_digest_11 : decode cX3_digest 11 = .ok (.invokevirtual 205, 3) := by decide +kernel
theorem dX3_digest_14 : decode cX3_digest 14 = .ok (.lstore_n 1, 1) := by decide +kernel
theorem dX3_digest_15 : decode cX3_digest 15 = .ok (.aload_n 0, 1) := by decide +kernel
theorem dX3_digest_16 : decode cX3_digest 16 = .ok (.iconst 0, 1) := by decide +kernel
theorem dX3_digest_17 : decode cX3_digest 17 = .ok (.invokevirtual 185, 3) := by decide +kernel
theorem dX3_digest_20 : decode cX3_digest 20 = .ok (.istore_n 3, 1) := by decide +kernel
theorem dX3_digest_21 : decode cX3_digest 21 = .ok (.iload_n 3, 1) := by decide +kernel
theorem dX3_digest_22 : decode cX3_digest 22 = .ok (.ifCond .ge 7, 3) := by decide +kernel
theorem dX3_digest_25 : decode cX3_digest 25 = .ok (.lload_n 1, 1) := by decide +kernel
theorem dX3_digest_26 : decode cX3_digest 26 = .ok (.goto 9, 3) := by decide +kernel
theorem dX3_digest_29 : decode cX3_digest 29 = .ok (.aload_n 0, 1) := by decide +kernel
theorem dX3_digest_30 : decode cX3_digest 30 = .ok (.lload_n 1, 1) := by decide +kernel
theorem dX3_digest_31 : decode cX3_digest 31 = .ok (.iload_n 3, 1) := by decide +kernel
theorem dX3_digest_32 : decode cX3_digest 32 = .ok (.invokevirtual 205, 3) := by decide +kernel
theorem dX3_digest_35 : decode cX3_digest 35 = .ok (.lreturn, 1) := by decide +kernel
set_option maxRecDepth 20000 in
theorem ggX3_checkNode_Jx4a65c_size_8abf5 : GoodIn wsX3_checkNode wsJx4a65c_size_8abf5 := goodIn_r _ [8, 9, 14, 15, 16] (by decide +kernel) (by decide +kernel)
set_option maxRecDepth 20000 in
theorem gX3_checkNode_Jx4a65c_size_8abf5 : GoodIn wsX3_checkNode (wsV RX3 30 RJx4a65c yJx4a65c_size_8abf5 wsJx4a65c_size_8abf5) := goodIn_app (goodIn_of _ (by decide +kernel)) ggX3_checkNode_Jx4a65c_size_8abf5
theorem dX3_checkNode_0 : decode cX3_checkNode 0 = .ok (.iload_n 1, 1) := by decide +kernel
theorem dX3_checkNode_1 : decode cX3_checkNode 1 = .ok (.ifCond .lt 14, 3) := by decide +kernel
theorem dX3_checkNode_4 : decode cX3_checkNode 4 = .ok (.iload_n 1, 1) := by decide +kernel
theorem dX3_checkNode_5 : decode cX3_checkNode 5 = .ok (.aload_n 0, 1) := by decide +kernel
theorem dX3_checkNode_6 : decode cX3_checkNode 6 = .ok (.getfield 12, 3) := by decide +kernel
theorem dX3_checkNode_9 : decode cX3_checkNode 9 = .ok (.invokevirtual 30, 3) := by decide +kernel
theorem dX3_checkNode_12 : decode cX3_checkNode 12 = .ok (.if_icmp .lt 13, 3) := by decide +kernel
theorem dX3_checkNode_15 : decode cX3_checkNode 15 = .ok (.new 110, 3) := by decide +kernel
theorem dX3_checkNode_18 : decode cX3_checkNode 18 = .ok (.dup, 1) := by decide +kernel
theorem dX3_checkNode_19 : decode cX3_checkNode 19 = .ok (.ldc 209, 2) := by decide +kernel
theorem dX3_checkNode_21 : decode cX3_checkNode 21 = .ok (.invokespecial 114, 3) := by decide +kernel
theorem dX3_checkNode_24 : decode cX3_checkNode 24 = .ok (.athrow, 1) := by decide +kernel
theorem dX3_checkNode_25 : decode cX3_checkNode 25 = .ok (.return_, 1) := by decide +kernel
set_option maxRecDepth 20000 in
theorem ggX3_checkElement_Jx4a65c_size_8abf5 : GoodIn wsX3_checkElement wsJx4a65c_size_8abf5 := goodIn_r _ [8, 9, 14, 15, 16] (by decide +kernel) (by decide +kernel)
set_option maxRecDepth 20000 in
theorem gX3_checkElement_Jx4a65c_size_8abf5 : GoodIn wsX3_checkElement (wsV RX3 30 RJx4a65c yJx4a65c_size_8abf5 wsJx4a65c_size_8abf5) := goodIn_app (goodIn_of _ (by decide +kernel)) ggX3_checkElement_Jx4a65c_size_8abf5
theorem dX3_checkElement_0 : decode cX3_checkElement 0 = .ok (.iload_n 1, 1) := by decide +kernel
theorem dX3_checkElement_1 : decode cX3_checkElement 1 = .ok (.ifCond .lt 14, 3) := by decide +kernel
theorem dX3_checkElement_4 : decode cX3_checkElement 4 = .ok (.iload_n 1, 1) := by decide +kernel
theorem dX3_checkElement_5 : decode cX3_checkElement 5 = .ok (.aload_n 0, 1) := by decide +kernel
theorem dX3_checkElement_6 : decode cX3_checkElement 6 = .ok (.getfield 16, 3) := by decide +kernel
theorem dX3_checkElement_9 : decode cX3_checkElement 9 = .ok (.invokevirtual 30, 3) := by decide +kernel
theorem dX3_checkElement_12 : decode cX3_checkElement 12 = .ok (.if_icmp .lt 13, 3) := by decide +kernel
theorem dX3_checkElement_15 : decode cX3_checkElement 15 = .ok (.new 110, 3) := by decide +kernel
theorem dX3_checkElement_18 : decode cX3_checkElement 18 = .ok (.dup, 1) := by decide +kernel
theorem dX3_checkElement_19 : decode cX3_checkElement 19 = .ok (.ldc 211, 2) := by decide +kernel
theorem dX3_checkElement_21 : decode cX3_checkElement 21 = .ok (.invokespecial 114, 3) := by decide +kernel
theorem dX3_checkElement_24 : decode cX3_checkElement 24 = .ok (.athrow, 1) := by decide +kernel
theorem dX3_checkElement_25 : decode cX3_checkElement 25 = .ok (.return_, 1) := by decide +kernel
theorem dX3_checkTime_0 : decode cX3_checkTime 0 = .ok (.iload_n 0, 1) := by decide +kernel
theorem dX3_checkTime_1 : decode cX3_checkTime 1 = .ok (.ifCond .lt 10, 3) := by decide +kernel
theorem dX3_checkTime_4 : decode cX3_checkTime 4 = .ok (.iload_n 0, 1) := by decide +kernel
theorem dX3_checkTime_5 : decode cX3_checkTime 5 = .ok (.sipush 999, 3) := by decide +kernel
theorem dX3_checkTime_8 : decode cX3_checkTime 8 = .ok (.if_icmp .le 13, 3) := by decide +kernel
theorem dX3_checkTime_11 : decode cX3_checkTime 11 = .ok (.new 52, 3) := by decide +kernel
theorem dX3_checkTime_14 : decode cX3_checkTime 14 = .ok (.dup, 1) := by decide +kernel
theorem dX3_checkTime_15 : decode cX3_checkTime 15 = .ok (.ldc 213, 2) := by decide +kernel
theorem dX3_checkTime_17 : decode cX3_checkTime 17 = .ok (.invokespecial 56, 3) := by decide +kernel
theorem dX3_checkTime_20 : decode cX3_checkTime 20 = .ok (.athrow, 1) := by decide +kernel
theorem dX3_checkTime_21 : decode cX3_checkTime 21 = .ok (.return_, 1) := by decide +kernel
theorem dX3_checkSize_0 : decode cX3_checkSize 0 = .ok (.iload_n 0, 1) := by decide +kernel
theorem dX3_checkSize_1 : decode cX3_checkSize 1 = .ok (.ifCond .eq 8, 3) := by decide +kernel
theorem dX3_checkSize_4 : decode cX3_checkSize 4 = .ok (.bipush (-99), 2) := by decide +kernel
theorem dX3_checkSize_6 : decode cX3_checkSize 6 = .ok (.goto 4, 3) := by decide +kernel
theorem dX3_checkSize_9 : decode cX3_checkSize 9 = .ok (.iconst 1, 1) := by decide +kernel
theorem dX3_checkSize_10 : decode cX3_checkSize 10 = .ok (.istore_n 2, 1) := by decide +kernel
theorem dX3_checkSize_11 : decode cX3_checkSize 11 = .ok (.iload_n 0, 1) := by decide +kernel
theorem dX3_checkSize_12 : decode cX3_checkSize 12 = .ok (.ifCond .eq 8, 3) := by decide +kernel
theorem dX3_checkSize_15 : decode cX3_checkSize 15 = .ok (.bipush 99, 2) := by decide +kernel
theorem dX3_checkSize_17 : decode cX3_checkSize 17 = .ok (.goto 5, 3) := by decide +kernel
theorem dX3_checkSize_20 : decode cX3_checkSize 20 = .ok (.bipush 9, 2) := by decide +kernel
theorem dX3_checkSize_22 : decode cX3_checkSize 22 = .ok (.istore_n 3, 1) := by decide +kernel
theorem dX3_checkSize_23 : decode cX3_checkSize 23 = .ok (.iload_n 1, 1) := by decide +kernel
theorem dX3_checkSize_24 : decode cX3_checkSize 24 = .ok (.iload_n 2, 1) := by decide +kernel
theorem dX3_checkSize_25 : decode cX3_checkSize 25 = .ok (.if_icmp .lt 8, 3) := by decide +kernel
theorem dX3_checkSize_28 : decode cX3_checkSize 28 = .ok (.iload_n 1, 1) := by decide +kernel
theorem dX3_checkSize_29 : decode cX3_checkSize 29 = .ok (.iload_n 3, 1) := by decide +kernel
theorem dX3_checkSize_30 : decode cX3_checkSize 30 = .ok (.if_icmp .le 13, 3) := by decide +kernel
theorem dX3_checkSize_33 : decode cX3_checkSize 33 = .ok (.new 52, 3) := by decide +kernel
theorem dX3_checkSize_36 : decode cX3_checkSize 36 = .ok (.dup, 1) := by decide +kernel
theorem dX3_checkSize_37 : decode cX3_checkSize 37 = .ok (.ldc 215, 2) := by decide +kernel
theorem dX3_checkSize_39 : decode cX3_checkSize 39 = .ok (.invokespecial 56, 3) := by decide +kernel
theorem dX3_checkSize_42 : decode cX3_checkSize 42 = .ok (.athrow, 1) := by decide +kernel
theorem dX3_checkSize_43 : decode cX3_checkSize 43 = .ok (.return_, 1) := by decide +kernel
set_option maxRecDepth 20000 in
theorem ggX3_checkGrounded_X3_isAfloat : GoodIn wsX3_checkGrounded wsX3_isAfloat := goodIn_r _ [7, 8, 9, 10, 11, 12, 13, 14, 15, 16, 17, 18, 19, 20, 21, 22, 23, 24, 25, 26, 27, 28, 29, 30, 31, 32, 33, 34, 35, 36, 6, 37, 38, 39, 40, 41, 42, 43, 44, 45, 46] (by decide +kernel) (by decide +kernel)
set_option maxRecDepth 20000 in
theorem gX3_checkGrounded_X3_isAfloat : GoodIn wsX3_checkGrounded (wsV RX3 138 RX3 yX3_isAfloat wsX3_isAfloat) := goodIn_app (goodIn_of _ (by decide +kernel)) ggX3_checkGrounded_X3_isAfloat
theorem dX3_checkGrounded_0 : decode cX3_checkGrounded 0 = .ok (.aload_n 0, 1) := by decide +kernel
theorem dX3_checkGrounded_1 : decode cX3_checkGrounded 1 = .ok (.iload_n 1, 1) := by decide +kernel
theorem dX3_checkGrounded_2 : decode cX3_checkGrounded 2 = .ok (.invokevirtual 138, 3) := by decide +kernel
theorem dX3_checkGrounded_5 : decode cX3_checkGrounded 5 = .ok (.ifCond .eq 13, 3) := by decide +kernel
theorem dX3_checkGrounded_8 : decode cX3_checkGrounded 8 = .ok (.new 34, 3) := by decide +kernel
theorem dX3_checkGrounded_11 : decode cX3_checkGrounded 11 = .ok (.dup, 1) := by decide +kernel
theorem dX3_checkGrounded_12 : decode cX3_checkGrounded 12 = .ok (.ldc 217, 2) := by decide +kernel
theorem dX3_checkGrounded_14 : decode cX3_checkGrounded 14 = .ok (.invokespecial 38, 3) := by decide +kernel
theorem dX3_checkGrounded_17 : decode cX3_checkGrounded 17 = .ok (.athrow, 1) := by decide +kernel
theorem dX3_checkGrounded_18 : decode cX3_checkGrounded 18 = .ok (.return_, 1) := by decide +kernel
set_option maxRecDepth 20000 in
theorem ggX3_group_Jx4a65c_size_8abf5 : GoodIn wsX3_group wsJx4a65c_size_8abf5 := goodIn_r _ [11, 12, 61, 62, 63] (by decide +kernel) (by decide +kernel)
set_option maxRecDepth 20000 in
theorem gX3_group_Jx4a65c_size_8abf5 : GoodIn wsX3_group (wsV RX3 30 RJx4a65c yJx4a65c_size_8abf5 wsJx4a65c_size_8abf5) := goodIn_app (goodIn_of _ (by decide +kernel)) ggX3_group_Jx4a65c_size_8abf5
set_option maxRecDepth 20000 in
theorem ggX3_group_Jx4a65c_get_915e3 : GoodIn wsX3_group wsJx4a65c_get_915e3 := goodIn_r _ [16, 12, 17, 18, 19, 20, 21, 22, 23, 24, 25, 26, 27, 10, 28, 29, 61, 62, 63] (by decide +kernel) (by decide +kernel)
set_option maxRecDepth 20000 in
theorem gX3_group_Jx4a65c_get_915e3 : GoodIn wsX3_group (wsV RX3 57 RJx4a65c yJx4a65c_get_915e3 wsJx4a65c_get_915e3) := goodIn_app (goodIn_of _ (by decide +kernel)) ggX3_group_Jx4a65c_get_915e3
set_option maxRecDepth 20000 in
theorem ggX3_group_X0_runsAt : GoodIn wsX3_group wsX0_runsAt := goodIn_r _ [34, 35, 36, 37, 38, 33, 39, 40, 41, 54, 55, 56, 57, 58, 59, 60] (by decide +kernel) (by decide +kernel)
set_option maxRecDepth 20000 in
theorem gX3_group_X0_runsAt : GoodIn wsX3_group (wsV RX3 132 RX0 yX0_runsAt wsX0_runsAt) := goodIn_app (goodIn_of _ (by decide +kernel)) ggX3_group_X0_runsAt
set_option maxRecDepth 20000 in
theorem ggX3_group_X3_join : GoodIn wsX3_group wsX3_join := goodIn_r _ [46, 1, 47, 48, 45, 49, 50, 51, 52, 53] (by decide +kernel) (by decide +kernel)
set_option maxRecDepth 20000 in
theorem gX3_group_X3_join : GoodIn wsX3_group (wsV RX3 219 RX3 yX3_join wsX3_join) := goodIn_app (goodIn_of _ (by decide +kernel)) ggX3_group_X3_join
theorem dX3_group_0 : decode cX3_group 0 = .ok (.iconst 0, 1) := by decide +kernel
theorem dX3_group_1 : decode cX3_group 1 = .ok (.istore_n 2, 1) := by decide +kernel
theorem dX3_group_2 : decode cX3_group 2 = .ok (.iload_n 2, 1) := by decide +kernel
theorem dX3_group_3 : decode cX3_group 3 = .ok (.bipush 8, 2) := by decide +kernel
theorem dX3_group_5 : decode cX3_group 5 = .ok (.if_icmp .ge 18, 3) := by decide +kernel
theorem dX3_group_8 : decode cX3_group 8 = .ok (.aload_n 0, 1) := by decide +kernel
theorem dX3_group_9 : decode cX3_group 9 = .ok (.getfield 19, 3) := by decide +kernel
theorem dX3_group_12 : decode cX3_group 12 = .ok (.iload_n 2, 1) := by decide +kernel
theorem dX3_group_13 : decode cX3_group 13 = .ok (.iconst 1, 1) := by decide +kernel
theorem dX3_group_14 : decode cX3_group 14 = .ok (.iload_n 2, 1) := by decide +kernel
theorem dX3_group_15 : decode cX3_group 15 = .ok (.ishl, 1) := by decide +kernel
theorem dX3_group_16 : decode cX3_group 16 = .ok (.iastore, 1) := by decide +kernel
theorem dX3_group_17 : decode cX3_group 17 = .ok (.iinc 2 1, 3) := by decide +kernel
theorem dX3_group_20 : decode cX3_group 20 = .ok (.goto (-18), 3) := by decide +kernel
theorem dX3_group_23 : decode cX3_group 23 = .ok (.iconst 0, 1) := by decide +kernel
theorem dX3_group_24 : decode cX3_group 24 = .ok (.istore_n 2, 1) := by decide +kernel
theorem dX3_group_25 : decode cX3_group 25 = .ok (.iload_n 2, 1) := by decide +kernel
theorem dX3_group_26 : decode cX3_group 26 = .ok (.aload_n 0, 1) := by decide +kernel
theorem dX3_group_27 : decode cX3_group 27 = .ok (.getfield 16, 3) := by decide +kernel
theorem dX3_group_30 : decode cX3_group 30 = .ok (.invokevirtual 30, 3) := by decide +kernel
theorem dX3_group_33 : decode cX3_group 33 = .ok (.if_icmp .ge 59, 3) := by decide +kernel
theorem dX3_group_36 : decode cX3_group 36 = .ok (.aload_n 0, 1) := by decide +kernel
theorem dX3_group_37 : decode cX3_group 37 = .ok (.getfield 16, 3) := by decide +kernel
theorem dX3_group_40 : decode cX3_group 40 = .ok (.iload_n 2, 1) := by decide +kernel
theorem dX3_group_41 : decode cX3_group 41 = .ok (.invokevirtual 57, 3) := by decide +kernel
theorem dX3_group_44 : decode cX3_group 44 = .ok (.checkcast 77, 3) := by decide +kernel
theorem dX3_group_47 : decode cX3_group 47 = .ok (.astore_n 3, 1) := by decide +kernel
theorem dX3_group_48 : decode cX3_group 48 = .ok (.aload_n 3, 1) := by decide +kernel
theorem dX3_group_49 : decode cX3_group 49 = .ok (.getfield 85, 3) := by decide +kernel
theorem dX3_group_52 : decode cX3_group 52 = .ok (.ifCond .ne 34, 3) := by decide +kernel
theorem dX3_group_55 : decode cX3_group 55 = .ok (.aload_n 3, 1) := by decide +kernel
theorem dX3_group_56 : decode cX3_group 56 = .ok (.iload_n 1, 1) := by decide +kernel
theorem dX3_group_57 : decode cX3_group 57 = .ok (.invokevirtual 132, 3) := by decide +kernel
theorem dX3_group_60 : decode cX3_group 60 = .ok (.ifCond .eq 26, 3) := by decide +kernel
theorem dX3_group_63 : decode cX3_group 63 = .ok (.aload_n 0, 1) := by decide +kernel
theorem dX3_group_64 : decode cX3_group 64 = .ok (.aload_n 0, 1) := by decide +kernel
theorem dX3_group_65 : decode cX3_group 65 = .ok (.getfield 19, 3) := by decide +kernel
theorem dX3_group_68 : decode cX3_group 68 = .ok (.aload_n 3, 1) := by decide +kernel
theorem dX3_group_69 : decode cX3_group 69 = .ok (.getfield 159, 3) := by decide +kernel
theorem dX3_group_72 : decode cX3_group 72 = .ok (.iaload, 1) := by decide +kernel
theorem dX3_group_73 : decode cX3_group 73 = .ok (.aload_n 0, 1) := by decide +kernel
theorem dX3_group_74 : decode cX3_group 74 = .ok (.getfield 19, 3) := by decide +kernel
theorem dX3_group_77 : decode cX3_group 77 = .ok (.aload_n 3, 1) := by decide +kernel
theorem dX3_group_78 : decode cX3_group 78 = .ok (.getfield 182, 3) := by decide +kernel
