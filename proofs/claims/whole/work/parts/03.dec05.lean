theorem dJ8_hugeLength_7cf53_24 : decode cJ8_hugeLength_7cf53 24 = .ok (.iload_n 0, 1) := by decide +kernel
theorem dJ8_hugeLength_7cf53_25 : decode cJ8_hugeLength_7cf53 25 = .ok (.invokevirtual 98, 3) := by decide +kernel
theorem dJ8_hugeLength_7cf53_28 : decode cJ8_hugeLength_7cf53 28 = .ok (.ldc 208, 2) := by decide +kernel
theorem dJ8_hugeLength_7cf53_30 : decode cJ8_hugeLength_7cf53 30 = .ok (.invokevirtual 94, 3) := by decide +kernel
theorem dJ8_hugeLength_7cf53_33 : decode cJ8_hugeLength_7cf53 33 = .ok (.iload_n 1, 1) := by decide +kernel
theorem dJ8_hugeLength_7cf53_34 : decode cJ8_hugeLength_7cf53 34 = .ok (.invokevirtual 98, 3) := by decide +kernel
theorem dJ8_hugeLength_7cf53_37 : decode cJ8_hugeLength_7cf53 37 = .ok (.ldc 210, 2) := by decide +kernel
theorem dJ8_hugeLength_7cf53_39 : decode cJ8_hugeLength_7cf53 39 = .ok (.invokevirtual 94, 3) := by decide +kernel
theorem dJ8_hugeLength_7cf53_42 : decode cJ8_hugeLength_7cf53 42 = .ok (.invokevirtual 101, 3) := by decide +kernel
theorem dJ8_hugeLength_7cf53_45 : decode cJ8_hugeLength_7cf53 45 = .ok (.invokespecial 212, 3) := by decide +kernel
theorem dJ8_hugeLength_7cf53_48 : decode cJ8_hugeLength_7cf53 48 = .ok (.athrow, 1) := by decide +kernel
theorem dJ8_hugeLength_7cf53_49 : decode cJ8_hugeLength_7cf53 49 = .ok (.iload_n 2, 1) := by decide +kernel
theorem dJ8_hugeLength_7cf53_50 : decode cJ8_hugeLength_7cf53 50 = .ok (.ldc 200, 2) := by decide +kernel
theorem dJ8_hugeLength_7cf53_52 : decode cJ8_hugeLength_7cf53 52 = .ok (.if_icmp .gt 6, 3) := by decide +kernel
theorem dJ8_hugeLength_7cf53_55 : decode cJ8_hugeLength_7cf53 55 = .ok (.ldc 200, 2) := by decide +kernel
theorem dJ8_hugeLength_7cf53_57 : decode cJ8_hugeLength_7cf53 57 = .ok (.ireturn, 1) := by decide +kernel
theorem dJ8_hugeLength_7cf53_58 : decode cJ8_hugeLength_7cf53 58 = .ok (.iload_n 2, 1) := by decide +kernel
theorem dJ8_hugeLength_7cf53_59 : decode cJ8_hugeLength_7cf53 59 = .ok (.ireturn, 1) := by decide +kernel
theorem dJ3_checkIndex_8e157_0 : decode cJ3_checkIndex_8e157 0 = .ok (.iload_n 0, 1) := by decide +kernel
theorem dJ3_checkIndex_8e157_1 : decode cJ3_checkIndex_8e157 1 = .ok (.ifCond .lt 8, 3) := by decide +kernel
theorem dJ3_checkIndex_8e157_4 : decode cJ3_checkIndex_8e157 4 = .ok (.iload_n 0, 1) := by decide +kernel
theorem dJ3_checkIndex_8e157_5 : decode cJ3_checkIndex_8e157 5 = .ok (.iload_n 1, 1) := by decide +kernel
theorem dJ3_checkIndex_8e157_6 : decode cJ3_checkIndex_8e157 6 = .ok (.if_icmp .lt 10, 3) := by decide +kernel
theorem dJ3_checkIndex_8e157_9 : decode cJ3_checkIndex_8e157 9 = .ok (.aload_n 2, 1) := by decide +kernel
theorem dJ3_checkIndex_8e157_10 : decode cJ3_checkIndex_8e157 10 = .ok (.iload_n 0, 1) := by decide +kernel
theorem dJ3_checkIndex_8e157_11 : decode cJ3_checkIndex_8e157 11 = .ok (.iload_n 1, 1) := by decide +kernel
theorem dJ3_checkIndex_8e157_12 : decode cJ3_checkIndex_8e157 12 = .ok (.invokestatic 95, 3) := by decide +kernel
theorem dJ3_checkIndex_8e157_15 : decode cJ3_checkIndex_8e157 15 = .ok (.athrow, 1) := by decide +kernel
theorem dJ3_checkIndex_8e157_16 : decode cJ3_checkIndex_8e157 16 = .ok (.iload_n 0, 1) := by decide +kernel
theorem dJ3_checkIndex_8e157_17 : decode cJ3_checkIndex_8e157 17 = .ok (.ireturn, 1) := by decide +kernel
theorem dL_addNode_0 : decode cL_addNode 0 = .ok (.aload_n 1, 1) := by decide +kernel
theorem dL_addNode_1 : decode cL_addNode 1 = .ok (.iconst 0, 1) := by decide +kernel
theorem dL_addNode_2 : decode cL_addNode 2 = .ok (.aload_n 0, 1) := by decide +kernel
theorem dL_addNode_3 : decode cL_addNode 3 = .ok (.invokevirtual 7, 3) := by decide +kernel
theorem dL_addNode_6 : decode cL_addNode 6 = .ok (.i2l, 1) := by decide +kernel
theorem dL_addNode_7 : decode cL_addNode 7 = .ok (.lastore, 1) := by decide +kernel
theorem dL_addNode_8 : decode cL_addNode 8 = .ok (.goto 6, 3) := by decide +kernel
theorem dL_addNode_11 : decode cL_addNode 11 = .ok (.astore_n 2, 1) := by decide +kernel
theorem dL_addNode_12 : decode cL_addNode 12 = .ok (.iconst 1, 1) := by decide +kernel
theorem dL_addNode_13 : decode cL_addNode 13 = .ok (.ireturn, 1) := by decide +kernel
theorem dL_addNode_14 : decode cL_addNode 14 = .ok (.iconst 0, 1) := by decide +kernel
theorem dL_addNode_15 : decode cL_addNode 15 = .ok (.ireturn, 1) := by decide +kernel
theorem dL_rail_0 : decode cL_rail 0 = .ok (.aload 4, 2) := by decide +kernel
theorem dL_rail_2 : decode cL_rail 2 = .ok (.iconst 0, 1) := by decide +kernel
theorem dL_rail_3 : decode cL_rail 3 = .ok (.aload_n 0, 1) := by decide +kernel
theorem dL_rail_4 : decode cL_rail 4 = .ok (.iload_n 1, 1) := by decide +kernel
theorem dL_rail_5 : decode cL_rail 5 = .ok (.iload_n 2, 1) := by decide +kernel
theorem dL_rail_6 : decode cL_rail 6 = .ok (.iload_n 3, 1) := by decide +kernel
theorem dL_rail_7 : decode cL_rail 7 = .ok (.invokevirtual 15, 3) := by decide +kernel
theorem dL_rail_10 : decode cL_rail 10 = .ok (.ifCond .eq 7, 3) := by decide +kernel
theorem dL_rail_13 : decode cL_rail 13 = .ok (.lconst 1, 1) := by decide +kernel
theorem dL_rail_14 : decode cL_rail 14 = .ok (.goto 4, 3) := by decide +kernel
theorem dL_rail_17 : decode cL_rail 17 = .ok (.lconst 0, 1) := by decide +kernel
theorem dL_rail_18 : decode cL_rail 18 = .ok (.lastore, 1) := by decide +kernel
theorem dL_rail_19 : decode cL_rail 19 = .ok (.goto 11, 3) := by decide +kernel
theorem dL_rail_22 : decode cL_rail 22 = .ok (.astore 5, 2) := by decide +kernel
theorem dL_rail_24 : decode cL_rail 24 = .ok (.iconst 1, 1) := by decide +kernel
theorem dL_rail_25 : decode cL_rail 25 = .ok (.ireturn, 1) := by decide +kernel
theorem dL_rail_26 : decode cL_rail 26 = .ok (.astore 5, 2) := by decide +kernel
theorem dL_rail_28 : decode cL_rail 28 = .ok (.iconst 2, 1) := by decide +kernel
theorem dL_rail_29 : decode cL_rail 29 = .ok (.ireturn, 1) := by decide +kernel
theorem dL_rail_30 : decode cL_rail 30 = .ok (.iconst 0, 1) := by decide +kernel
theorem dL_rail_31 : decode cL_rail 31 = .ok (.ireturn, 1) := by decide +kernel
theorem dL_addElement_0 : decode cL_addElement 0 = .ok (.aload 5, 2) := by decide +kernel
theorem dL_addElement_2 : decode cL_addElement 2 = .ok (.iconst 0, 1) := by decide +kernel
theorem dL_addElement_3 : decode cL_addElement 3 = .ok (.aload_n 0, 1) := by decide +kernel
theorem dL_addElement_4 : decode cL_addElement 4 = .ok (.iload_n 1, 1) := by decide +kernel
theorem dL_addElement_5 : decode cL_addElement 5 = .ok (.iload_n 2, 1) := by decide +kernel
theorem dL_addElement_6 : decode cL_addElement 6 = .ok (.iload_n 3, 1) := by decide +kernel
theorem dL_addElement_7 : decode cL_addElement 7 = .ok (.iload 4, 2) := by decide +kernel
theorem dL_addElement_9 : decode cL_addElement 9 = .ok (.invokevirtual 23, 3) := by decide +kernel
theorem dL_addElement_12 : decode cL_addElement 12 = .ok (.i2l, 1) := by decide +kernel
theorem dL_addElement_13 : decode cL_addElement 13 = .ok (.lastore, 1) := by decide +kernel
theorem dL_addElement_14 : decode cL_addElement 14 = .ok (.goto 15, 3) := by decide +kernel
theorem dL_addElement_17 : decode cL_addElement 17 = .ok (.astore 6, 2) := by decide +kernel
theorem dL_addElement_19 : decode cL_addElement 19 = .ok (.iconst 1, 1) := by decide +kernel
theorem dL_addElement_20 : decode cL_addElement 20 = .ok (.ireturn, 1) := by decide +kernel
theorem dL_addElement_21 : decode cL_addElement 21 = .ok (.astore 6, 2) := by decide +kernel
theorem dL_addElement_23 : decode cL_addElement 23 = .ok (.iconst 2, 1) := by decide +kernel
theorem dL_addElement_24 : decode cL_addElement 24 = .ok (.ireturn, 1) := by decide +kernel
theorem dL_addElement_25 : decode cL_addElement 25 = .ok (.astore 6, 2) := by decide +kernel
theorem dL_addElement_27 : decode cL_addElement 27 = .ok (.iconst 3, 1) := by decide +kernel
theorem dL_addElement_28 : decode cL_addElement 28 = .ok (.ireturn, 1) := by decide +kernel
theorem dL_addElement_29 : decode cL_addElement 29 = .ok (.iconst 0, 1) := by decide +kernel
theorem dL_addElement_30 : decode cL_addElement 30 = .ok (.ireturn, 1) := by decide +kernel
theorem dL_resize_0 : decode cL_resize 0 = .ok (.aload_n 3, 1) := by decide +kernel
theorem dL_resize_1 : decode cL_resize 1 = .ok (.iconst 0, 1) := by decide +kernel
theorem dL_resize_2 : decode cL_resize 2 = .ok (.aload_n 0, 1) := by decide +kernel
theorem dL_resize_3 : decode cL_resize 3 = .ok (.iload_n 1, 1) := by decide +kernel
theorem dL_resize_4 : decode cL_resize 4 = .ok (.iload_n 2, 1) := by decide +kernel
theorem dL_resize_5 : decode cL_resize 5 = .ok (.invokevirtual 27, 3) := by decide +kernel
theorem dL_resize_8 : decode cL_resize 8 = .ok (.i2l, 1) := by decide +kernel
theorem dL_resize_9 : decode cL_resize 9 = .ok (.lastore, 1) := by decide +kernel
theorem dL_resize_10 : decode cL_resize 10 = .ok (.goto 11, 3) := by decide +kernel
theorem dL_resize_13 : decode cL_resize 13 = .ok (.astore 4, 2) := by decide +kernel
theorem dL_resize_15 : decode cL_resize 15 = .ok (.iconst 1, 1) := by decide +kernel
theorem dL_resize_16 : decode cL_resize 16 = .ok (.ireturn, 1) := by decide +kernel
theorem dL_resize_17 : decode cL_resize 17 = .ok (.astore 4, 2) := by decide +kernel
theorem dL_resize_19 : decode cL_resize 19 = .ok (.iconst 2, 1) := by decide +kernel
theorem dL_resize_20 : decode cL_resize 20 = .ok (.ireturn, 1) := by decide +kernel
theorem dL_resize_21 : decode cL_resize 21 = .ok (.iconst 0, 1) := by decide +kernel
theorem dL_resize_22 : decode cL_resize 22 = .ok (.ireturn, 1) := by decide +kernel
theorem dL_begin_0 : decode cL_begin 0 = .ok (.aload_n 3, 1) := by decide +kernel
theorem dL_begin_1 : decode cL_begin 1 = .ok (.iconst 0, 1) := by decide +kernel
theorem dL_begin_2 : decode cL_begin 2 = .ok (.aload_n 0, 1) := by decide +kernel
theorem dL_begin_3 : decode cL_begin 3 = .ok (.iload_n 1, 1) := by decide +kernel
theorem dL_begin_4 : decode cL_begin 4 = .ok (.iload_n 2, 1) := by decide +kernel
theorem dL_begin_5 : decode cL_begin 5 = .ok (.invokevirtual 31, 3) := by decide +kernel
theorem dL_begin_8 : decode cL_begin 8 = .ok (.ifCond .eq 7, 3) := by decide +kernel
theorem dL_begin_11 : decode cL_begin 11 = .ok (.lconst 1, 1) := by decide +kernel
theorem dL_begin_12 : decode cL_begin 12 = .ok (.goto 4, 3) := by decide +kernel
theorem dL_begin_15 : decode cL_begin 15 = .ok (.lconst 0, 1) := by decide +kernel
theorem dL_begin_16 : decode cL_begin 16 = .ok (.lastore, 1) := by decide +kernel
theorem dL_begin_17 : decode cL_begin 17 = .ok (.goto 7, 3) := by decide +kernel
theorem dL_begin_20 : decode cL_begin 20 = .ok (.astore 4, 2) := by decide +kernel
theorem dL_begin_22 : decode cL_begin 22 = .ok (.iconst 1, 1) := by decide +kernel
theorem dL_begin_23 : decode cL_begin 23 = .ok (.ireturn, 1) := by decide +kernel
theorem dL_begin_24 : decode cL_begin 24 = .ok (.iconst 0, 1) := by decide +kernel
theorem dL_begin_25 : decode cL_begin 25 = .ok (.ireturn, 1) := by decide +kernel
theorem dL_toggle_0 : decode cL_toggle 0 = .ok (.aload_n 3, 1) := by decide +kernel
theorem dL_toggle_1 : decode cL_toggle 1 = .ok (.iconst 0, 1) := by decide +kernel
theorem dL_toggle_2 : decode cL_toggle 2 = .ok (.aload_n 0, 1) := by decide +kernel
theorem dL_toggle_3 : decode cL_toggle 3 = .ok (.iload_n 1, 1) := by decide +kernel
theorem dL_toggle_4 : decode cL_toggle 4 = .ok (.iload_n 2, 1) := by decide +kernel
theorem dL_toggle_5 : decode cL_toggle 5 = .ok (.invokevirtual 35, 3) := by decide +kernel
theorem dL_toggle_8 : decode cL_toggle 8 = .ok (.i2l, 1) := by decide +kernel
theorem dL_toggle_9 : decode cL_toggle 9 = .ok (.lastore, 1) := by decide +kernel
theorem dL_toggle_10 : decode cL_toggle 10 = .ok (.goto 15, 3) := by decide +kernel
theorem dL_toggle_13 : decode cL_toggle 13 = .ok (.astore 4, 2) := by decide +kernel
theorem dL_toggle_15 : decode cL_toggle 15 = .ok (.iconst 1, 1) := by decide +kernel
theorem dL_toggle_16 : decode cL_toggle 16 = .ok (.ireturn, 1) := by decide +kernel
theorem dL_toggle_17 : decode cL_toggle 17 = .ok (.astore 4, 2) := by decide +kernel
theorem dL_toggle_19 : decode cL_toggle 19 = .ok (.iconst 2, 1) := by decide +kernel
theorem dL_toggle_20 : decode cL_toggle 20 = .ok (.ireturn, 1) := by decide +kernel
theorem dL_toggle_21 : decode cL_toggle 21 = .ok (.astore 4, 2) := by decide +kernel
theorem dL_toggle_23 : decode cL_toggle 23 = .ok (.iconst 3, 1) := by decide +kernel
theorem dL_toggle_24 : decode cL_toggle 24 = .ok (.ireturn, 1) := by decide +kernel
theorem dL_toggle_25 : decode cL_toggle 25 = .ok (.iconst 0, 1) := by decide +kernel
theorem dL_toggle_26 : decode cL_toggle 26 = .ok (.ireturn, 1) := by decide +kernel
theorem dL_count_0 : decode cL_count 0 = .ok (.aload_n 2, 1) := by decide +kernel
theorem dL_count_1 : decode cL_count 1 = .ok (.iconst 0, 1) := by decide +kernel
theorem dL_count_2 : decode cL_count 2 = .ok (.aload_n 0, 1) := by decide +kernel
theorem dL_count_3 : decode cL_count 3 = .ok (.iload_n 1, 1) := by decide +kernel
theorem dL_count_4 : decode cL_count 4 = .ok (.invokevirtual 38, 3) := by decide +kernel
theorem dL_count_7 : decode cL_count 7 = .ok (.i2l, 1) := by decide +kernel
theorem dL_count_8 : decode cL_count 8 = .ok (.lastore, 1) := by decide +kernel
theorem dL_count_9 : decode cL_count 9 = .ok (.goto 6, 3) := by decide +kernel
theorem dL_count_12 : decode cL_count 12 = .ok (.astore_n 3, 1) := by decide +kernel
theorem dL_count_13 : decode cL_count 13 = .ok (.iconst 1, 1) := by decide +kernel
theorem dL_count_14 : decode cL_count 14 = .ok (.ireturn, 1) := by decide +kernel
theorem dL_count_15 : decode cL_count 15 = .ok (.iconst 0, 1) := by decide +kernel
theorem dL_count_16 : decode cL_count 16 = .ok (.ireturn, 1) := by decide +kernel
theorem dL_element_0 : decode cL_element 0 = .ok (.aload_n 3, 1) := by decide +kernel
theorem dL_element_1 : decode cL_element 1 = .ok (.iconst 0, 1) := by decide +kernel
theorem dL_element_2 : decode cL_element 2 = .ok (.aload_n 0, 1) := by decide +kernel
theorem dL_element_3 : decode cL_element 3 = .ok (.iload_n 1, 1) := by decide +kernel
theorem dL_element_4 : decode cL_element 4 = .ok (.iload_n 2, 1) := by decide +kernel
theorem dL_element_5 : decode cL_element 5 = .ok (.invokevirtual 42, 3) := by decide +kernel
theorem dL_element_8 : decode cL_element 8 = .ok (.i2l, 1) := by decide +kernel
theorem dL_element_9 : decode cL_element 9 = .ok (.lastore, 1) := by decide +kernel
theorem dL_element_10 : decode cL_element 10 = .ok (.goto 7, 3) := by decide +kernel
theorem dL_element_13 : decode cL_element 13 = .ok (.astore 4, 2) := by decide +kernel
theorem dL_element_15 : decode cL_element 15 = .ok (.iconst 1, 1) := by decide +kernel
theorem dL_element_16 : decode cL_element 16 = .ok (.ireturn, 1) := by decide +kernel
theorem dL_element_17 : decode cL_element 17 = .ok (.iconst 0, 1) := by decide +kernel
theorem dL_element_18 : decode cL_element 18 = .ok (.ireturn, 1) := by decide +kernel
theorem dL_toggleAt_0 : decode cL_toggleAt 0 = .ok (.aload_n 3, 1) := by decide +kernel
theorem dL_toggleAt_1 : decode cL_toggleAt 1 = .ok (.iconst 0, 1) := by decide +kernel
theorem dL_toggleAt_2 : decode cL_toggleAt 2 = .ok (.aload_n 0, 1) := by decide +kernel
theorem dL_toggleAt_3 : decode cL_toggleAt 3 = .ok (.iload_n 1, 1) := by decide +kernel
theorem dL_toggleAt_4 : decode cL_toggleAt 4 = .ok (.iload_n 2, 1) := by decide +kernel
theorem dL_toggleAt_5 : decode cL_toggleAt 5 = .ok (.invokevirtual 45, 3) := by decide +kernel
theorem dL_toggleAt_8 : decode cL_toggleAt 8 = .ok (.i2l, 1) := by decide +kernel
theorem dL_toggleAt_9 : decode cL_toggleAt 9 = .ok (.lastore, 1) := by decide +kernel
theorem dL_toggleAt_10 : decode cL_toggleAt 10 = .ok (.goto 7, 3) := by decide +kernel
theorem dL_toggleAt_13 : decode cL_toggleAt 13 = .ok (.astore 4, 2) := by decide +kernel
theorem dL_toggleAt_15 : decode cL_toggleAt 15 = .ok (.iconst 1, 1) := by decide +kernel
theorem dL_toggleAt_16 : decode cL_toggleAt 16 = .ok (.ireturn, 1) := by decide +kernel
theorem dL_toggleAt_17 : decode cL_toggleAt 17 = .ok (.iconst 0, 1) := by decide +kernel
theorem dL_toggleAt_18 : decode cL_toggleAt 18 = .ok (.ireturn, 1) := by decide +kernel
theorem dL_isOn_0 : decode cL_isOn 0 = .ok (.aload_n 3, 1) := by decide +kernel
theorem dL_isOn_1 : decode cL_isOn 1 = .ok (.iconst 0, 1) := by decide +kernel
theorem dL_isOn_2 : decode cL_isOn 2 = .ok (.aload_n 0, 1) := by decide +kernel
theorem dL_isOn_3 : decode cL_isOn 3 = .ok (.iload_n 1, 1) := by decide +kernel
theorem dL_isOn_4 : decode cL_isOn 4 = .ok (.iload_n 2, 1) := by decide +kernel
theorem dL_isOn_5 : decode cL_isOn 5 = .ok (.invokevirtual 48, 3) := by decide +kernel
theorem dL_isOn_8 : decode cL_isOn 8 = .ok (.ifCond .eq 7, 3) := by decide +kernel
theorem dL_isOn_11 : decode cL_isOn 11 = .ok (.lconst 1, 1) := by decide +kernel
theorem dL_isOn_12 : decode cL_isOn 12 = .ok (.goto 4, 3) := by decide +kernel
theorem dL_isOn_15 : decode cL_isOn 15 = .ok (.lconst 0, 1) := by decide +kernel
theorem dL_isOn_16 : decode cL_isOn 16 = .ok (.lastore, 1) := by decide +kernel
theorem dL_isOn_17 : decode cL_isOn 17 = .ok (.goto 11, 3) := by decide +kernel
theorem dL_isOn_20 : decode cL_isOn 20 = .ok (.astore 4, 2) := by decide +kernel
theorem dL_isOn_22 : decode cL_isOn 22 = .ok (.iconst 1, 1) := by decide +kernel
theorem dL_isOn_23 : decode cL_isOn 23 = .ok (.ireturn, 1) := by decide +kernel
theorem dL_isOn_24 : decode cL_isOn 24 = .ok (.astore 4, 2) := by decide +kernel
theorem dL_isOn_26 : decode cL_isOn 26 = .ok (.iconst 2, 1) := by decide +kernel
theorem dL_isOn_27 : decode cL_isOn 27 = .ok (.ireturn, 1) := by decide +kernel
theorem dL_isOn_28 : decode cL_isOn 28 = .ok (.iconst 0, 1) := by decide +kernel
theorem dL_isOn_29 : decode cL_isOn 29 = .ok (.ireturn, 1) := by decide +kernel
theorem dL_together_0 : decode cL_together 0 = .ok (.aload_n 3, 1) := by decide +kernel
theorem dL_together_1 : decode cL_together 1 = .ok (.iconst 0, 1) := by decide +kernel
theorem dL_together_2 : decode cL_together 2 = .ok (.aload_n 0, 1) := by decide +kernel
theorem dL_together_3 : decode cL_together 3 = .ok (.iload_n 1, 1) := by decide +kernel
theorem dL_together_4 : decode cL_together 4 = .ok (.iload_n 2, 1) := by decide +kernel
theorem dL_together_5 : decode cL_together 5 = .ok (.invokevirtual 52, 3) := by decide +kernel
theorem dL_together_8 : decode cL_together 8 = .ok (.i2l, 1) := by decide +kernel
theorem dL_together_9 : decode cL_together 9 = .ok (.lastore, 1) := by decide +kernel
theorem dL_together_10 : decode cL_together 10 = .ok (.goto 11, 3) := by decide +kernel
theorem dL_together_13 : decode cL_together 13 = .ok (.astore 4, 2) := by decide +kernel
theorem dL_together_15 : decode cL_together 15 = .ok (.iconst 1, 1) := by decide +kernel
theorem dL_together_16 : decode cL_together 16 = .ok (.ireturn, 1) := by decide +kernel
theorem dL_together_17 : decode cL_together 17 = .ok (.astore 4, 2) := by decide +kernel
theorem dL_together_19 : decode cL_together 19 = .ok (.iconst 2, 1) := by decide +kernel
theorem dL_together_20 : decode cL_together 20 = .ok (.ireturn, 1) := by decide +kernel
theorem dL_together_21 : decode cL_together 21 = .ok (.iconst 0, 1) := by decide +kernel
theorem dL_together_22 : decode cL_together 22 = .ok (.ireturn, 1) := by decide +kernel
theorem dL_floats_0 : decode cL_floats 0 = .ok (.aload_n 3, 1) := by decide +kernel
theorem dL_floats_1 : decode cL_floats 1 = .ok (.iconst 0, 1) := by decide +kernel
theorem dL_floats_2 : decode cL_floats 2 = .ok (.aload_n 0, 1) := by decide +kernel
theorem dL_floats_3 : decode cL_floats 3 = .ok (.iload_n 1, 1) := by decide +kernel
theorem dL_floats_4 : decode cL_floats 4 = .ok (.iload_n 2, 1) := by decide +kernel
theorem dL_floats_5 : decode cL_floats 5 = .ok (.invokevirtual 55, 3) := by decide +kernel
theorem dL_floats_8 : decode cL_floats 8 = .ok (.ifCond .eq 7, 3) := by decide +kernel
theorem dL_floats_11 : decode cL_floats 11 = .ok (.lconst 1, 1) := by decide +kernel
theorem dL_floats_12 : decode cL_floats 12 = .ok (.goto 4, 3) := by decide +kernel
theorem dL_floats_15 : decode cL_floats 15 = .ok (.lconst 0, 1) := by decide +kernel
theorem dL_floats_16 : decode cL_floats 16 = .ok (.lastore, 1) := by decide +kernel
theorem dL_floats_17 : decode cL_floats 17 = .ok (.goto 11, 3) := by decide +kernel
theorem dL_floats_20 : decode cL_floats 20 = .ok (.astore 4, 2) := by decide +kernel
theorem dL_floats_22 : decode cL_floats 22 = .ok (.iconst 1, 1) := by decide +kernel
theorem dL_floats_23 : decode cL_floats 23 = .ok (.ireturn, 1) := by decide +kernel
theorem dL_floats_24 : decode cL_floats 24 = .ok (.astore 4, 2) := by decide +kernel
theorem dL_floats_26 : decode cL_floats 26 = .ok (.iconst 2, 1) := by decide +kernel
theorem dL_floats_27 : decode cL_floats 27 = .ok (.ireturn, 1) := by decide +kernel
theorem dL_floats_28 : decode cL_floats 28 = .ok (.iconst 0, 1) := by decide +kernel
theorem dL_floats_29 : decode cL_floats 29 = .ok (.ireturn, 1) := by decide +kernel
theorem dL_potential_0 : decode cL_potential 0 = .ok (.aload 4, 2) := by decide +kernel
theorem dL_potential_2 : decode cL_potential 2 = .ok (.iconst 0, 1) := by decide +kernel
theorem dL_potential_3 : decode cL_potential 3 = .ok (.aload_n 0, 1) := by decide +kernel
theorem dL_potential_4 : decode cL_potential 4 = .ok (.iload_n 1, 1) := by decide +kernel
theorem dL_potential_5 : decode cL_potential 5 = .ok (.iload_n 2, 1) := by decide +kernel
theorem dL_potential_6 : decode cL_potential 6 = .ok (.iload_n 3, 1) := by decide +kernel
theorem dL_potential_7 : decode cL_potential 7 = .ok (.invokevirtual 58, 3) := by decide +kernel
theorem dL_potential_10 : decode cL_potential 10 = .ok (.lastore, 1) := by decide +kernel
theorem dL_potential_11 : decode cL_potential 11 = .ok (.goto 15, 3) := by decide +kernel
theorem dL_potential_14 : decode cL_potential 14 = .ok (.astore 5, 2) := by decide +kernel
theorem dL_potential_16 : decode cL_potential 16 = .ok (.iconst 1, 1) := by decide +kernel
theorem dL_potential_17 : decode cL_potential 17 = .ok (.ireturn, 1) := by decide +kernel
theorem dL_potential_18 : decode cL_potential 18 = .ok (.astore 5, 2) := by decide +kernel
theorem dL_potential_20 : decode cL_potential 20 = .ok (.iconst 2, 1) := by decide +kernel
theorem dL_potential_21 : decode cL_potential 21 = .ok (.ireturn, 1) := by decide +kernel
theorem dL_potential_22 : decode cL_potential 22 = .ok (.astore 5, 2) := by decide +kernel
theorem dL_potential_24 : decode cL_potential 24 = .ok (.iconst 3, 1) := by decide +kernel
theorem dL_potential_25 : decode cL_potential 25 = .ok (.ireturn, 1) := by decide +kernel
theorem dL_potential_26 : decode cL_potential 26 = .ok (.iconst 0, 1) := by decide +kernel
theorem dL_potential_27 : decode cL_potential 27 = .ok (.ireturn, 1) := by decide +kernel
theorem dL_current_0 : decode cL_current 0 = .ok (.aload 4, 2) := by decide +kernel
theorem dL_current_2 : decode cL_current 2 = .ok (.iconst 0, 1) := by decide +kernel
theorem dL_current_3 : decode cL_current 3 = .ok (.aload_n 0, 1) := by decide +kernel
theorem dL_current_4 : decode cL_current 4 = .ok (.iload_n 1, 1) := by decide +kernel
theorem dL_current_5 : decode cL_current 5 = .ok (.iload_n 2, 1) := by decide +kernel
theorem dL_current_6 : decode cL_current 6 = .ok (.iload_n 3, 1) := by decide +kernel
theorem dL_current_7 : decode cL_current 7 = .ok (.invokevirtual 62, 3) := by decide +kernel
theorem dL_current_10 : decode cL_current 10 = .ok (.lastore, 1) := by decide +kernel
theorem dL_current_11 : decode cL_current 11 = .ok (.goto 15, 3) := by decide +kernel
theorem dL_current_14 : decode cL_current 14 = .ok (.astore 5, 2) := by decide +kernel
theorem dL_current_16 : decode cL_current 16 = .ok (.iconst 1, 1) := by decide +kernel
theorem dL_current_17 : decode cL_current 17 = .ok (.ireturn, 1) := by decide +kernel
theorem dL_current_18 : decode cL_current 18 = .ok (.astore 5, 2) := by decide +kernel
theorem dL_current_20 : decode cL_current 20 = .ok (.iconst 2, 1) := by decide +kernel
theorem dL_current_21 : decode cL_current 21 = .ok (.ireturn, 1) := by decide +kernel
theorem dL_current_22 : decode cL_current 22 = .ok (.astore 5, 2) := by decide +kernel
theorem dL_current_24 : decode cL_current 24 = .ok (.iconst 3, 1) := by decide +kernel
theorem dL_current_25 : decode cL_current 25 = .ok (.ireturn, 1) := by decide +kernel
theorem dL_current_26 : decode cL_current 26 = .ok (.iconst 0, 1) := by decide +kernel
theorem dL_current_27 : decode cL_current 27 = .ok (.ireturn, 1) := by decide +kernel
theorem dL_feed_0 : decode cL_feed 0 = .ok (.aload 4, 2) := by decide +kernel
theorem dL_feed_2 : decode cL_feed 2 = .ok (.iconst 0, 1) := by decide +kernel
theorem dL_feed_3 : decode cL_feed 3 = .ok (.aload_n 0, 1) := by decide +kernel
theorem dL_feed_4 : decode cL_feed 4 = .ok (.iload_n 1, 1) := by decide +kernel
theorem dL_feed_5 : decode cL_feed 5 = .ok (.iload_n 2, 1) := by decide +kernel
theorem dL_feed_6 : decode cL_feed 6 = .ok (.iload_n 3, 1) := by decide +kernel
theorem dL_feed_7 : decode cL_feed 7 = .ok (.invokevirtual 65, 3) := by decide +kernel
theorem dL_feed_10 : decode cL_feed 10 = .ok (.lastore, 1) := by decide +kernel
theorem dL_feed_11 : decode cL_feed 11 = .ok (.goto 15, 3) := by decide +kernel
theorem dL_feed_14 : decode cL_feed 14 = .ok (.astore 5, 2) := by decide +kernel
theorem dL_feed_16 : decode cL_feed 16 = .ok (.iconst 1, 1) := by decide +kernel
theorem dL_feed_17 : decode cL_feed 17 = .ok (.ireturn, 1) := by decide +kernel
theorem dL_feed_18 : decode cL_feed 18 = .ok (.astore 5, 2) := by decide +kernel
theorem dL_feed_20 : decode cL_feed 20 = .ok (.iconst 2, 1) := by decide +kernel
theorem dL_feed_21 : decode cL_feed 21 = .ok (.ireturn, 1) := by decide +kernel
theorem dL_feed_22 : decode cL_feed 22 = .ok (.astore 5, 2) := by decide +kernel
theorem dL_feed_24 : decode cL_feed 24 = .ok (.iconst 3, 1) := by decide +kernel
theorem dL_feed_25 : decode cL_feed 25 = .ok (.ireturn, 1) := by decide +kernel
theorem dL_feed_26 : decode cL_feed 26 = .ok (.iconst 0, 1) := by decide +kernel
theorem dL_feed_27 : decode cL_feed 27 = .ok (.ireturn, 1) := by decide +kernel
theorem dL_resistance_0 : decode cL_resistance 0 = .ok (.aload 5, 2) := by decide +kernel
theorem dL_resistance_2 : decode cL_resistance 2 = .ok (.iconst 0, 1) := by decide +kernel
theorem dL_resistance_3 : decode cL_resistance 3 = .ok (.aload_n 0, 1) := by decide +kernel
theorem dL_resistance_4 : decode cL_resistance 4 = .ok (.iload_n 1, 1) := by decide +kernel
theorem dL_resistance_5 : decode cL_resistance 5 = .ok (.iload_n 2, 1) := by decide +kernel
theorem dL_resistance_6 : decode cL_resistance 6 = .ok (.iload_n 3, 1) := by decide +kernel
theorem dL_resistance_7 : decode cL_resistance 7 = .ok (.iload 4, 2) := by decide +kernel
theorem dL_resistance_9 : decode cL_resistance 9 = .ok (.invokevirtual 68, 3) := by decide +kernel
theorem dL_resistance_12 : decode cL_resistance 12 = .ok (.lastore, 1) := by decide +kernel
theorem dL_resistance_13 : decode cL_resistance 13 = .ok (.goto 15, 3) := by decide +kernel
theorem dL_resistance_16 : decode cL_resistance 16 = .ok (.astore 6, 2) := by decide +kernel
theorem dL_resistance_18 : decode cL_resistance 18 = .ok (.iconst 1, 1) := by decide +kernel
theorem dL_resistance_19 : decode cL_resistance 19 = .ok (.ireturn, 1) := by decide +kernel
theorem dL_resistance_20 : decode cL_resistance 20 = .ok (.astore 6, 2) := by decide +kernel
theorem dL_resistance_22 : decode cL_resistance 22 = .ok (.iconst 2, 1) := by decide +kernel
theorem dL_resistance_23 : decode cL_resistance 23 = .ok (.ireturn, 1) := by decide +kernel
theorem dL_resistance_24 : decode cL_resistance 24 = .ok (.astore 6, 2) := by decide +kernel
theorem dL_resistance_26 : decode cL_resistance 26 = .ok (.iconst 3, 1) := by decide +kernel
theorem dL_resistance_27 : decode cL_resistance 27 = .ok (.ireturn, 1) := by decide +kernel
theorem dL_resistance_28 : decode cL_resistance 28 = .ok (.iconst 0, 1) := by decide +kernel
theorem dL_resistance_29 : decode cL_resistance 29 = .ok (.ireturn, 1) := by decide +kernel
theorem dL_power_0 : decode cL_power 0 = .ok (.aload_n 2, 1) := by decide +kernel
theorem dL_power_1 : decode cL_power 1 = .ok (.iconst 0, 1) := by decide +kernel
theorem dL_power_2 : decode cL_power 2 = .ok (.aload_n 0, 1) := by decide +kernel
theorem dL_power_3 : decode cL_power 3 = .ok (.iload_n 1, 1) := by decide +kernel
theorem dL_power_4 : decode cL_power 4 = .ok (.invokevirtual 72, 3) := by decide +kernel
theorem dL_power_7 : decode cL_power 7 = .ok (.dastore, 1) := by decide +kernel
theorem dL_power_8 : decode cL_power 8 = .ok (.goto 6, 3) := by decide +kernel
theorem dL_power_11 : decode cL_power 11 = .ok (.astore_n 3, 1) := by decide +kernel
theorem dL_power_12 : decode cL_power 12 = .ok (.iconst 1, 1) := by decide +kernel
theorem dL_power_13 : decode cL_power 13 = .ok (.ireturn, 1) := by decide +kernel
theorem dL_power_14 : decode cL_power 14 = .ok (.iconst 0, 1) := by decide +kernel
theorem dL_power_15 : decode cL_power 15 = .ok (.ireturn, 1) := by decide +kernel
theorem dL_nextToggle_0 : decode cL_nextToggle 0 = .ok (.aload_n 2, 1) := by decide +kernel
theorem dL_nextToggle_1 : decode cL_nextToggle 1 = .ok (.iconst 0, 1) := by decide +kernel
theorem dL_nextToggle_2 : decode cL_nextToggle 2 = .ok (.aload_n 0, 1) := by decide +kernel
theorem dL_nextToggle_3 : decode cL_nextToggle 3 = .ok (.iload_n 1, 1) := by decide +kernel
theorem dL_nextToggle_4 : decode cL_nextToggle 4 = .ok (.invokevirtual 76, 3) := by decide +kernel
theorem dL_nextToggle_7 : decode cL_nextToggle 7 = .ok (.i2l, 1) := by decide +kernel
theorem dL_nextToggle_8 : decode cL_nextToggle 8 = .ok (.lastore, 1) := by decide +kernel
theorem dL_nextToggle_9 : decode cL_nextToggle 9 = .ok (.goto 6, 3) := by decide +kernel
theorem dL_nextToggle_12 : decode cL_nextToggle 12 = .ok (.astore_n 3, 1) := by decide +kernel
theorem dL_nextToggle_13 : decode cL_nextToggle 13 = .ok (.iconst 1, 1) := by decide +kernel
theorem dL_nextToggle_14 : decode cL_nextToggle 14 = .ok (.ireturn, 1) := by decide +kernel
theorem dL_nextToggle_15 : decode cL_nextToggle 15 = .ok (.iconst 0, 1) := by decide +kernel
theorem dL_nextToggle_16 : decode cL_nextToggle 16 = .ok (.ireturn, 1) := by decide +kernel
theorem dL_probe_0 : decode cL_probe 0 = .ok (.aload 5, 2) := by decide +kernel
theorem dL_probe_2 : decode cL_probe 2 = .ok (.iconst 0, 1) := by decide +kernel
theorem dL_probe_3 : decode cL_probe 3 = .ok (.aload_n 0, 1) := by decide +kernel
theorem dL_probe_4 : decode cL_probe 4 = .ok (.iload_n 1, 1) := by decide +kernel
theorem dL_probe_5 : decode cL_probe 5 = .ok (.iload_n 2, 1) := by decide +kernel
theorem dL_probe_6 : decode cL_probe 6 = .ok (.iload_n 3, 1) := by decide +kernel
theorem dL_probe_7 : decode cL_probe 7 = .ok (.iload 4, 2) := by decide +kernel
theorem dL_probe_9 : decode cL_probe 9 = .ok (.invokevirtual 79, 3) := by decide +kernel
theorem dL_probe_12 : decode cL_probe 12 = .ok (.i2l, 1) := by decide +kernel
theorem dL_probe_13 : decode cL_probe 13 = .ok (.lastore, 1) := by decide +kernel
theorem dL_probe_14 : decode cL_probe 14 = .ok (.goto 11, 3) := by decide +kernel
theorem dL_probe_17 : decode cL_probe 17 = .ok (.astore 6, 2) := by decide +kernel
theorem dL_probe_19 : decode cL_probe 19 = .ok (.iconst 1, 1) := by decide +kernel
theorem dL_probe_20 : decode cL_probe 20 = .ok (.ireturn, 1) := by decide +kernel
theorem dL_probe_21 : decode cL_probe 21 = .ok (.astore 6, 2) := by decide +kernel
theorem dL_probe_23 : decode cL_probe 23 = .ok (.iconst 2, 1) := by decide +kernel
theorem dL_probe_24 : decode cL_probe 24 = .ok (.ireturn, 1) := by decide +kernel
theorem dL_probe_25 : decode cL_probe 25 = .ok (.iconst 0, 1) := by decide +kernel
theorem dL_probe_26 : decode cL_probe 26 = .ok (.ireturn, 1) := by decide +kernel
theorem dL_compare_0 : decode cL_compare 0 = .ok (.aload 5, 2) := by decide +kernel
theorem dL_compare_2 : decode cL_compare 2 = .ok (.iconst 0, 1) := by decide +kernel
theorem dL_compare_3 : decode cL_compare 3 = .ok (.aload_n 0, 1) := by decide +kernel
theorem dL_compare_4 : decode cL_compare 4 = .ok (.iload_n 1, 1) := by decide +kernel
theorem dL_compare_5 : decode cL_compare 5 = .ok (.iload_n 2, 1) := by decide +kernel
theorem dL_compare_6 : decode cL_compare 6 = .ok (.iload_n 3, 1) := by decide +kernel
theorem dL_compare_7 : decode cL_compare 7 = .ok (.iload 4, 2) := by decide +kernel
theorem dL_compare_9 : decode cL_compare 9 = .ok (.invokevirtual 83, 3) := by decide +kernel
theorem dL_compare_12 : decode cL_compare 12 = .ok (.i2l, 1) := by decide +kernel
theorem dL_compare_13 : decode cL_compare 13 = .ok (.lastore, 1) := by decide +kernel
theorem dL_compare_14 : decode cL_compare 14 = .ok (.goto 15, 3) := by decide +kernel
theorem dL_compare_17 : decode cL_compare 17 = .ok (.astore 6, 2) := by decide +kernel
theorem dL_compare_19 : decode cL_compare 19 = .ok (.iconst 1, 1) := by decide +kernel
theorem dL_compare_20 : decode cL_compare 20 = .ok (.ireturn, 1) := by decide +kernel
theorem dL_compare_21 : decode cL_compare 21 = .ok (.astore 6, 2) := by decide +kernel
theorem dL_compare_23 : decode cL_compare 23 = .ok (.iconst 2, 1) := by decide +kernel
theorem dL_compare_24 : decode cL_compare 24 = .ok (.ireturn, 1) := by decide +kernel
theorem dL_compare_25 : decode cL_compare 25 = .ok (.astore 6, 2) := by decide +kernel
theorem dL_compare_27 : decode cL_compare 27 = .ok (.iconst 3, 1) := by decide +kernel
theorem dL_compare_28 : decode cL_compare 28 = .ok (.ireturn, 1) := by decide +kernel
theorem dL_compare_29 : decode cL_compare 29 = .ok (.iconst 0, 1) := by decide +kernel
theorem dL_compare_30 : decode cL_compare 30 = .ok (.ireturn, 1) := by decide +kernel
theorem dL_levels_0 : decode cL_levels 0 = .ok (.aload_n 2, 1) := by decide +kernel
theorem dL_levels_1 : decode cL_levels 1 = .ok (.iconst 0, 1) := by decide +kernel
theorem dL_levels_2 : decode cL_levels 2 = .ok (.aload_n 0, 1) := by decide +kernel
theorem dL_levels_3 : decode cL_levels 3 = .ok (.iload_n 1, 1) := by decide +kernel
theorem dL_levels_4 : decode cL_levels 4 = .ok (.invokevirtual 87, 3) := by decide +kernel
theorem dL_levels_7 : decode cL_levels 7 = .ok (.i2l, 1) := by decide +kernel
theorem dL_levels_8 : decode cL_levels 8 = .ok (.lastore, 1) := by decide +kernel
theorem dL_levels_9 : decode cL_levels 9 = .ok (.goto 6, 3) := by decide +kernel
theorem dL_levels_12 : decode cL_levels 12 = .ok (.astore_n 3, 1) := by decide +kernel
theorem dL_levels_13 : decode cL_levels 13 = .ok (.iconst 1, 1) := by decide +kernel
theorem dL_levels_14 : decode cL_levels 14 = .ok (.ireturn, 1) := by decide +kernel
theorem dL_levels_15 : decode cL_levels 15 = .ok (.iconst 0, 1) := by decide +kernel
theorem dL_levels_16 : decode cL_levels 16 = .ok (.ireturn, 1) := by decide +kernel
theorem dL_law_0 : decode cL_law 0 = .ok (.new 8, 3) := by decide +kernel
