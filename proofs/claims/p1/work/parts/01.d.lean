set_option maxRecDepth 20000 in
theorem gX3_voice_X3_isIn : GoodIn wsX3_voice (va_wsS RX3 19 yX3_isIn wsX3_isIn) := goodIn_app (goodIn_of _ (by decide +kernel)) ggX3_voice_X3_isIn
set_option maxRecDepth 20000 in
theorem ggX3_voice_X2_fact : GoodIn wsX3_voice wsX2_fact := goodIn_r _ [14, 15, 16, 17, 18, 19, 7, 8, 9, 27, 28, 29, 30, 31, 32, 33] (by decide +kernel) (by decide +kernel)
set_option maxRecDepth 20000 in
theorem gX3_voice_X2_fact : GoodIn wsX3_voice (wsV RX3 122 RX2 yX2_fact wsX2_fact) := goodIn_app (goodIn_of _ (by decide +kernel)) ggX3_voice_X2_fact
theorem dX3_voice_0 : decode cX3_voice 0 = .ok (.iload_n 1, 1) := by decide +kernel
theorem dX3_voice_1 : decode cX3_voice 1 = .ok (.iconst 0, 1) := by decide +kernel
theorem dX3_voice_2 : decode cX3_voice 2 = .ok (.aload_n 0, 1) := by decide +kernel
theorem dX3_voice_3 : decode cX3_voice 3 = .ok (.getfield 10, 3) := by decide +kernel
theorem dX3_voice_6 : decode cX3_voice 6 = .ok (.getfield 111, 3) := by decide +kernel
theorem dX3_voice_9 : decode cX3_voice 9 = .ok (.getfield 115, 3) := by decide +kernel
theorem dX3_voice_12 : decode cX3_voice 12 = .ok (.iconst 1, 1) := by decide +kernel
theorem dX3_voice_13 : decode cX3_voice 13 = .ok (.isub, 1) := by decide +kernel
theorem dX3_voice_14 : decode cX3_voice 14 = .ok (.invokestatic 19, 3) := by decide +kernel
theorem dX3_voice_17 : decode cX3_voice 17 = .ok (.ifCond .eq 12, 3) := by decide +kernel
theorem dX3_voice_20 : decode cX3_voice 20 = .ok (.iload_n 2, 1) := by decide +kernel
theorem dX3_voice_21 : decode cX3_voice 21 = .ok (.iconst 0, 1) := by decide +kernel
theorem dX3_voice_22 : decode cX3_voice 22 = .ok (.iconst 3, 1) := by decide +kernel
theorem dX3_voice_23 : decode cX3_voice 23 = .ok (.invokestatic 19, 3) := by decide +kernel
theorem dX3_voice_26 : decode cX3_voice 26 = .ok (.ifCond .ne 13, 3) := by decide +kernel
theorem dX3_voice_29 : decode cX3_voice 29 = .ok (.new 55, 3) := by decide +kernel
theorem dX3_voice_32 : decode cX3_voice 32 = .ok (.dup, 1) := by decide +kernel
theorem dX3_voice_33 : decode cX3_voice 33 = .ok (.ldc 120, 2) := by decide +kernel
theorem dX3_voice_35 : decode cX3_voice 35 = .ok (.invokespecial 59, 3) := by decide +kernel
theorem dX3_voice_38 : decode cX3_voice 38 = .ok (.athrow, 1) := by decide +kernel
theorem dX3_voice_39 : decode cX3_voice 39 = .ok (.aload_n 0, 1) := by decide +kernel
theorem dX3_voice_40 : decode cX3_voice 40 = .ok (.getfield 10, 3) := by decide +kernel
theorem dX3_voice_43 : decode cX3_voice 43 = .ok (.getfield 111, 3) := by decide +kernel
theorem dX3_voice_46 : decode cX3_voice 46 = .ok (.iload_n 1, 1) := by decide +kernel
theorem dX3_voice_47 : decode cX3_voice 47 = .ok (.iload_n 2, 1) := by decide +kernel
theorem dX3_voice_48 : decode cX3_voice 48 = .ok (.invokevirtual 122, 3) := by decide +kernel
theorem dX3_voice_51 : decode cX3_voice 51 = .ok (.ireturn, 1) := by decide +kernel
set_option maxRecDepth 20000 in
theorem ggX3_count_X3_isIn : GoodIn wsX3_count wsX3_isIn := goodIn_r _ [7] (by decide +kernel) (by decide +kernel)
set_option maxRecDepth 20000 in
theorem gX3_count_X3_isIn : GoodIn wsX3_count (va_wsS RX3 19 yX3_isIn wsX3_isIn) := goodIn_app (goodIn_of _ (by decide +kernel)) ggX3_count_X3_isIn
set_option maxRecDepth 20000 in
theorem ggX3_count_X1_fact : GoodIn wsX3_count wsX1_fact := goodIn_r _ [12, 13, 14, 15, 16, 17, 18, 19, 20, 11, 21, 22, 23, 24, 25, 26, 27, 30, 31, 32, 33, 34, 35, 36, 37, 38, 39, 40, 41, 42, 43, 44, 45, 46, 47, 48, 49, 50, 51, 52, 53, 54, 55] (by decide +kernel) (by decide +kernel)
set_option maxRecDepth 20000 in
theorem gX3_count_X1_fact : GoodIn wsX3_count (wsV RX3 126 RX1 yX1_fact wsX1_fact) := goodIn_app (goodIn_of _ (by decide +kernel)) ggX3_count_X1_fact
theorem dX3_count_0 : decode cX3_count 0 = .ok (.iload_n 1, 1) := by decide +kernel
theorem dX3_count_1 : decode cX3_count 1 = .ok (.iconst 0, 1) := by decide +kernel
theorem dX3_count_2 : decode cX3_count 2 = .ok (.bipush 8, 2) := by decide +kernel
theorem dX3_count_4 : decode cX3_count 4 = .ok (.invokestatic 19, 3) := by decide +kernel
theorem dX3_count_7 : decode cX3_count 7 = .ok (.ifCond .ne 13, 3) := by decide +kernel
theorem dX3_count_10 : decode cX3_count 10 = .ok (.new 55, 3) := by decide +kernel
theorem dX3_count_13 : decode cX3_count 13 = .ok (.dup, 1) := by decide +kernel
theorem dX3_count_14 : decode cX3_count 14 = .ok (.ldc 124, 2) := by decide +kernel
theorem dX3_count_16 : decode cX3_count 16 = .ok (.invokespecial 59, 3) := by decide +kernel
theorem dX3_count_19 : decode cX3_count 19 = .ok (.athrow, 1) := by decide +kernel
theorem dX3_count_20 : decode cX3_count 20 = .ok (.aload_n 0, 1) := by decide +kernel
theorem dX3_count_21 : decode cX3_count 21 = .ok (.getfield 10, 3) := by decide +kernel
theorem dX3_count_24 : decode cX3_count 24 = .ok (.iload_n 1, 1) := by decide +kernel
theorem dX3_count_25 : decode cX3_count 25 = .ok (.invokevirtual 126, 3) := by decide +kernel
theorem dX3_count_28 : decode cX3_count 28 = .ok (.ireturn, 1) := by decide +kernel
set_option maxRecDepth 20000 in
theorem ggX3_reach_X1_isDoor : GoodIn wsX3_reach wsX1_isDoor := goodIn_r _ [8, 9, 24, 25, 26, 27, 28] (by decide +kernel) (by decide +kernel)
set_option maxRecDepth 20000 in
theorem gX3_reach_X1_isDoor : GoodIn wsX3_reach (wsV RX3 52 RX1 yX1_isDoor wsX1_isDoor) := goodIn_app (goodIn_of _ (by decide +kernel)) ggX3_reach_X1_isDoor
set_option maxRecDepth 20000 in
theorem ggX3_reach_X1_reachedFrom : GoodIn wsX3_reach wsX1_reachedFrom := goodIn_r _ [13, 9, 14, 15, 16, 7, 17, 18, 19, 20, 21, 5, 6, 8, 24, 25, 26, 27, 28, 29, 30, 31, 32, 33, 34, 35, 36, 37, 38, 39, 40, 41, 42] (by decide +kernel) (by decide +kernel)
set_option maxRecDepth 20000 in
theorem gX3_reach_X1_reachedFrom : GoodIn wsX3_reach (wsV RX3 127 RX1 yX1_reachedFrom wsX1_reachedFrom) := goodIn_app (goodIn_of _ (by decide +kernel)) ggX3_reach_X1_reachedFrom
theorem dX3_reach_0 : decode cX3_reach 0 = .ok (.aload_n 0, 1) := by decide +kernel
theorem dX3_reach_1 : decode cX3_reach 1 = .ok (.getfield 10, 3) := by decide +kernel
theorem dX3_reach_4 : decode cX3_reach 4 = .ok (.iload_n 1, 1) := by decide +kernel
theorem dX3_reach_5 : decode cX3_reach 5 = .ok (.invokevirtual 52, 3) := by decide +kernel
theorem dX3_reach_8 : decode cX3_reach 8 = .ok (.ifCond .ne 13, 3) := by decide +kernel
theorem dX3_reach_11 : decode cX3_reach 11 = .ok (.new 55, 3) := by decide +kernel
theorem dX3_reach_14 : decode cX3_reach 14 = .ok (.dup, 1) := by decide +kernel
theorem dX3_reach_15 : decode cX3_reach 15 = .ok (.ldc 57, 2) := by decide +kernel
theorem dX3_reach_17 : decode cX3_reach 17 = .ok (.invokespecial 59, 3) := by decide +kernel
theorem dX3_reach_20 : decode cX3_reach 20 = .ok (.athrow, 1) := by decide +kernel
theorem dX3_reach_21 : decode cX3_reach 21 = .ok (.aload_n 0, 1) := by decide +kernel
theorem dX3_reach_22 : decode cX3_reach 22 = .ok (.getfield 10, 3) := by decide +kernel
theorem dX3_reach_25 : decode cX3_reach 25 = .ok (.iload_n 1, 1) := by decide +kernel
theorem dX3_reach_26 : decode cX3_reach 26 = .ok (.invokevirtual 127, 3) := by decide +kernel
theorem dX3_reach_29 : decode cX3_reach 29 = .ok (.ireturn, 1) := by decide +kernel
set_option maxRecDepth 20000 in
theorem ggX3_pass_X3_isIn : GoodIn wsX3_pass wsX3_isIn := goodIn_r _ [7] (by decide +kernel) (by decide +kernel)
set_option maxRecDepth 20000 in
theorem gX3_pass_X3_isIn : GoodIn wsX3_pass (va_wsS RX3 19 yX3_isIn wsX3_isIn) := goodIn_app (goodIn_of _ (by decide +kernel)) ggX3_pass_X3_isIn
set_option maxRecDepth 20000 in
theorem ggX3_pass_X1_tickOn : GoodIn wsX3_pass wsX1_tickOn := goodIn_r _ [12, 13, 14, 15, 16, 17, 18, 19, 20, 21, 22, 23, 24, 25, 26, 27, 28, 29, 30, 31, 32, 33, 34, 35, 36, 37, 38, 39, 40, 41, 42, 43, 44, 45, 46, 47, 48, 49, 50, 51, 52, 53, 11, 54, 55, 56, 57, 58, 59, 60, 61, 62, 63, 64, 65, 66, 67, 68, 69, 70, 71, 72, 73, 74, 75, 76, 77, 78, 79, 80, 81, 82, 83, 84, 85, 86, 87, 88, 89, 90, 91, 92, 93, 94, 95, 96, 97, 98, 99, 100, 101, 102, 103, 104, 105, 106, 107, 108, 109, 110, 111, 112, 113, 114, 115, 116, 117, 118, 119, 120, 121, 122, 123, 124, 125, 126, 127, 128, 131, 132, 133, 134, 135, 136, 137, 138, 139, 140, 141, 142, 143, 144, 145, 146, 147, 148, 149, 150, 151, 152, 153, 154, 155, 156] (by decide +kernel) (by decide +kernel)
set_option maxRecDepth 20000 in
theorem gX3_pass_X1_tickOn : GoodIn wsX3_pass (wsV RX3 132 RX1 yX1_tickOn wsX1_tickOn) := goodIn_app (goodIn_of _ (by decide +kernel)) ggX3_pass_X1_tickOn
theorem dX3_pass_0 : decode cX3_pass 0 = .ok (.iload_n 1, 1) := by decide +kernel
theorem dX3_pass_1 : decode cX3_pass 1 = .ok (.iconst 1, 1) := by decide +kernel
theorem dX3_pass_2 : decode cX3_pass 2 = .ok (.sipush 200, 3) := by decide +kernel
theorem dX3_pass_5 : decode cX3_pass 5 = .ok (.invokestatic 19, 3) := by decide +kernel
theorem dX3_pass_8 : decode cX3_pass 8 = .ok (.ifCond .ne 13, 3) := by decide +kernel
theorem dX3_pass_11 : decode cX3_pass 11 = .ok (.new 23, 3) := by decide +kernel
theorem dX3_pass_14 : decode cX3_pass 14 = .ok (.dup, 1) := by decide +kernel
theorem dX3_pass_15 : decode cX3_pass 15 = .ok (.ldc 130, 2) := by decide +kernel
theorem dX3_pass_17 : decode cX3_pass 17 = .ok (.invokespecial 27, 3) := by decide +kernel
theorem dX3_pass_20 : decode cX3_pass 20 = .ok (.athrow, 1) := by decide +kernel
theorem dX3_pass_21 : decode cX3_pass 21 = .ok (.iconst 0, 1) := by decide +kernel
theorem dX3_pass_22 : decode cX3_pass 22 = .ok (.istore_n 2, 1) := by decide +kernel
theorem dX3_pass_23 : decode cX3_pass 23 = .ok (.iconst 0, 1) := by decide +kernel
theorem dX3_pass_24 : decode cX3_pass 24 = .ok (.istore_n 3, 1) := by decide +kernel
theorem dX3_pass_25 : decode cX3_pass 25 = .ok (.iload_n 3, 1) := by decide +kernel
theorem dX3_pass_26 : decode cX3_pass 26 = .ok (.iload_n 1, 1) := by decide +kernel
theorem dX3_pass_27 : decode cX3_pass 27 = .ok (.if_icmp .ge 19, 3) := by decide +kernel
theorem dX3_pass_30 : decode cX3_pass 30 = .ok (.iload_n 2, 1) := by decide +kernel
theorem dX3_pass_31 : decode cX3_pass 31 = .ok (.aload_n 0, 1) := by decide +kernel
theorem dX3_pass_32 : decode cX3_pass 32 = .ok (.getfield 10, 3) := by decide +kernel
theorem dX3_pass_35 : decode cX3_pass 35 = .ok (.invokevirtual 132, 3) := by decide +kernel
theorem dX3_pass_38 : decode cX3_pass 38 = .ok (.iadd, 1) := by decide +kernel
theorem dX3_pass_39 : decode cX3_pass 39 = .ok (.istore_n 2, 1) := by decide +kernel
theorem dX3_pass_40 : decode cX3_pass 40 = .ok (.iinc 3 1, 3) := by decide +kernel
theorem dX3_pass_43 : decode cX3_pass 43 = .ok (.goto (-18), 3) := by decide +kernel
theorem dX3_pass_46 : decode cX3_pass 46 = .ok (.iload_n 2, 1) := by decide +kernel
theorem dX3_pass_47 : decode cX3_pass 47 = .ok (.ireturn, 1) := by decide +kernel
set_option maxRecDepth 20000 in
theorem ggX3_opens_X1_isDoor : GoodIn wsX3_opens wsX1_isDoor := goodIn_r _ [11, 12, 150, 151, 152, 153, 154] (by decide +kernel) (by decide +kernel)
set_option maxRecDepth 20000 in
theorem gX3_opens_X1_isDoor : GoodIn wsX3_opens (wsV RX3 52 RX1 yX1_isDoor wsX1_isDoor) := goodIn_app (goodIn_of _ (by decide +kernel)) ggX3_opens_X1_isDoor
set_option maxRecDepth 20000 in
theorem ggX3_opens_X1_copyFrom : GoodIn wsX3_opens wsX1_copyFrom := goodIn_r _ [16, 17, 12, 18, 19, 20, 21, 22, 23, 24, 25, 26, 27, 28, 29, 30, 31, 32, 33, 34, 35, 36, 37, 38, 39, 40, 41, 42, 43, 44, 45, 46, 47, 48, 49, 50, 51, 52, 53, 54, 55, 150, 151, 152, 153, 154, 155, 156, 157, 158, 159, 160, 161, 162, 163, 164, 165, 166, 167, 168, 169, 170, 171, 172, 173, 174, 175] (by decide +kernel) (by decide +kernel)
set_option maxRecDepth 20000 in
theorem gX3_opens_X1_copyFrom : GoodIn wsX3_opens (wsV RX3 136 RX1 yX1_copyFrom wsX1_copyFrom) := goodIn_app (goodIn_of _ (by decide +kernel)) ggX3_opens_X1_copyFrom
set_option maxRecDepth 20000 in
theorem ggX3_opens_X1_tickOn : GoodIn wsX3_opens wsX1_tickOn := goodIn_r _ [59, 12, 18, 19, 60, 61, 62, 63, 64, 65, 66, 17, 67, 68, 69, 23, 70, 28, 29, 71, 72, 73, 46, 74, 48, 54, 50, 52, 53, 55, 75, 76, 77, 78, 49, 79, 80, 81, 82, 83, 84, 85, 10, 86, 87, 8, 9, 11, 88, 89, 90, 91, 39, 92, 93, 94, 95, 32, 33, 96, 97, 98, 99, 100, 101, 102, 103, 104, 105, 106, 107, 26, 108, 109, 110, 111, 40, 41, 42, 112, 113, 114, 115, 116, 117, 118, 119, 120, 121, 122, 123, 124, 125, 126, 127, 128, 129, 130, 131, 132, 133, 134, 135, 27, 136, 137, 138, 139, 30, 140, 141, 142, 143, 31, 144, 145, 146, 147, 150, 151, 152, 153, 154, 169, 170, 171, 172, 173, 174, 175, 155, 156, 157, 158, 159, 160, 161, 162, 163, 164, 165, 166, 167, 168] (by decide +kernel) (by decide +kernel)
set_option maxRecDepth 20000 in
theorem gX3_opens_X1_tickOn : GoodIn wsX3_opens (wsV RX3 132 RX1 yX1_tickOn wsX1_tickOn) := goodIn_app (goodIn_of _ (by decide +kernel)) ggX3_opens_X1_tickOn
theorem dX3_opens_0 : decode cX3_opens 0 = .ok (.aload_n 0, 1) := by decide +kernel
theorem dX3_opens_1 : decode cX3_opens 1 = .ok (.getfield 10, 3) := by decide +kernel
theorem dX3_opens_4 : decode cX3_opens 4 = .ok (.iload_n 1, 1) := by decide +kernel
theorem dX3_opens_5 : decode cX3_opens 5 = .ok (.invokevirtual 52, 3) := by decide +kernel
theorem dX3_opens_8 : decode cX3_opens 8 = .ok (.ifCond .ne 13, 3) := by decide +kernel
theorem dX3_opens_11 : decode cX3_opens 11 = .ok (.new 55, 3) := by decide +kernel
theorem dX3_opens_14 : decode cX3_opens 14 = .ok (.dup, 1) := by decide +kernel
theorem dX3_opens_15 : decode cX3_opens 15 = .ok (.ldc 57, 2) := by decide +kernel
theorem dX3_opens_17 : decode cX3_opens 17 = .ok (.invokespecial 59, 3) := by decide +kernel
theorem dX3_opens_20 : decode cX3_opens 20 = .ok (.athrow, 1) := by decide +kernel
theorem dX3_opens_21 : decode cX3_opens 21 = .ok (.aload_n 0, 1) := by decide +kernel
theorem dX3_opens_22 : decode cX3_opens 22 = .ok (.getfield 10, 3) := by decide +kernel
theorem dX3_opens_25 : decode cX3_opens 25 = .ok (.getfield 62, 3) := by decide +kernel
theorem dX3_opens_28 : decode cX3_opens 28 = .ok (.iload_n 1, 1) := by decide +kernel
theorem dX3_opens_29 : decode cX3_opens 29 = .ok (.aaload, 1) := by decide +kernel
theorem dX3_opens_30 : decode cX3_opens 30 = .ok (.getfield 66, 3) := by decide +kernel
theorem dX3_opens_33 : decode cX3_opens 33 = .ok (.iconst 2, 1) := by decide +kernel
theorem dX3_opens_34 : decode cX3_opens 34 = .ok (.if_icmp .ne 5, 3) := by decide +kernel
theorem dX3_opens_37 : decode cX3_opens 37 = .ok (.iconst 0, 1) := by decide +kernel
theorem dX3_opens_38 : decode cX3_opens 38 = .ok (.ireturn, 1) := by decide +kernel
theorem dX3_opens_39 : decode cX3_opens 39 = .ok (.aload_n 0, 1) := by decide +kernel
theorem dX3_opens_40 : decode cX3_opens 40 = .ok (.getfield 16, 3) := by decide +kernel
theorem dX3_opens_43 : decode cX3_opens 43 = .ok (.aload_n 0, 1) := by decide +kernel
theorem dX3_opens_44 : decode cX3_opens 44 = .ok (.getfield 10, 3) := by decide +kernel
theorem dX3_opens_47 : decode cX3_opens 47 = .ok (.invokevirtual 136, 3) := by decide +kernel
theorem dX3_opens_50 : decode cX3_opens 50 = .ok (.iconst 1, 1) := by decide +kernel
theorem dX3_opens_51 : decode cX3_opens 51 = .ok (.istore_n 2, 1) := by decide +kernel
theorem dX3_opens_52 : decode cX3_opens 52 = .ok (.iload_n 2, 1) := by decide +kernel
theorem dX3_opens_53 : decode cX3_opens 53 = .ok (.bipush 100, 2) := by decide +kernel
theorem dX3_opens_55 : decode cX3_opens 55 = .ok (.if_icmp .gt 35, 3) := by decide +kernel
theorem dX3_opens_58 : decode cX3_opens 58 = .ok (.aload_n 0, 1) := by decide +kernel
theorem dX3_opens_59 : decode cX3_opens 59 = .ok (.getfield 16, 3) := by decide +kernel
theorem dX3_opens_62 : decode cX3_opens 62 = .ok (.invokevirtual 132, 3) := by decide +kernel
theorem dX3_opens_65 : decode cX3_opens 65 = .ok (.pop, 1) := by decide +kernel
theorem dX3_opens_66 : decode cX3_opens 66 = .ok (.aload_n 0, 1) := by decide +kernel
theorem dX3_opens_67 : decode cX3_opens 67 = .ok (.getfield 16, 3) := by decide +kernel
theorem dX3_opens_70 : decode cX3_opens 70 = .ok (.getfield 62, 3) := by decide +kernel
theorem dX3_opens_73 : decode cX3_opens 73 = .ok (.iload_n 1, 1) := by decide +kernel
theorem dX3_opens_74 : decode cX3_opens 74 = .ok (.aaload, 1) := by decide +kernel
theorem dX3_opens_75 : decode cX3_opens 75 = .ok (.getfield 66, 3) := by decide +kernel
theorem dX3_opens_78 : decode cX3_opens 78 = .ok (.iconst 2, 1) := by decide +kernel
theorem dX3_opens_79 : decode cX3_opens 79 = .ok (.if_icmp .ne 5, 3) := by decide +kernel
theorem dX3_opens_82 : decode cX3_opens 82 = .ok (.iload_n 2, 1) := by decide +kernel
theorem dX3_opens_83 : decode cX3_opens 83 = .ok (.ireturn, 1) := by decide +kernel
theorem dX3_opens_84 : decode cX3_opens 84 = .ok (.iinc 2 1, 3) := by decide +kernel
theorem dX3_opens_87 : decode cX3_opens 87 = .ok (.goto (-35), 3) := by decide +kernel
theorem dX3_opens_90 : decode cX3_opens 90 = .ok (.iconst (-1), 1) := by decide +kernel
theorem dX3_opens_91 : decode cX3_opens 91 = .ok (.ireturn, 1) := by decide +kernel
set_option maxRecDepth 20000 in
theorem ggX3_would_X1_isDoor : GoodIn wsX3_would wsX1_isDoor := goodIn_r _ [10, 11, 170, 171, 172, 173, 174] (by decide +kernel) (by decide +kernel)
set_option maxRecDepth 20000 in
theorem gX3_would_X1_isDoor : GoodIn wsX3_would (wsV RX3 52 RX1 yX1_isDoor wsX1_isDoor) := goodIn_app (goodIn_of _ (by decide +kernel)) ggX3_would_X1_isDoor
set_option maxRecDepth 20000 in
theorem ggX3_would_X3_isIn : GoodIn wsX3_would wsX3_isIn := goodIn_r _ [15] (by decide +kernel) (by decide +kernel)
set_option maxRecDepth 20000 in
theorem gX3_would_X3_isIn : GoodIn wsX3_would (va_wsS RX3 19 yX3_isIn wsX3_isIn) := goodIn_app (goodIn_of _ (by decide +kernel)) ggX3_would_X3_isIn
set_option maxRecDepth 20000 in
theorem ggX3_would_X3_openedByWhisper : GoodIn wsX3_would wsX3_openedByWhisper := goodIn_r _ [19, 20, 5, 21, 22, 23, 24, 25, 9, 26, 27, 11, 28, 29, 30, 31, 32, 33, 34, 35, 36, 37, 38, 39, 40, 41, 42, 43, 44, 45, 46, 47, 48, 49, 50, 51, 52, 53, 54, 55, 56, 57, 58, 59, 60, 61, 62, 63, 64, 65, 66, 67, 68, 69, 70, 71, 72, 7, 8, 10, 73, 74, 75, 76, 77, 78, 79, 80, 81, 82, 83, 84, 85, 86, 87, 88, 89, 90, 91, 92, 93, 94, 95, 96, 97, 98, 99, 100, 101, 102, 103, 104, 105, 106, 107, 108, 109, 110, 111, 112, 113, 114, 115, 116, 117, 118, 119, 120, 121, 122, 123, 124, 125, 126, 127, 128, 129, 130, 131, 132, 133, 134, 135, 136, 137, 138, 139, 140, 141, 142, 143, 144, 145, 146, 147, 148, 149, 150, 151, 152, 153, 154, 155, 156, 157, 158, 159, 160, 161, 162, 163, 164, 165, 166, 167, 168, 169, 170, 171, 172, 173, 174, 175, 176, 177, 178, 179, 180, 181, 182, 183, 184, 185, 186, 187, 188, 189, 190, 191, 192, 193, 194, 195] (by decide +kernel) (by decide +kernel)
set_option maxRecDepth 20000 in
theorem gX3_would_X3_openedByWhisper : GoodIn wsX3_would (wsV RX3 142 RX3 yX3_openedByWhisper wsX3_openedByWhisper) := goodIn_app (goodIn_of _ (by decide +kernel)) ggX3_would_X3_openedByWhisper
theorem dX3_would_0 : decode cX3_would 0 = .ok (.aload_n 0, 1) := by decide +kernel
theorem dX3_would_1 : decode cX3_would 1 = .ok (.getfield 10, 3) := by decide +kernel
theorem dX3_would_4 : decode cX3_would 4 = .ok (.iload_n 1, 1) := by decide +kernel
theorem dX3_would_5 : decode cX3_would 5 = .ok (.invokevirtual 52, 3) := by decide +kernel
theorem dX3_would_8 : decode cX3_would 8 = .ok (.ifCond .ne 13, 3) := by decide +kernel
theorem dX3_would_11 : decode cX3_would 11 = .ok (.new 55, 3) := by decide +kernel
theorem dX3_would_14 : decode cX3_would 14 = .ok (.dup, 1) := by decide +kernel
theorem dX3_would_15 : decode cX3_would 15 = .ok (.ldc 57, 2) := by decide +kernel
theorem dX3_would_17 : decode cX3_would 17 = .ok (.invokespecial 59, 3) := by decide +kernel
theorem dX3_would_20 : decode cX3_would 20 = .ok (.athrow, 1) := by decide +kernel
theorem dX3_would_21 : decode cX3_would 21 = .ok (.iload_n 2, 1) := by decide +kernel
theorem dX3_would_22 : decode cX3_would 22 = .ok (.iconst 1, 1) := by decide +kernel
theorem dX3_would_23 : decode cX3_would 23 = .ok (.bipush 100, 2) := by decide +kernel
theorem dX3_would_25 : decode cX3_would 25 = .ok (.invokestatic 19, 3) := by decide +kernel
theorem dX3_would_28 : decode cX3_would 28 = .ok (.ifCond .ne 13, 3) := by decide +kernel
theorem dX3_would_31 : decode cX3_would 31 = .ok (.new 23, 3) := by decide +kernel
theorem dX3_would_34 : decode cX3_would 34 = .ok (.dup, 1) := by decide +kernel
theorem dX3_would_35 : decode cX3_would 35 = .ok (.ldc 140, 2) := by decide +kernel
theorem dX3_would_37 : decode cX3_would 37 = .ok (.invokespecial 27, 3) := by decide +kernel
theorem dX3_would_40 : decode cX3_would 40 = .ok (.athrow, 1) := by decide +kernel
theorem dX3_would_41 : decode cX3_would 41 = .ok (.aload_n 0, 1) := by decide +kernel
theorem dX3_would_42 : decode cX3_would 42 = .ok (.iload_n 1, 1) := by decide +kernel
theorem dX3_would_43 : decode cX3_would 43 = .ok (.iload_n 2, 1) := by decide +kernel
theorem dX3_would_44 : decode cX3_would 44 = .ok (.invokevirtual 142, 3) := by decide +kernel
theorem dX3_would_47 : decode cX3_would 47 = .ok (.ireturn, 1) := by decide +kernel
set_option maxRecDepth 20000 in
theorem ggX3_best_X3_isIn : GoodIn wsX3_best wsX3_isIn := goodIn_r _ [8] (by decide +kernel) (by decide +kernel)
set_option maxRecDepth 20000 in
theorem gX3_best_X3_isIn : GoodIn wsX3_best (va_wsS RX3 19 yX3_isIn wsX3_isIn) := goodIn_app (goodIn_of _ (by decide +kernel)) ggX3_best_X3_isIn
set_option maxRecDepth 20000 in
theorem ggX3_best_X3_openedByWhisper : GoodIn wsX3_best wsX3_openedByWhisper := goodIn_r _ [12, 13, 3, 14, 15, 16, 17, 18, 19, 20, 21, 22, 23, 24, 25, 26, 27, 28, 29, 30, 31, 32, 33, 34, 35, 36, 37, 38, 39, 40, 41, 42, 43, 44, 45, 46, 47, 48, 49, 50, 51, 52, 53, 54, 55, 56, 57, 58, 59, 60, 61, 62, 63, 64, 65, 66, 67, 68, 69, 70, 71, 72, 73, 74, 75, 76, 77, 78, 79, 80, 81, 82, 83, 84, 85, 86, 87, 88, 89, 90, 91, 92, 93, 94, 95, 96, 97, 98, 99, 100, 101, 102, 103, 104, 105, 106, 107, 108, 109, 110, 111, 112, 113, 114, 115, 116, 117, 118, 119, 120, 121, 122, 123, 124, 125, 126, 127, 128, 129, 130, 131, 132, 133, 134, 135, 136, 137, 138, 139, 140, 141, 142, 143, 144, 145, 146, 147, 148, 149, 150, 151, 152, 153, 154, 155, 156, 157, 158, 159, 160, 161, 162, 163, 164, 165, 173, 174, 175, 176, 177, 178, 179, 180, 181, 182, 183, 184, 185, 186, 187, 188, 189, 190, 191, 192, 193, 194, 195, 196, 197, 198, 199, 200] (by decide +kernel) (by decide +kernel)
set_option maxRecDepth 20000 in
theorem gX3_best_X3_openedByWhisper : GoodIn wsX3_best (wsV RX3 142 RX3 yX3_openedByWhisper wsX3_openedByWhisper) := goodIn_app (goodIn_of _ (by decide +kernel)) ggX3_best_X3_openedByWhisper
set_option maxRecDepth 20000 in
theorem ggX3_best_J6_bitCount_0f7a4 : GoodIn wsX3_best wsJ6_bitCount_0f7a4 := goodIn_r _ [169, 170, 171, 172] (by decide +kernel) (by decide +kernel)
set_option maxRecDepth 20000 in
theorem gX3_best_J6_bitCount_0f7a4 : GoodIn wsX3_best (va_wsS RX3 147 yJ6_bitCount_0f7a4 wsJ6_bitCount_0f7a4) := goodIn_app (goodIn_of _ (by decide +kernel)) ggX3_best_J6_bitCount_0f7a4
theorem dX3_best_0 : decode cX3_best 0 = .ok (.iload_n 1, 1) := by decide +kernel
theorem dX3_best_1 : decode cX3_best 1 = .ok (.iconst 1, 1) := by decide +kernel
theorem dX3_best_2 : decode cX3_best 2 = .ok (.bipush 30, 2) := by decide +kernel
theorem dX3_best_4 : decode cX3_best 4 = .ok (.invokestatic 19, 3) := by decide +kernel
theorem dX3_best_7 : decode cX3_best 7 = .ok (.ifCond .ne 13, 3) := by decide +kernel
theorem dX3_best_10 : decode cX3_best 10 = .ok (.new 23, 3) := by decide +kernel
theorem dX3_best_13 : decode cX3_best 13 = .ok (.dup, 1) := by decide +kernel
theorem dX3_best_14 : decode cX3_best 14 = .ok (.ldc 145, 2) := by decide +kernel
theorem dX3_best_16 : decode cX3_best 16 = .ok (.invokespecial 27, 3) := by decide +kernel
theorem dX3_best_19 : decode cX3_best 19 = .ok (.athrow, 1) := by decide +kernel
theorem dX3_best_20 : decode cX3_best 20 = .ok (.iconst (-1), 1) := by decide +kernel
theorem dX3_best_21 : decode cX3_best 21 = .ok (.istore_n 2, 1) := by decide +kernel
theorem dX3_best_22 : decode cX3_best 22 = .ok (.iconst (-1), 1) := by decide +kernel
theorem dX3_best_23 : decode cX3_best 23 = .ok (.istore_n 3, 1) := by decide +kernel
theorem dX3_best_24 : decode cX3_best 24 = .ok (.iconst 0, 1) := by decide +kernel
theorem dX3_best_25 : decode cX3_best 25 = .ok (.istore 4, 2) := by decide +kernel
theorem dX3_best_27 : decode cX3_best 27 = .ok (.iload 4, 2) := by decide +kernel
theorem dX3_best_29 : decode cX3_best 29 = .ok (.aload_n 0, 1) := by decide +kernel
theorem dX3_best_30 : decode cX3_best 30 = .ok (.getfield 10, 3) := by decide +kernel
theorem dX3_best_33 : decode cX3_best 33 = .ok (.getfield 39, 3) := by decide +kernel
theorem dX3_best_36 : decode cX3_best 36 = .ok (.if_icmp .ge 33, 3) := by decide +kernel
theorem dX3_best_39 : decode cX3_best 39 = .ok (.aload_n 0, 1) := by decide +kernel
theorem dX3_best_40 : decode cX3_best 40 = .ok (.iload 4, 2) := by decide +kernel
theorem dX3_best_42 : decode cX3_best 42 = .ok (.iload_n 1, 1) := by decide +kernel
theorem dX3_best_43 : decode cX3_best 43 = .ok (.invokevirtual 142, 3) := by decide +kernel
theorem dX3_best_46 : decode cX3_best 46 = .ok (.invokestatic 147, 3) := by decide +kernel
theorem dX3_best_49 : decode cX3_best 49 = .ok (.istore 5, 2) := by decide +kernel
theorem dX3_best_51 : decode cX3_best 51 = .ok (.iload 5, 2) := by decide +kernel
theorem dX3_best_53 : decode cX3_best 53 = .ok (.iload_n 3, 1) := by decide +kernel
theorem dX3_best_54 : decode cX3_best 54 = .ok (.if_icmp .le 9, 3) := by decide +kernel
theorem dX3_best_57 : decode cX3_best 57 = .ok (.iload 5, 2) := by decide +kernel
theorem dX3_best_59 : decode cX3_best 59 = .ok (.istore_n 3, 1) := by decide +kernel
theorem dX3_best_60 : decode cX3_best 60 = .ok (.iload 4, 2) := by decide +kernel
theorem dX3_best_62 : decode cX3_best 62 = .ok (.istore_n 2, 1) := by decide +kernel
theorem dX3_best_63 : decode cX3_best 63 = .ok (.iinc 4 1, 3) := by decide +kernel
theorem dX3_best_66 : decode cX3_best 66 = .ok (.goto (-39), 3) := by decide +kernel
theorem dX3_best_69 : decode cX3_best 69 = .ok (.iload_n 2, 1) := by decide +kernel
theorem dX3_best_70 : decode cX3_best 70 = .ok (.ireturn, 1) := by decide +kernel
theorem dX3_mean_0 : decode cX3_mean 0 = .ok (.iconst 0, 1) := by decide +kernel
theorem dX3_mean_1 : decode cX3_mean 1 = .ok (.istore_n 1, 1) := by decide +kernel
theorem dX3_mean_2 : decode cX3_mean 2 = .ok (.iconst 0, 1) := by decide +kernel
theorem dX3_mean_3 : decode cX3_mean 3 = .ok (.istore_n 2, 1) := by decide +kernel
theorem dX3_mean_4 : decode cX3_mean 4 = .ok (.iconst 0, 1) := by decide +kernel
theorem dX3_mean_5 : decode cX3_mean 5 = .ok (.istore_n 3, 1) := by decide +kernel
theorem dX3_mean_6 : decode cX3_mean 6 = .ok (.iload_n 3, 1) := by decide +kernel
theorem dX3_mean_7 : decode cX3_mean 7 = .ok (.aload_n 0, 1) := by decide +kernel
theorem dX3_mean_8 : decode cX3_mean 8 = .ok (.getfield 10, 3) := by decide +kernel
theorem dX3_mean_11 : decode cX3_mean 11 = .ok (.getfield 39, 3) := by decide +kernel
theorem dX3_mean_14 : decode cX3_mean 14 = .ok (.if_icmp .ge 39, 3) := by decide +kernel
theorem dX3_mean_17 : decode cX3_mean 17 = .ok (.iload_n 1, 1) := by decide +kernel
theorem dX3_mean_18 : decode cX3_mean 18 = .ok (.aload_n 0, 1) := by decide +kernel
theorem dX3_mean_19 : decode cX3_mean 19 = .ok (.getfield 10, 3) := by decide +kernel
theorem dX3_mean_22 : decode cX3_mean 22 = .ok (.getfield 62, 3) := by decide +kernel
theorem dX3_mean_25 : decode cX3_mean 25 = .ok (.iload_n 3, 1) := by decide +kernel
theorem dX3_mean_26 : decode cX3_mean 26 = .ok (.aaload, 1) := by decide +kernel
theorem dX3_mean_27 : decode cX3_mean 27 = .ok (.getfield 152, 3) := by decide +kernel
theorem dX3_mean_30 : decode cX3_mean 30 = .ok (.iadd, 1) := by decide +kernel
theorem dX3_mean_31 : decode cX3_mean 31 = .ok (.istore_n 1, 1) := by decide +kernel
theorem dX3_mean_32 : decode cX3_mean 32 = .ok (.iload_n 2, 1) := by decide +kernel
theorem dX3_mean_33 : decode cX3_mean 33 = .ok (.aload_n 0, 1) := by decide +kernel
theorem dX3_mean_34 : decode cX3_mean 34 = .ok (.getfield 10, 3) := by decide +kernel
theorem dX3_mean_37 : decode cX3_mean 37 = .ok (.getfield 62, 3) := by decide +kernel
theorem dX3_mean_40 : decode cX3_mean 40 = .ok (.iload_n 3, 1) := by decide +kernel
theorem dX3_mean_41 : decode cX3_mean 41 = .ok (.aaload, 1) := by decide +kernel
theorem dX3_mean_42 : decode cX3_mean 42 = .ok (.getfield 155, 3) := by decide +kernel
theorem dX3_mean_45 : decode cX3_mean 45 = .ok (.iadd, 1) := by decide +kernel
theorem dX3_mean_46 : decode cX3_mean 46 = .ok (.istore_n 2, 1) := by decide +kernel
theorem dX3_mean_47 : decode cX3_mean 47 = .ok (.iinc 3 1, 3) := by decide +kernel
theorem dX3_mean_50 : decode cX3_mean 50 = .ok (.goto (-44), 3) := by decide +kernel
theorem dX3_mean_53 : decode cX3_mean 53 = .ok (.iload_n 1, 1) := by decide +kernel
theorem dX3_mean_54 : decode cX3_mean 54 = .ok (.iload_n 2, 1) := by decide +kernel
theorem dX3_mean_55 : decode cX3_mean 55 = .ok (.iadd, 1) := by decide +kernel
theorem dX3_mean_56 : decode cX3_mean 56 = .ok (.istore_n 3, 1) := by decide +kernel
theorem dX3_mean_57 : decode cX3_mean 57 = .ok (.iload_n 3, 1) := by decide +kernel
theorem dX3_mean_58 : decode cX3_mean 58 = .ok (.ifCond .le 11, 3) := by decide +kernel
theorem dX3_mean_61 : decode cX3_mean 61 = .ok (.iload_n 1, 1) := by decide +kernel
theorem dX3_mean_62 : decode cX3_mean 62 = .ok (.i2d, 1) := by decide +kernel
theorem dX3_mean_63 : decode cX3_mean 63 = .ok (.iload_n 3, 1) := by decide +kernel
theorem dX3_mean_64 : decode cX3_mean 64 = .ok (.i2d, 1) := by decide +kernel
theorem dX3_mean_65 : decode cX3_mean 65 = .ok (.ddiv, 1) := by decide +kernel
theorem dX3_mean_66 : decode cX3_mean 66 = .ok (.goto 4, 3) := by decide +kernel
theorem dX3_mean_69 : decode cX3_mean 69 = .ok (.dconst 0, 1) := by decide +kernel
theorem dX3_mean_70 : decode cX3_mean 70 = .ok (.dreturn, 1) := by decide +kernel
set_option maxRecDepth 20000 in
theorem ggX3_digest_X1_fact : GoodIn wsX3_digest wsX1_fact := goodIn_r _ [12, 13, 14, 15, 16, 17, 18, 19, 20, 11, 21, 22, 23, 24, 25, 26, 27, 70, 71, 72, 73, 74, 75, 76, 77, 78, 79, 80, 81, 82, 83, 84, 85, 86, 87, 88, 89, 90, 91, 92, 93, 94, 95] (by decide +kernel) (by decide +kernel)
set_option maxRecDepth 20000 in
theorem gX3_digest_X1_fact : GoodIn wsX3_digest (wsV RX3 126 RX1 yX1_fact wsX1_fact) := goodIn_app (goodIn_of _ (by decide +kernel)) ggX3_digest_X1_fact
set_option maxRecDepth 20000 in
theorem ggX3_digest_X3_digestOfDoor : GoodIn wsX3_digest wsX3_digestOfDoor := goodIn_r _ [31, 2, 32, 33, 34, 35, 36, 37, 38, 39, 40, 41, 42, 43, 44, 45, 46, 47, 48, 49, 50, 51, 52, 53, 54, 55, 56, 30, 57, 82, 83, 84, 85, 86, 87, 88, 89, 90, 91, 92, 93, 94, 95] (by decide +kernel) (by decide +kernel)
set_option maxRecDepth 20000 in
theorem gX3_digest_X3_digestOfDoor : GoodIn wsX3_digest (va_wsS RX3 162 yX3_digestOfDoor wsX3_digestOfDoor) := goodIn_app (goodIn_of _ (by decide +kernel)) ggX3_digest_X3_digestOfDoor
set_option maxRecDepth 20000 in
theorem ggX3_digest_X2_fact : GoodIn wsX3_digest wsX2_fact := goodIn_r _ [62, 63, 64, 65, 66, 67, 56, 30, 57, 75, 76, 77, 78, 79, 80, 81] (by decide +kernel) (by decide +kernel)
set_option maxRecDepth 20000 in
theorem gX3_digest_X2_fact : GoodIn wsX3_digest (wsV RX3 122 RX2 yX2_fact wsX2_fact) := goodIn_app (goodIn_of _ (by decide +kernel)) ggX3_digest_X2_fact
theorem dX3_digest_0 : decode cX3_digest 0 = .ok (.ldc2_w 158, 3) := by decide +kernel
theorem dX3_digest_3 : decode cX3_digest 3 = .ok (.lstore_n 1, 1) := by decide +kernel
theorem dX3_digest_4 : decode cX3_digest 4 = .ok (.iconst 0, 1) := by decide +kernel
theorem dX3_digest_5 : decode cX3_digest 5 = .ok (.istore_n 3, 1) := by decide +kernel
theorem dX3_digest_6 : decode cX3_digest 6 = .ok (.iload_n 3, 1) := by decide +kernel
theorem dX3_digest_7 : decode cX3_digest 7 = .ok (.bipush 9, 2) := by decide +kernel
theorem dX3_digest_9 : decode cX3_digest 9 = .ok (.if_icmp .ge 25, 3) := by decide +kernel
theorem dX3_digest_12 : decode cX3_digest 12 = .ok (.lload_n 1, 1) := by decide +kernel
theorem dX3_digest_13 : decode cX3_digest 13 = .ok (.ldc2_w 160, 3) := by decide +kernel
theorem dX3_digest_16 : decode cX3_digest 16 = .ok (.lmul, 1) := by decide +kernel
theorem dX3_digest_17 : decode cX3_digest 17 = .ok (.aload_n 0, 1) := by decide +kernel
theorem dX3_digest_18 : decode cX3_digest 18 = .ok (.getfield 10, 3) := by decide +kernel
theorem dX3_digest_21 : decode cX3_digest 21 = .ok (.iload_n 3, 1) := by decide +kernel
theorem dX3_digest_22 : decode cX3_digest 22 = .ok (.invokevirtual 126, 3) := by decide +kernel
theorem dX3_digest_25 : decode cX3_digest 25 = .ok (.i2l, 1) := by decide +kernel
theorem dX3_digest_26 : decode cX3_digest 26 = .ok (.ladd, 1) := by decide +kernel
theorem dX3_digest_27 : decode cX3_digest 27 = .ok (.lstore_n 1, 1) := by decide +kernel
theorem dX3_digest_28 : decode cX3_digest 28 = .ok (.iinc 3 1, 3) := by decide +kernel
theorem dX3_digest_31 : decode cX3_digest 31 = .ok (.goto (-25), 3) := by decide +kernel
theorem dX3_digest_34 : decode cX3_digest 34 = .ok (.iconst 0, 1) := by decide +kernel
theorem dX3_digest_35 : decode cX3_digest 35 = .ok (.istore_n 3, 1) := by decide +kernel
theorem dX3_digest_36 : decode cX3_digest 36 = .ok (.iload_n 3, 1) := by decide +kernel
theorem dX3_digest_37 : decode cX3_digest 37 = .ok (.aload_n 0, 1) := by decide +kernel
theorem dX3_digest_38 : decode cX3_digest 38 = .ok (.getfield 10, 3) := by decide +kernel
theorem dX3_digest_41 : decode cX3_digest 41 = .ok (.getfield 39, 3) := by decide +kernel
theorem dX3_digest_44 : decode cX3_digest 44 = .ok (.if_icmp .ge 23, 3) := by decide +kernel
theorem dX3_digest_47 : decode cX3_digest 47 = .ok (.lload_n 1, 1) := by decide +kernel
theorem dX3_digest_48 : decode cX3_digest 48 = .ok (.aload_n 0, 1) := by decide +kernel
theorem dX3_digest_49 : decode cX3_digest 49 = .ok (.getfield 10, 3) := by decide +kernel
theorem dX3_digest_52 : decode cX3_digest 52 = .ok (.getfield 62, 3) := by decide +kernel
theorem dX3_digest_55 : decode cX3_digest 55 = .ok (.iload_n 3, 1) := by decide +kernel
theorem dX3_digest_56 : decode cX3_digest 56 = .ok (.aaload, 1) := by decide +kernel
theorem dX3_digest_57 : decode cX3_digest 57 = .ok (.invokestatic 162, 3) := by decide +kernel
theorem dX3_digest_60 : decode cX3_digest 60 = .ok (.lstore_n 1, 1) := by decide +kernel
theorem dX3_digest_61 : decode cX3_digest 61 = .ok (.iinc 3 1, 3) := by decide +kernel
theorem dX3_digest_64 : decode cX3_digest 64 = .ok (.goto (-28), 3) := by decide +kernel
theorem dX3_digest_67 : decode cX3_digest 67 = .ok (.iconst 0, 1) := by decide +kernel
theorem dX3_digest_68 : decode cX3_digest 68 = .ok (.istore_n 3, 1) := by decide +kernel
theorem dX3_digest_69 : decode cX3_digest 69 = .ok (.iload_n 3, 1) := by decide +kernel
theorem dX3_digest_70 : decode cX3_digest 70 = .ok (.aload_n 0, 1) := by decide +kernel
theorem dX3_digest_71 : decode cX3_digest 71 = .ok (.getfield 10, 3) := by decide +kernel
theorem dX3_digest_74 : decode cX3_digest 74 = .ok (.getfield 111, 3) := by decide +kernel
theorem dX3_digest_77 : decode cX3_digest 77 = .ok (.getfield 115, 3) := by decide +kernel
theorem dX3_digest_80 : decode cX3_digest 80 = .ok (.if_icmp .ge 45, 3) := by decide +kernel
theorem dX3_digest_83 : decode cX3_digest 83 = .ok (.iconst 0, 1) := by decide +kernel
theorem dX3_digest_84 : decode cX3_digest 84 = .ok (.istore 4, 2) := by decide +kernel
theorem dX3_digest_86 : decode cX3_digest 86 = .ok (.iload 4, 2) := by decide +kernel
theorem dX3_digest_88 : decode cX3_digest 88 = .ok (.iconst 4, 1) := by decide +kernel
theorem dX3_digest_89 : decode cX3_digest 89 = .ok (.if_icmp .ge 30, 3) := by decide +kernel
theorem dX3_digest_92 : decode cX3_digest 92 = .ok (.lload_n 1, 1) := by decide +kernel
theorem dX3_digest_93 : decode cX3_digest 93 = .ok (.ldc2_w 160, 3) := by decide +kernel
theorem dX3_digest_96 : decode cX3_digest 96 = .ok (.lmul, 1) := by decide +kernel
theorem dX3_digest_97 : decode cX3_digest 97 = .ok (.aload_n 0, 1) := by decide +kernel
theorem dX3_digest_98 : decode cX3_digest 98 = .ok (.getfield 10, 3) := by decide +kernel
theorem dX3_digest_101 : decode cX3_digest 101 = .ok (.getfield 111, 3) := by decide +kernel
theorem dX3_digest_104 : decode cX3_digest 104 = .ok (.iload_n 3, 1) := by decide +kernel
theorem dX3_digest_105 : decode cX3_digest 105 = .ok (.iload 4, 2) := by decide +kernel
theorem dX3_digest_107 : decode cX3_digest 107 = .ok (.invokevirtual 122, 3) := by decide +kernel
theorem dX3_digest_110 : decode cX3_digest 110 = .ok (.i2l, 1) := by decide +kernel
theorem dX3_digest_111 : decode cX3_digest 111 = .ok (.ladd, 1) := by decide +kernel
theorem dX3_digest_112 : decode cX3_digest 112 = .ok (.lstore_n 1, 1) := by decide +kernel
theorem dX3_digest_113 : decode cX3_digest 113 = .ok (.iinc 4 1, 3) := by decide +kernel
theorem dX3_digest_116 : decode cX3_digest 116 = .ok (.goto (-30), 3) := by decide +kernel
theorem dX3_digest_119 : decode cX3_digest 119 = .ok (.iinc 3 1, 3) := by decide +kernel
theorem dX3_digest_122 : decode cX3_digest 122 = .ok (.goto (-53), 3) := by decide +kernel
theorem dX3_digest_125 : decode cX3_digest 125 = .ok (.lload_n 1, 1) := by decide +kernel
theorem dX3_digest_126 : decode cX3_digest 126 = .ok (.lreturn, 1) := by decide +kernel
set_option maxRecDepth 20000 in
theorem ggX3_digestOfDoor_X0_fact : GoodIn wsX3_digestOfDoor wsX0_fact := goodIn_r _ [7, 8, 9, 10, 11, 12, 13, 14, 15, 16, 17, 6, 18, 19, 29, 30, 31, 32, 33, 34, 35, 36, 37, 38, 39, 40, 41, 42] (by decide +kernel) (by decide +kernel)
set_option maxRecDepth 20000 in
theorem gX3_digestOfDoor_X0_fact : GoodIn wsX3_digestOfDoor (wsV RX3 100 RX0 yX0_fact wsX0_fact) := goodIn_app (goodIn_of _ (by decide +kernel)) ggX3_digestOfDoor_X0_fact
set_option maxRecDepth 20000 in
theorem ggX3_digestOfDoor_X0_askedFact : GoodIn wsX3_digestOfDoor wsX0_askedFact := goodIn_r _ [23, 11, 24, 25, 19, 26, 27, 28, 29, 30, 31, 32, 33, 34, 35, 36, 37, 38, 39, 40, 41, 42] (by decide +kernel) (by decide +kernel)
set_option maxRecDepth 20000 in
theorem gX3_digestOfDoor_X0_askedFact : GoodIn wsX3_digestOfDoor (wsV RX3 107 RX0 yX0_askedFact wsX0_askedFact) := goodIn_app (goodIn_of _ (by decide +kernel)) ggX3_digestOfDoor_X0_askedFact
set_option maxRecDepth 20000 in
theorem ggX3_openedByWhisper_X1_copyFrom : GoodIn wsX3_openedByWhisper wsX1_copyFrom := goodIn_r _ [9, 10, 11, 12, 13, 14, 15, 16, 17, 18, 19, 20, 21, 22, 23, 24, 25, 26, 27, 28, 29, 30, 31, 32, 33, 34, 35, 36, 37, 38, 39, 40, 41, 42, 43, 44, 45, 46, 47, 48, 49, 157, 158, 159, 160, 161, 162, 163, 164, 165, 166, 167, 168, 169, 170, 171, 172, 173, 174, 175, 176, 177, 178, 179, 180, 181, 182] (by decide +kernel) (by decide +kernel)
set_option maxRecDepth 20000 in
theorem gX3_openedByWhisper_X1_copyFrom : GoodIn wsX3_openedByWhisper (wsV RX3 136 RX1 yX1_copyFrom wsX1_copyFrom) := goodIn_app (goodIn_of _ (by decide +kernel)) ggX3_openedByWhisper_X1_copyFrom
set_option maxRecDepth 20000 in
theorem ggX3_openedByWhisper_X1_hearToken : GoodIn wsX3_openedByWhisper wsX1_hearToken := goodIn_r _ [53, 12, 54, 55, 56, 57, 58, 8, 59, 11, 60, 61, 62, 17, 63, 22, 23, 25, 64, 65, 66, 67, 68, 13, 69, 70, 71, 72, 73, 74, 20, 75, 76, 77, 40, 78, 42, 43, 44, 46, 47, 48, 49, 157, 158, 159, 160, 161, 162, 163, 164, 165, 166, 167, 168, 169, 170, 171, 172, 173, 174, 175, 176, 177, 178, 179, 180, 181, 182] (by decide +kernel) (by decide +kernel)
set_option maxRecDepth 20000 in
theorem gX3_openedByWhisper_X1_hearToken : GoodIn wsX3_openedByWhisper (wsV RX3 94 RX1 yX1_hearToken wsX1_hearToken) := goodIn_app (goodIn_of _ (by decide +kernel)) ggX3_openedByWhisper_X1_hearToken
set_option maxRecDepth 20000 in
theorem ggX3_openedByWhisper_X1_tickOn : GoodIn wsX3_openedByWhisper wsX1_tickOn := goodIn_r _ [82, 11, 12, 13, 83, 84, 85, 86, 87, 88, 54, 10, 89, 90, 91, 17, 92, 22, 23, 93, 94, 95, 40, 96, 42, 48, 44, 46, 47, 49, 97, 76, 77, 78, 43, 98, 99, 100, 101, 102, 103, 104, 8, 105, 56, 57, 58, 59, 106, 107, 108, 109, 33, 110, 111, 112, 113, 26, 27, 75, 64, 65, 66, 67, 68, 69, 70, 71, 72, 73, 74, 20, 114, 115, 116, 117, 34, 35, 36, 118, 119, 120, 121, 122, 123, 124, 125, 126, 127, 128, 129, 130, 131, 132, 133, 134, 135, 136, 137, 138, 139, 140, 141, 21, 142, 143, 144, 145, 24, 146, 61, 62, 63, 25, 147, 148, 149, 150, 157, 158, 159, 160, 161, 176, 177, 178, 179, 180, 181, 182, 162, 163, 164, 165, 166, 167, 168, 169, 170, 171, 172, 173, 174, 175] (by decide +kernel) (by decide +kernel)
set_option maxRecDepth 20000 in
theorem gX3_openedByWhisper_X1_tickOn : GoodIn wsX3_openedByWhisper (wsV RX3 132 RX1 yX1_tickOn wsX1_tickOn) := goodIn_app (goodIn_of _ (by decide +kernel)) ggX3_openedByWhisper_X1_tickOn
set_option maxRecDepth 20000 in
theorem ggX3_openedByWhisper_X1_openDoors : GoodIn wsX3_openedByWhisper wsX1_openDoors := goodIn_r _ [154, 11, 12, 54, 157, 158, 159, 160, 161, 162, 163, 164, 165, 166, 167, 168, 169, 170, 171, 172, 173, 174, 175] (by decide +kernel) (by decide +kernel)
set_option maxRecDepth 20000 in
theorem gX3_openedByWhisper_X1_openDoors : GoodIn wsX3_openedByWhisper (wsV RX3 169 RX1 yX1_openDoors wsX1_openDoors) := goodIn_app (goodIn_of _ (by decide +kernel)) ggX3_openedByWhisper_X1_openDoors
theorem dX3_isIn_0 : decode cX3_isIn 0 = .ok (.iload_n 0, 1) := by decide +kernel
theorem dX3_isIn_1 : decode cX3_isIn 1 = .ok (.iload_n 1, 1) := by decide +kernel
theorem dX3_isIn_2 : decode cX3_isIn 2 = .ok (.if_icmp .lt 12, 3) := by decide +kernel
theorem dX3_isIn_5 : decode cX3_isIn 5 = .ok (.iload_n 0, 1) := by decide +kernel
theorem dX3_isIn_6 : decode cX3_isIn 6 = .ok (.iload_n 2, 1) := by decide +kernel
theorem dX3_isIn_7 : decode cX3_isIn 7 = .ok (.if_icmp .gt 7, 3) := by decide +kernel
theorem dX3_isIn_10 : decode cX3_isIn 10 = .ok (.iconst 1, 1) := by decide +kernel
theorem dX3_isIn_11 : decode cX3_isIn 11 = .ok (.goto 4, 3) := by decide +kernel
theorem dX3_isIn_14 : decode cX3_isIn 14 = .ok (.iconst 0, 1) := by decide +kernel
theorem dX3_isIn_15 : decode cX3_isIn 15 = .ok (.ireturn, 1) := by decide +kernel
set_option maxRecDepth 20000 in
theorem ggX3_isPatience_X3_isIn : GoodIn wsX3_isPatience wsX3_isIn := goodIn_r _ [4] (by decide +kernel) (by decide +kernel)
set_option maxRecDepth 20000 in
theorem gX3_isPatience_X3_isIn : GoodIn wsX3_isPatience (va_wsS RX3 19 yX3_isIn wsX3_isIn) := goodIn_app (goodIn_of _ (by decide +kernel)) ggX3_isPatience_X3_isIn
theorem dX3_isPatience_0 : decode cX3_isPatience 0 = .ok (.iload_n 0, 1) := by decide +kernel
theorem dX3_isPatience_1 : decode cX3_isPatience 1 = .ok (.iconst 1, 1) := by decide +kernel
theorem dX3_isPatience_2 : decode cX3_isPatience 2 = .ok (.bipush 20, 2) := by decide +kernel
theorem dX3_isPatience_4 : decode cX3_isPatience 4 = .ok (.invokestatic 19, 3) := by decide +kernel
theorem dX3_isPatience_7 : decode cX3_isPatience 7 = .ok (.ireturn, 1) := by decide +kernel
set_option maxRecDepth 20000 in
theorem ggX3_isRule_X3_isIn : GoodIn wsX3_isRule wsX3_isIn := goodIn_r _ [4] (by decide +kernel) (by decide +kernel)
set_option maxRecDepth 20000 in
theorem gX3_isRule_X3_isIn : GoodIn wsX3_isRule (va_wsS RX3 19 yX3_isIn wsX3_isIn) := goodIn_app (goodIn_of _ (by decide +kernel)) ggX3_isRule_X3_isIn
theorem dX3_isRule_0 : decode cX3_isRule 0 = .ok (.iload_n 0, 1) := by decide +kernel
theorem dX3_isRule_1 : decode cX3_isRule 1 = .ok (.iconst 0, 1) := by decide +kernel
theorem dX3_isRule_2 : decode cX3_isRule 2 = .ok (.iconst 3, 1) := by decide +kernel
theorem dX3_isRule_3 : decode cX3_isRule 3 = .ok (.invokestatic 19, 3) := by decide +kernel
theorem dX3_isRule_6 : decode cX3_isRule 6 = .ok (.ireturn, 1) := by decide +kernel
theorem dX4_init_0 : decode cX4_init 0 = .ok (.aload_n 0, 1) := by decide +kernel
theorem dX4_init_1 : decode cX4_init 1 = .ok (.invokespecial 1, 3) := by decide +kernel
theorem dX4_init_4 : decode cX4_init 4 = .ok (.aload_n 0, 1) := by decide +kernel
theorem dX4_init_5 : decode cX4_init 5 = .ok (.bipush 90, 2) := by decide +kernel
theorem dX4_init_7 : decode cX4_init 7 = .ok (.newarray .int, 2) := by decide +kernel
theorem dX4_init_9 : decode cX4_init 9 = .ok (.putfield 9, 3) := by decide +kernel
theorem dX4_init_12 : decode cX4_init 12 = .ok (.aload_n 0, 1) := by decide +kernel
theorem dX4_init_13 : decode cX4_init 13 = .ok (.bipush 120, 2) := by decide +kernel
theorem dX4_init_15 : decode cX4_init 15 = .ok (.newarray .int, 2) := by decide +kernel
theorem dX4_init_17 : decode cX4_init 17 = .ok (.putfield 13, 3) := by decide +kernel
theorem dX4_init_20 : decode cX4_init 20 = .ok (.aload_n 0, 1) := by decide +kernel
theorem dX4_init_21 : decode cX4_init 21 = .ok (.sipush 2000, 3) := by decide +kernel
theorem dX4_init_24 : decode cX4_init 24 = .ok (.newarray .int, 2) := by decide +kernel
theorem dX4_init_26 : decode cX4_init 26 = .ok (.putfield 16, 3) := by decide +kernel
theorem dX4_init_29 : decode cX4_init 29 = .ok (.aload_n 0, 1) := by decide +kernel
theorem dX4_init_30 : decode cX4_init 30 = .ok (.sipush 300, 3) := by decide +kernel
theorem dX4_init_33 : decode cX4_init 33 = .ok (.newarray .int, 2) := by decide +kernel
theorem dX4_init_35 : decode cX4_init 35 = .ok (.putfield 19, 3) := by decide +kernel
theorem dX4_init_38 : decode cX4_init 38 = .ok (.aload_n 0, 1) := by decide +kernel
theorem dX4_init_39 : decode cX4_init 39 = .ok (.iconst 3, 1) := by decide +kernel
theorem dX4_init_40 : decode cX4_init 40 = .ok (.newarray .int, 2) := by decide +kernel
theorem dX4_init_42 : decode cX4_init 42 = .ok (.putfield 22, 3) := by decide +kernel
theorem dX4_init_45 : decode cX4_init 45 = .ok (.aload_n 0, 1) := by decide +kernel
theorem dX4_init_46 : decode cX4_init 46 = .ok (.sipush 300, 3) := by decide +kernel
theorem dX4_init_49 : decode cX4_init 49 = .ok (.newarray .int, 2) := by decide +kernel
theorem dX4_init_51 : decode cX4_init 51 = .ok (.putfield 25, 3) := by decide +kernel
theorem dX4_init_54 : decode cX4_init 54 = .ok (.return_, 1) := by decide +kernel
theorem dX4_thrown_0 : decode cX4_thrown 0 = .ok (.aload_n 0, 1) := by decide +kernel
theorem dX4_thrown_1 : decode cX4_thrown 1 = .ok (.getfield 28, 3) := by decide +kernel
theorem dX4_thrown_4 : decode cX4_thrown 4 = .ok (.ireturn, 1) := by decide +kernel
theorem dX4_fail_0 : decode cX4_fail 0 = .ok (.aload_n 0, 1) := by decide +kernel
theorem dX4_fail_1 : decode cX4_fail 1 = .ok (.iload_n 1, 1) := by decide +kernel
theorem dX4_fail_2 : decode cX4_fail 2 = .ok (.putfield 28, 3) := by decide +kernel
theorem dX4_fail_5 : decode cX4_fail 5 = .ok (.iconst 0, 1) := by decide +kernel
theorem dX4_fail_6 : decode cX4_fail 6 = .ok (.ireturn, 1) := by decide +kernel
theorem dX4_isIn_0 : decode cX4_isIn 0 = .ok (.iload_n 0, 1) := by decide +kernel
theorem dX4_isIn_1 : decode cX4_isIn 1 = .ok (.iload_n 1, 1) := by decide +kernel
theorem dX4_isIn_2 : decode cX4_isIn 2 = .ok (.if_icmp .lt 12, 3) := by decide +kernel
theorem dX4_isIn_5 : decode cX4_isIn 5 = .ok (.iload_n 0, 1) := by decide +kernel
theorem dX4_isIn_6 : decode cX4_isIn 6 = .ok (.iload_n 2, 1) := by decide +kernel
theorem dX4_isIn_7 : decode cX4_isIn 7 = .ok (.if_icmp .gt 7, 3) := by decide +kernel
theorem dX4_isIn_10 : decode cX4_isIn 10 = .ok (.iconst 1, 1) := by decide +kernel
theorem dX4_isIn_11 : decode cX4_isIn 11 = .ok (.goto 4, 3) := by decide +kernel
theorem dX4_isIn_14 : decode cX4_isIn 14 = .ok (.iconst 0, 1) := by decide +kernel
theorem dX4_isIn_15 : decode cX4_isIn 15 = .ok (.ireturn, 1) := by decide +kernel
set_option maxRecDepth 20000 in
theorem ggX4_isDoor_X4_isIn : GoodIn wsX4_isDoor wsX4_isIn := goodIn_r _ [5] (by decide +kernel) (by decide +kernel)
set_option maxRecDepth 20000 in
theorem gX4_isDoor_X4_isIn : GoodIn wsX4_isDoor (va_wsS RX4 35 yX4_isIn wsX4_isIn) := goodIn_app (goodIn_of _ (by decide +kernel)) ggX4_isDoor_X4_isIn
theorem dX4_isDoor_0 : decode cX4_isDoor 0 = .ok (.iload_n 1, 1) := by decide +kernel
theorem dX4_isDoor_1 : decode cX4_isDoor 1 = .ok (.iconst 0, 1) := by decide +kernel
theorem dX4_isDoor_2 : decode cX4_isDoor 2 = .ok (.aload_n 0, 1) := by decide +kernel
theorem dX4_isDoor_3 : decode cX4_isDoor 3 = .ok (.getfield 32, 3) := by decide +kernel
theorem dX4_isDoor_6 : decode cX4_isDoor 6 = .ok (.iconst 1, 1) := by decide +kernel
theorem dX4_isDoor_7 : decode cX4_isDoor 7 = .ok (.isub, 1) := by decide +kernel
theorem dX4_isDoor_8 : decode cX4_isDoor 8 = .ok (.invokestatic 35, 3) := by decide +kernel
theorem dX4_isDoor_11 : decode cX4_isDoor 11 = .ok (.ireturn, 1) := by decide +kernel
set_option maxRecDepth 20000 in
theorem ggX4_build_X4_isIn : GoodIn wsX4_build wsX4_isIn := goodIn_r _ [12] (by decide +kernel) (by decide +kernel)
set_option maxRecDepth 20000 in
theorem gX4_build_X4_isIn : GoodIn wsX4_build (va_wsS RX4 35 yX4_isIn wsX4_isIn) := goodIn_app (goodIn_of _ (by decide +kernel)) ggX4_build_X4_isIn
set_option maxRecDepth 20000 in
theorem ggX4_build_X4_fail : GoodIn wsX4_build wsX4_fail := goodIn_r _ [16, 1, 17, 18, 19, 20, 21, 22, 23, 24] (by decide +kernel) (by decide +kernel)
set_option maxRecDepth 20000 in
theorem gX4_build_X4_fail : GoodIn wsX4_build (wsV RX4 39 RX4 yX4_fail wsX4_fail) := goodIn_app (goodIn_of _ (by decide +kernel)) ggX4_build_X4_fail
theorem dX4_build_0 : decode cX4_build 0 = .ok (.aload_n 0, 1) := by decide +kernel
theorem dX4_build_1 : decode cX4_build 1 = .ok (.iconst 0, 1) := by decide +kernel
theorem dX4_build_2 : decode cX4_build 2 = .ok (.putfield 28, 3) := by decide +kernel
theorem dX4_build_5 : decode cX4_build 5 = .ok (.iload_n 1, 1) := by decide +kernel
theorem dX4_build_6 : decode cX4_build 6 = .ok (.iconst 0, 1) := by decide +kernel
theorem dX4_build_7 : decode cX4_build 7 = .ok (.bipush 99, 2) := by decide +kernel
theorem dX4_build_9 : decode cX4_build 9 = .ok (.invokestatic 35, 3) := by decide +kernel
theorem dX4_build_12 : decode cX4_build 12 = .ok (.ifCond .eq 22, 3) := by decide +kernel
theorem dX4_build_15 : decode cX4_build 15 = .ok (.iload_n 2, 1) := by decide +kernel
theorem dX4_build_16 : decode cX4_build 16 = .ok (.iconst 1, 1) := by decide +kernel
theorem dX4_build_17 : decode cX4_build 17 = .ok (.bipush 20, 2) := by decide +kernel
theorem dX4_build_19 : decode cX4_build 19 = .ok (.invokestatic 35, 3) := by decide +kernel
theorem dX4_build_22 : decode cX4_build 22 = .ok (.ifCond .eq 12, 3) := by decide +kernel
theorem dX4_build_25 : decode cX4_build 25 = .ok (.iload_n 3, 1) := by decide +kernel
theorem dX4_build_26 : decode cX4_build 26 = .ok (.iconst 0, 1) := by decide +kernel
theorem dX4_build_27 : decode cX4_build 27 = .ok (.iconst 3, 1) := by decide +kernel
theorem dX4_build_28 : decode cX4_build 28 = .ok (.invokestatic 35, 3) := by decide +kernel
theorem dX4_build_31 : decode cX4_build 31 = .ok (.ifCond .ne 9, 3) := by decide +kernel
theorem dX4_build_34 : decode cX4_build 34 = .ok (.aload_n 0, 1) := by decide +kernel
theorem dX4_build_35 : decode cX4_build 35 = .ok (.iconst 1, 1) := by decide +kernel
theorem dX4_build_36 : decode cX4_build 36 = .ok (.invokevirtual 39, 3) := by decide +kernel
theorem dX4_build_39 : decode cX4_build 39 = .ok (.ireturn, 1) := by decide +kernel
theorem dX4_build_40 : decode cX4_build 40 = .ok (.aload_n 0, 1) := by decide +kernel
theorem dX4_build_41 : decode cX4_build 41 = .ok (.getfield 32, 3) := by decide +kernel
theorem dX4_build_44 : decode cX4_build 44 = .ok (.bipush 10, 2) := by decide +kernel
theorem dX4_build_46 : decode cX4_build 46 = .ok (.if_icmp .ne 9, 3) := by decide +kernel
theorem dX4_build_49 : decode cX4_build 49 = .ok (.aload_n 0, 1) := by decide +kernel
theorem dX4_build_50 : decode cX4_build 50 = .ok (.iconst 2, 1) := by decide +kernel
theorem dX4_build_51 : decode cX4_build 51 = .ok (.invokevirtual 39, 3) := by decide +kernel
theorem dX4_build_54 : decode cX4_build 54 = .ok (.ireturn, 1) := by decide +kernel
theorem dX4_build_55 : decode cX4_build 55 = .ok (.bipush 9, 2) := by decide +kernel
theorem dX4_build_57 : decode cX4_build 57 = .ok (.newarray .int, 2) := by decide +kernel
theorem dX4_build_59 : decode cX4_build 59 = .ok (.dup, 1) := by decide +kernel
theorem dX4_build_60 : decode cX4_build 60 = .ok (.iconst 0, 1) := by decide +kernel
theorem dX4_build_61 : decode cX4_build 61 = .ok (.iload_n 1, 1) := by decide +kernel
theorem dX4_build_62 : decode cX4_build 62 = .ok (.iastore, 1) := by decide +kernel
theorem dX4_build_63 : decode cX4_build 63 = .ok (.dup, 1) := by decide +kernel
theorem dX4_build_64 : decode cX4_build 64 = .ok (.iconst 1, 1) := by decide +kernel
theorem dX4_build_65 : decode cX4_build 65 = .ok (.iload_n 2, 1) := by decide +kernel
theorem dX4_build_66 : decode cX4_build 66 = .ok (.iastore, 1) := by decide +kernel
theorem dX4_build_67 : decode cX4_build 67 = .ok (.dup, 1) := by decide +kernel
theorem dX4_build_68 : decode cX4_build 68 = .ok (.iconst 2, 1) := by decide +kernel
theorem dX4_build_69 : decode cX4_build 69 = .ok (.iload_n 3, 1) := by decide +kernel
theorem dX4_build_70 : decode cX4_build 70 = .ok (.iastore, 1) := by decide +kernel
theorem dX4_build_71 : decode cX4_build 71 = .ok (.dup, 1) := by decide +kernel
theorem dX4_build_72 : decode cX4_build 72 = .ok (.iconst 3, 1) := by decide +kernel
theorem dX4_build_73 : decode cX4_build 73 = .ok (.iconst 0, 1) := by decide +kernel
theorem dX4_build_74 : decode cX4_build 74 = .ok (.iastore, 1) := by decide +kernel
theorem dX4_build_75 : decode cX4_build 75 = .ok (.dup, 1) := by decide +kernel
theorem dX4_build_76 : decode cX4_build 76 = .ok (.iconst 4, 1) := by decide +kernel
theorem dX4_build_77 : decode cX4_build 77 = .ok (.iconst 0, 1) := by decide +kernel
theorem dX4_build_78 : decode cX4_build 78 = .ok (.iastore, 1) := by decide +kernel
theorem dX4_build_79 : decode cX4_build 79 = .ok (.dup, 1) := by decide +kernel
theorem dX4_build_80 : decode cX4_build 80 = .ok (.iconst 5, 1) := by decide +kernel
theorem dX4_build_81 : decode cX4_build 81 = .ok (.iconst 0, 1) := by decide +kernel
theorem dX4_build_82 : decode cX4_build 82 = .ok (.iastore, 1) := by decide +kernel
theorem dX4_build_83 : decode cX4_build 83 = .ok (.dup, 1) := by decide +kernel
theorem dX4_build_84 : decode cX4_build 84 = .ok (.bipush 6, 2) := by decide +kernel
theorem dX4_build_86 : decode cX4_build 86 = .ok (.iconst 0, 1) := by decide +kernel
theorem dX4_build_87 : decode cX4_build 87 = .ok (.iastore, 1) := by decide +kernel
theorem dX4_build_88 : decode cX4_build 88 = .ok (.dup, 1) := by decide +kernel
theorem dX4_build_89 : decode cX4_build 89 = .ok (.bipush 7, 2) := by decide +kernel
theorem dX4_build_91 : decode cX4_build 91 = .ok (.iconst 0, 1) := by decide +kernel
theorem dX4_build_92 : decode cX4_build 92 = .ok (.iastore, 1) := by decide +kernel
theorem dX4_build_93 : decode cX4_build 93 = .ok (.dup, 1) := by decide +kernel
theorem dX4_build_94 : decode cX4_build 94 = .ok (.bipush 8, 2) := by decide +kernel
theorem dX4_build_96 : decode cX4_build 96 = .ok (.iconst 0, 1) := by decide +kernel
theorem dX4_build_97 : decode cX4_build 97 = .ok (.iastore, 1) := by decide +kernel
theorem dX4_build_98 : decode cX4_build 98 = .ok (.astore 4, 2) := by decide +kernel
theorem dX4_build_100 : decode cX4_build 100 = .ok (.aload 4, 2) := by decide +kernel
theorem dX4_build_102 : decode cX4_build 102 = .ok (.iconst 0, 1) := by decide +kernel
theorem dX4_build_103 : decode cX4_build 103 = .ok (.aload_n 0, 1) := by decide +kernel
theorem dX4_build_104 : decode cX4_build 104 = .ok (.getfield 9, 3) := by decide +kernel
theorem dX4_build_107 : decode cX4_build 107 = .ok (.bipush 9, 2) := by decide +kernel
theorem dX4_build_109 : decode cX4_build 109 = .ok (.aload_n 0, 1) := by decide +kernel
theorem dX4_build_110 : decode cX4_build 110 = .ok (.getfield 32, 3) := by decide +kernel
theorem dX4_build_113 : decode cX4_build 113 = .ok (.imul, 1) := by decide +kernel
theorem dX4_build_114 : decode cX4_build 114 = .ok (.bipush 9, 2) := by decide +kernel
theorem dX4_build_116 : decode cX4_build 116 = .ok (.invokestatic 43, 3) := by decide +kernel
theorem dX4_build_119 : decode cX4_build 119 = .ok (.aload_n 0, 1) := by decide +kernel
theorem dX4_build_120 : decode cX4_build 120 = .ok (.dup, 1) := by decide +kernel
theorem dX4_build_121 : decode cX4_build 121 = .ok (.getfield 32, 3) := by decide +kernel
theorem dX4_build_124 : decode cX4_build 124 = .ok (.iconst 1, 1) := by decide +kernel
theorem dX4_build_125 : decode cX4_build 125 = .ok (.iadd, 1) := by decide +kernel
theorem dX4_build_126 : decode cX4_build 126 = .ok (.putfield 32, 3) := by decide +kernel
theorem dX4_build_129 : decode cX4_build 129 = .ok (.aload_n 0, 1) := by decide +kernel
theorem dX4_build_130 : decode cX4_build 130 = .ok (.getfield 32, 3) := by decide +kernel
theorem dX4_build_133 : decode cX4_build 133 = .ok (.iconst 1, 1) := by decide +kernel
theorem dX4_build_134 : decode cX4_build 134 = .ok (.isub, 1) := by decide +kernel
theorem dX4_build_135 : decode cX4_build 135 = .ok (.ireturn, 1) := by decide +kernel
set_option maxRecDepth 20000 in
theorem ggX4_place_X4_va : GoodIn wsX4_place wsX4_va := goodIn_r _ [5, 6, 12, 13, 14, 15, 16, 17, 18, 19] (by decide +kernel) (by decide +kernel)
set_option maxRecDepth 20000 in
theorem gX4_place_X4_va : GoodIn wsX4_place (wsV RX4 49 RX4 yX4_va wsX4_va) := goodIn_app (goodIn_of _ (by decide +kernel)) ggX4_place_X4_va
set_option maxRecDepth 20000 in
theorem ggX4_place_X4_li : GoodIn wsX4_place wsX4_li := goodIn_r _ [10, 11, 12, 13, 14, 15, 16, 17, 18, 19] (by decide +kernel) (by decide +kernel)
set_option maxRecDepth 20000 in
theorem gX4_place_X4_li : GoodIn wsX4_place (wsV RX4 53 RX4 yX4_li wsX4_li) := goodIn_app (goodIn_of _ (by decide +kernel)) ggX4_place_X4_li
set_option maxRecDepth 20000 in
theorem ggX4_ask_X4_isDoor : GoodIn wsX4_ask wsX4_isDoor := goodIn_r _ [6, 7, 8, 9, 5, 10, 37, 38, 39, 40, 41, 42, 43, 44] (by decide +kernel) (by decide +kernel)
set_option maxRecDepth 20000 in
theorem gX4_ask_X4_isDoor : GoodIn wsX4_ask (wsV RX4 57 RX4 yX4_isDoor wsX4_isDoor) := goodIn_app (goodIn_of _ (by decide +kernel)) ggX4_ask_X4_isDoor
set_option maxRecDepth 20000 in
theorem ggX4_ask_X4_fail : GoodIn wsX4_ask wsX4_fail := goodIn_r _ [14, 1, 37, 38, 39, 40, 41, 42, 43, 44] (by decide +kernel) (by decide +kernel)
set_option maxRecDepth 20000 in
theorem gX4_ask_X4_fail : GoodIn wsX4_ask (wsV RX4 39 RX4 yX4_fail wsX4_fail) := goodIn_app (goodIn_of _ (by decide +kernel)) ggX4_ask_X4_fail
set_option maxRecDepth 20000 in
theorem ggX4_ask_X4_isIn : GoodIn wsX4_ask wsX4_isIn := goodIn_r _ [10] (by decide +kernel) (by decide +kernel)
set_option maxRecDepth 20000 in
theorem gX4_ask_X4_isIn : GoodIn wsX4_ask (va_wsS RX4 35 yX4_isIn wsX4_isIn) := goodIn_app (goodIn_of _ (by decide +kernel)) ggX4_ask_X4_isIn
set_option maxRecDepth 20000 in
theorem ggX4_ask_X4_va : GoodIn wsX4_ask wsX4_va := goodIn_r _ [18, 19, 37, 38, 39, 40, 41, 42, 43, 44] (by decide +kernel) (by decide +kernel)
set_option maxRecDepth 20000 in
theorem gX4_ask_X4_va : GoodIn wsX4_ask (wsV RX4 49 RX4 yX4_va wsX4_va) := goodIn_app (goodIn_of _ (by decide +kernel)) ggX4_ask_X4_va
set_option maxRecDepth 20000 in
theorem ggX4_ask_X4_place : GoodIn wsX4_ask wsX4_place := goodIn_r _ [23, 15, 16, 17, 5, 18, 19, 24, 25, 26, 27, 28, 37, 38, 39, 40, 41, 42, 43, 44] (by decide +kernel) (by decide +kernel)
set_option maxRecDepth 20000 in
theorem gX4_ask_X4_place : GoodIn wsX4_ask (wsV RX4 61 RX4 yX4_place wsX4_place) := goodIn_app (goodIn_of _ (by decide +kernel)) ggX4_ask_X4_place
set_option maxRecDepth 20000 in
theorem ggX4_ask_X4_setLink : GoodIn wsX4_ask wsX4_setLink := goodIn_r _ [32, 28, 37, 38, 39, 40, 41, 42, 43, 44] (by decide +kernel) (by decide +kernel)
set_option maxRecDepth 20000 in
theorem gX4_ask_X4_setLink : GoodIn wsX4_ask (wsV RX4 64 RX4 yX4_setLink wsX4_setLink) := goodIn_app (goodIn_of _ (by decide +kernel)) ggX4_ask_X4_setLink
set_option maxRecDepth 20000 in
theorem ggX4_ask_X4_put : GoodIn wsX4_ask wsX4_put := goodIn_r _ [36, 19, 37, 38, 39, 40, 41, 42, 43, 44] (by decide +kernel) (by decide +kernel)
set_option maxRecDepth 20000 in
theorem gX4_ask_X4_put : GoodIn wsX4_ask (wsV RX4 68 RX4 yX4_put wsX4_put) := goodIn_app (goodIn_of _ (by decide +kernel)) ggX4_ask_X4_put
theorem dX4_ask_0 : decode cX4_ask 0 = .ok (.aload_n 0, 1) := by decide +kernel
theorem dX4_ask_1 : decode cX4_ask 1 = .ok (.iconst 0, 1) := by decide +kernel
theorem dX4_ask_2 : decode cX4_ask 2 = .ok (.putfield 28, 3) := by decide +kernel
theorem dX4_ask_5 : decode cX4_ask 5 = .ok (.aload_n 0, 1) := by decide +kernel
theorem dX4_ask_6 : decode cX4_ask 6 = .ok (.iload_n 1, 1) := by decide +kernel
theorem dX4_ask_7 : decode cX4_ask 7 = .ok (.invokevirtual 57, 3) := by decide +kernel
theorem dX4_ask_10 : decode cX4_ask 10 = .ok (.ifCond .eq 11, 3) := by decide +kernel
theorem dX4_ask_13 : decode cX4_ask 13 = .ok (.aload_n 0, 1) := by decide +kernel
theorem dX4_ask_14 : decode cX4_ask 14 = .ok (.iload_n 2, 1) := by decide +kernel
theorem dX4_ask_15 : decode cX4_ask 15 = .ok (.invokevirtual 57, 3) := by decide +kernel
theorem dX4_ask_18 : decode cX4_ask 18 = .ok (.ifCond .ne 9, 3) := by decide +kernel
theorem dX4_ask_21 : decode cX4_ask 21 = .ok (.aload_n 0, 1) := by decide +kernel
theorem dX4_ask_22 : decode cX4_ask 22 = .ok (.iconst 1, 1) := by decide +kernel
theorem dX4_ask_23 : decode cX4_ask 23 = .ok (.invokevirtual 39, 3) := by decide +kernel
theorem dX4_ask_26 : decode cX4_ask 26 = .ok (.ireturn, 1) := by decide +kernel
theorem dX4_ask_27 : decode cX4_ask 27 = .ok (.iload_n 1, 1) := by decide +kernel
theorem dX4_ask_28 : decode cX4_ask 28 = .ok (.iload_n 2, 1) := by decide +kernel
theorem dX4_ask_29 : decode cX4_ask 29 = .ok (.if_icmp .eq 12, 3) := by decide +kernel
theorem dX4_ask_32 : decode cX4_ask 32 = .ok (.iload_n 3, 1) := by decide +kernel
theorem dX4_ask_33 : decode cX4_ask 33 = .ok (.iconst 1, 1) := by decide +kernel
theorem dX4_ask_34 : decode cX4_ask 34 = .ok (.iconst 5, 1) := by decide +kernel
theorem dX4_ask_35 : decode cX4_ask 35 = .ok (.invokestatic 35, 3) := by decide +kernel
theorem dX4_ask_38 : decode cX4_ask 38 = .ok (.ifCond .ne 9, 3) := by decide +kernel
theorem dX4_ask_41 : decode cX4_ask 41 = .ok (.aload_n 0, 1) := by decide +kernel
theorem dX4_ask_42 : decode cX4_ask 42 = .ok (.iconst 2, 1) := by decide +kernel
theorem dX4_ask_43 : decode cX4_ask 43 = .ok (.invokevirtual 39, 3) := by decide +kernel
theorem dX4_ask_46 : decode cX4_ask 46 = .ok (.ireturn, 1) := by decide +kernel
theorem dX4_ask_47 : decode cX4_ask 47 = .ok (.aload_n 0, 1) := by decide +kernel
theorem dX4_ask_48 : decode cX4_ask 48 = .ok (.iload_n 1, 1) := by decide +kernel
theorem dX4_ask_49 : decode cX4_ask 49 = .ok (.iconst 3, 1) := by decide +kernel
theorem dX4_ask_50 : decode cX4_ask 50 = .ok (.invokevirtual 49, 3) := by decide +kernel
theorem dX4_ask_53 : decode cX4_ask 53 = .ok (.ifCond .ne 23, 3) := by decide +kernel
theorem dX4_ask_56 : decode cX4_ask 56 = .ok (.aload_n 0, 1) := by decide +kernel
theorem dX4_ask_57 : decode cX4_ask 57 = .ok (.iload_n 1, 1) := by decide +kernel
theorem dX4_ask_58 : decode cX4_ask 58 = .ok (.iload_n 2, 1) := by decide +kernel
theorem dX4_ask_59 : decode cX4_ask 59 = .ok (.invokevirtual 61, 3) := by decide +kernel
theorem dX4_ask_62 : decode cX4_ask 62 = .ok (.iconst (-1), 1) := by decide +kernel
theorem dX4_ask_63 : decode cX4_ask 63 = .ok (.if_icmp .ne 13, 3) := by decide +kernel
theorem dX4_ask_66 : decode cX4_ask 66 = .ok (.aload_n 0, 1) := by decide +kernel
theorem dX4_ask_67 : decode cX4_ask 67 = .ok (.iload_n 1, 1) := by decide +kernel
theorem dX4_ask_68 : decode cX4_ask 68 = .ok (.iconst 5, 1) := by decide +kernel
theorem dX4_ask_69 : decode cX4_ask 69 = .ok (.invokevirtual 49, 3) := by decide +kernel
theorem dX4_ask_72 : decode cX4_ask 72 = .ok (.iconst 4, 1) := by decide +kernel
theorem dX4_ask_73 : decode cX4_ask 73 = .ok (.if_icmp .ne 9, 3) := by decide +kernel
theorem dX4_ask_76 : decode cX4_ask 76 = .ok (.aload_n 0, 1) := by decide +kernel
theorem dX4_ask_77 : decode cX4_ask 77 = .ok (.iconst 3, 1) := by decide +kernel
theorem dX4_ask_78 : decode cX4_ask 78 = .ok (.invokevirtual 39, 3) := by decide +kernel
theorem dX4_ask_81 : decode cX4_ask 81 = .ok (.ireturn, 1) := by decide +kernel
theorem dX4_ask_82 : decode cX4_ask 82 = .ok (.aload_n 0, 1) := by decide +kernel
theorem dX4_ask_83 : decode cX4_ask 83 = .ok (.iload_n 1, 1) := by decide +kernel
theorem dX4_ask_84 : decode cX4_ask 84 = .ok (.iconst 5, 1) := by decide +kernel
theorem dX4_ask_85 : decode cX4_ask 85 = .ok (.invokevirtual 49, 3) := by decide +kernel
theorem dX4_ask_88 : decode cX4_ask 88 = .ok (.istore 4, 2) := by decide +kernel
theorem dX4_ask_90 : decode cX4_ask 90 = .ok (.aload_n 0, 1) := by decide +kernel
theorem dX4_ask_91 : decode cX4_ask 91 = .ok (.iload_n 1, 1) := by decide +kernel
theorem dX4_ask_92 : decode cX4_ask 92 = .ok (.iload 4, 2) := by decide +kernel
theorem dX4_ask_94 : decode cX4_ask 94 = .ok (.iconst 0, 1) := by decide +kernel
theorem dX4_ask_95 : decode cX4_ask 95 = .ok (.iload_n 2, 1) := by decide +kernel
theorem dX4_ask_96 : decode cX4_ask 96 = .ok (.invokevirtual 64, 3) := by decide +kernel
theorem dX4_ask_99 : decode cX4_ask 99 = .ok (.aload_n 0, 1) := by decide +kernel
theorem dX4_ask_100 : decode cX4_ask 100 = .ok (.iload_n 1, 1) := by decide +kernel
theorem dX4_ask_101 : decode cX4_ask 101 = .ok (.iload 4, 2) := by decide +kernel
theorem dX4_ask_103 : decode cX4_ask 103 = .ok (.iconst 1, 1) := by decide +kernel
theorem dX4_ask_104 : decode cX4_ask 104 = .ok (.iload_n 3, 1) := by decide +kernel
theorem dX4_ask_105 : decode cX4_ask 105 = .ok (.invokevirtual 64, 3) := by decide +kernel
theorem dX4_ask_108 : decode cX4_ask 108 = .ok (.aload_n 0, 1) := by decide +kernel
theorem dX4_ask_109 : decode cX4_ask 109 = .ok (.iload_n 1, 1) := by decide +kernel
theorem dX4_ask_110 : decode cX4_ask 110 = .ok (.iload 4, 2) := by decide +kernel
theorem dX4_ask_112 : decode cX4_ask 112 = .ok (.iconst 2, 1) := by decide +kernel
theorem dX4_ask_113 : decode cX4_ask 113 = .ok (.iconst (-1), 1) := by decide +kernel
theorem dX4_ask_114 : decode cX4_ask 114 = .ok (.invokevirtual 64, 3) := by decide +kernel
theorem dX4_ask_117 : decode cX4_ask 117 = .ok (.aload_n 0, 1) := by decide +kernel
theorem dX4_ask_118 : decode cX4_ask 118 = .ok (.iload_n 1, 1) := by decide +kernel
theorem dX4_ask_119 : decode cX4_ask 119 = .ok (.iconst 5, 1) := by decide +kernel
theorem dX4_ask_120 : decode cX4_ask 120 = .ok (.iload 4, 2) := by decide +kernel
theorem dX4_ask_122 : decode cX4_ask 122 = .ok (.iconst 1, 1) := by decide +kernel
theorem dX4_ask_123 : decode cX4_ask 123 = .ok (.iadd, 1) := by decide +kernel
theorem dX4_ask_124 : decode cX4_ask 124 = .ok (.invokevirtual 68, 3) := by decide +kernel
theorem dX4_ask_127 : decode cX4_ask 127 = .ok (.iload 4, 2) := by decide +kernel
theorem dX4_ask_129 : decode cX4_ask 129 = .ok (.iconst 1, 1) := by decide +kernel
theorem dX4_ask_130 : decode cX4_ask 130 = .ok (.iadd, 1) := by decide +kernel
theorem dX4_ask_131 : decode cX4_ask 131 = .ok (.ireturn, 1) := by decide +kernel
set_option maxRecDepth 20000 in
theorem ggX4_set_X4_isDoor : GoodIn wsX4_set wsX4_isDoor := goodIn_r _ [6, 7, 8, 9, 5, 10, 24, 25, 26, 27, 28, 29, 30, 31] (by decide +kernel) (by decide +kernel)
set_option maxRecDepth 20000 in
theorem gX4_set_X4_isDoor : GoodIn wsX4_set (wsV RX4 57 RX4 yX4_isDoor wsX4_isDoor) := goodIn_app (goodIn_of _ (by decide +kernel)) ggX4_set_X4_isDoor
set_option maxRecDepth 20000 in
theorem ggX4_set_X4_fail : GoodIn wsX4_set wsX4_fail := goodIn_r _ [14, 1, 24, 25, 26, 27, 28, 29, 30, 31] (by decide +kernel) (by decide +kernel)
set_option maxRecDepth 20000 in
theorem gX4_set_X4_fail : GoodIn wsX4_set (wsV RX4 39 RX4 yX4_fail wsX4_fail) := goodIn_app (goodIn_of _ (by decide +kernel)) ggX4_set_X4_fail
set_option maxRecDepth 20000 in
theorem ggX4_set_X4_isIn : GoodIn wsX4_set wsX4_isIn := goodIn_r _ [10] (by decide +kernel) (by decide +kernel)
set_option maxRecDepth 20000 in
theorem gX4_set_X4_isIn : GoodIn wsX4_set (va_wsS RX4 35 yX4_isIn wsX4_isIn) := goodIn_app (goodIn_of _ (by decide +kernel)) ggX4_set_X4_isIn
set_option maxRecDepth 20000 in
theorem ggX4_set_X4_va : GoodIn wsX4_set wsX4_va := goodIn_r _ [18, 19, 24, 25, 26, 27, 28, 29, 30, 31] (by decide +kernel) (by decide +kernel)
set_option maxRecDepth 20000 in
theorem gX4_set_X4_va : GoodIn wsX4_set (wsV RX4 49 RX4 yX4_va wsX4_va) := goodIn_app (goodIn_of _ (by decide +kernel)) ggX4_set_X4_va
set_option maxRecDepth 20000 in
theorem ggX4_set_X4_put : GoodIn wsX4_set wsX4_put := goodIn_r _ [23, 19, 24, 25, 26, 27, 28, 29, 30, 31] (by decide +kernel) (by decide +kernel)
set_option maxRecDepth 20000 in
theorem gX4_set_X4_put : GoodIn wsX4_set (wsV RX4 68 RX4 yX4_put wsX4_put) := goodIn_app (goodIn_of _ (by decide +kernel)) ggX4_set_X4_put
theorem dX4_set_0 : decode cX4_set 0 = .ok (.aload_n 0, 1) := by decide +kernel
theorem dX4_set_1 : decode cX4_set 1 = .ok (.iconst 0, 1) := by decide +kernel
theorem dX4_set_2 : decode cX4_set 2 = .ok (.putfield 28, 3) := by decide +kernel
theorem dX4_set_5 : decode cX4_set 5 = .ok (.aload_n 0, 1) := by decide +kernel
theorem dX4_set_6 : decode cX4_set 6 = .ok (.iload_n 1, 1) := by decide +kernel
theorem dX4_set_7 : decode cX4_set 7 = .ok (.invokevirtual 57, 3) := by decide +kernel
theorem dX4_set_10 : decode cX4_set 10 = .ok (.ifCond .ne 9, 3) := by decide +kernel
theorem dX4_set_13 : decode cX4_set 13 = .ok (.aload_n 0, 1) := by decide +kernel
theorem dX4_set_14 : decode cX4_set 14 = .ok (.iconst 1, 1) := by decide +kernel
