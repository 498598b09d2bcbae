set_option maxRecDepth 20000 in
theorem ggX3_count_X1_fact : GoodIn wsX3_count wsX1_fact := goodIn_r _ [12, 13, 14, 15, 16, 17, 18, 19, 20, 11, 21, 22, 23, 24, 25, 26, 27, 30, 31, 32, 33, 34, 35, 36, 37, 38, 39, 40, 41, 42, 43, 44, 45, 46, 47, 48, 49, 50, 51, 52, 53, 54, 55] (by decide +kernel) (by decide +kernel)
set_option maxRecDepth 20000 in
theorem gX3_count_X1_fact : GoodIn wsX3_count (wsV RX3 126 RX1 yX1_fact wsX1_fact) := goodIn_app (goodIn_of _ (by decide +kernel)) ggX3_count_X1_fact
theorem dX3_count_0 : decode cX3_count 0 = .ok (.iload_n 1, 1) := by decide +kernel
theorem dX3_count_1 : decode cX3_count 1 = .ok (.iconst 0, 1) := by decide +kernel
theorem dX3_count_2 : decode cX3_count 2 = .ok (.bipush 8, 2) := by decide +kernel
theorem dX3_count_4 : decode cX3_count 4 = .ok (.invokestatic 19, 3) := by decide +kernel
theorem dX3_count_7 : decode cX3_count 7 = .ok (.ifCond .ne 13, 3) := by decide +kernel
theorem dX3_count_10 : decode cX3_count 10 = .ok (.new 55, 3) := by decide +kernel
theorem dX3_count_13 : decode cX3_count 13 = .ok (.dup, 1) := by decide +kernel
theorem dX3_count_14 : decode cX3_count 14 = .ok (.ldc 124, 2) := by decide +kernel
theorem dX3_count_16 : decode cX3_count 16 = .ok (.invokespecial 59, 3) := by decide +kernel
theorem dX3_count_19 : decode cX3_count 19 = .ok (.athrow, 1) := by decide +kernel
theorem dX3_count_20 : decode cX3_count 20 = .ok (.aload_n 0, 1) := by decide +kernel
theorem dX3_count_21 : decode cX3_count 21 = .ok (.getfield 10, 3) := by decide +kernel
theorem dX3_count_24 : decode cX3_count 24 = .ok (.iload_n 1, 1) := by decide +kernel
theorem dX3_count_25 : decode cX3_count 25 = .ok (.invokevirtual 126, 3) := by decide +kernel
theorem dX3_count_28 : decode cX3_count 28 = .ok (.ireturn, 1) := by decide +kernel
set_option maxRecDepth 20000 in
theorem ggX3_reach_X1_isDoor : GoodIn wsX3_reach wsX1_isDoor := goodIn_r _ [8, 9, 24, 25, 26, 27, 28] (by decide +kernel) (by decide +kernel)
set_option maxRecDepth 20000 in
theorem gX3_reach_X1_isDoor : GoodIn wsX3_reach (wsV RX3 52 RX1 yX1_isDoor wsX1_isDoor) := goodIn_app (goodIn_of _ (by decide +kernel)) ggX3_reach_X1_isDoor
set_option maxRecDepth 20000 in
theorem ggX3_reach_X1_reachedFrom : GoodIn wsX3_reach wsX1_reachedFrom := goodIn_r _ [13, 9, 14, 15, 16, 7, 17, 18, 19, 20, 21, 5, 6, 8, 24, 25, 26, 27, 28, 29, 30, 31, 32, 33, 34, 35, 36, 37, 38, 39, 40, 41, 42] (by decide +kernel) (by decide +kernel)
set_option maxRecDepth 20000 in
theorem gX3_reach_X1_reachedFrom : GoodIn wsX3_reach (wsV RX3 127 RX1 yX1_reachedFrom wsX1_reachedFrom) := goodIn_app (goodIn_of _ (by decide +kernel)) ggX3_reach_X1_reachedFrom
theorem dX3_reach_0 : decode cX3_reach 0 = .ok (.aload_n 0, 1) := by decide +kernel
theorem dX3_reach_1 : decode cX3_reach 1 = .ok (.getfield 10, 3) := by decide +kernel
theorem dX3_reach_4 : decode cX3_reach 4 = .ok (.iload_n 1, 1) := by decide +kernel
theorem dX3_reach_5 : decode cX3_reach 5 = .ok (.invokevirtual 52, 3) := by decide +kernel
theorem dX3_reach_8 : decode cX3_reach 8 = .ok (.ifCond .ne 13, 3) := by decide +kernel
theorem dX3_reach_11 : decode cX3_reach 11 = .ok (.new 55, 3) := by decide +kernel
theorem dX3_reach_14 : decode cX3_reach 14 = .ok (.dup, 1) := by decide +kernel
theorem dX3_reach_15 : decode cX3_reach 15 = .ok (.ldc 57, 2) := by decide +kernel
theorem dX3_reach_17 : decode cX3_reach 17 = .ok (.invokespecial 59, 3) := by decide +kernel
theorem dX3_reach_20 : decode cX3_reach 20 = .ok (.athrow, 1) := by decide +kernel
theorem dX3_reach_21 : decode cX3_reach 21 = .ok (.aload_n 0, 1) := by decide +kernel
theorem dX3_reach_22 : decode cX3_reach 22 = .ok (.getfield 10, 3) := by decide +kernel
theorem dX3_reach_25 : decode cX3_reach 25 = .ok (.iload_n 1, 1) := by decide +kernel
theorem dX3_reach_26 : decode cX3_reach 26 = .ok (.invokevirtual 127, 3) := by decide +kernel
theorem dX3_reach_29 : decode cX3_reach 29 = .ok (.ireturn, 1) := by decide +kernel
set_option maxRecDepth 20000 in
theorem ggX3_pass_X3_isIn : GoodIn wsX3_pass wsX3_isIn := goodIn_r _ [7] (by decide +kernel) (by decide +kernel)
set_option maxRecDepth 20000 in
theorem gX3_pass_X3_isIn : GoodIn wsX3_pass (va_wsS RX3 19 yX3_isIn wsX3_isIn) := goodIn_app (goodIn_of _ (by decide +kernel)) ggX3_pass_X3_isIn
set_option maxRecDepth 20000 in
theorem ggX3_pass_X1_tickOn : GoodIn wsX3_pass wsX1_tickOn := goodIn_r _ [12, 13, 14, 15, 16, 17, 18, 19, 20, 21, 22, 23, 24, 25, 26, 27, 28, 29, 30, 31, 32, 33, 34, 35, 36, 37, 38, 39, 40, 41, 42, 43, 44, 45, 46, 47, 48, 49, 50, 51, 52, 53, 11, 54, 55, 56, 57, 58, 59, 60, 61, 62, 63, 64, 65, 66, 67, 68, 69, 70, 71, 72, 73, 74, 75, 76, 77, 78, 79, 80, 81, 82, 83, 84, 85, 86, 87, 88, 89, 90, 91, 92, 93, 94, 95, 96, 97, 98, 99, 100, 101, 102, 103, 104, 105, 106, 107, 108, 109, 110, 111, 112, 113, 114, 115, 116, 117, 118, 119, 120, 121, 122, 123, 124, 125, 126, 127, 128, 131, 132, 133, 134, 135, 136, 137, 138, 139, 140, 141, 142, 143, 144, 145, 146, 147, 148, 149, 150, 151, 152, 153, 154, 155, 156] (by decide +kernel) (by decide +kernel)
set_option maxRecDepth 20000 in
theorem gX3_pass_X1_tickOn : GoodIn wsX3_pass (wsV RX3 132 RX1 yX1_tickOn wsX1_tickOn) := goodIn_app (goodIn_of _ (by decide +kernel)) ggX3_pass_X1_tickOn
theorem dX3_pass_0 : decode cX3_pass 0 = .ok (.iload_n 1, 1) := by decide +kernel
theorem dX3_pass_1 : decode cX3_pass 1 = .ok (.iconst 1, 1) := by decide +kernel
theorem dX3_pass_2 : decode cX3_pass 2 = .ok (.sipush 200, 3) := by decide +kernel
theorem dX3_pass_5 : decode cX3_pass 5 = .ok (.invokestatic 19, 3) := by decide +kernel
theorem dX3_pass_8 : decode cX3_pass 8 = .ok (.ifCond .ne 13, 3) := by decide +kernel
theorem dX3_pass_11 : decode cX3_pass 11 = .ok (.new 23, 3) := by decide +kernel
theorem dX3_pass_14 : decode cX3_pass 14 = .ok (.dup, 1) := by decide +kernel
theorem dX3_pass_15 : decode cX3_pass 15 = .ok (.ldc 130, 2) := by decide +kernel
theorem dX3_pass_17 : decode cX3_pass 17 = .ok (.invokespecial 27, 3) := by decide +kernel
theorem dX3_pass_20 : decode cX3_pass 20 = .ok (.athrow, 1) := by decide +kernel
theorem dX3_pass_21 : decode cX3_pass 21 = .ok (.iconst 0, 1) := by decide +kernel
theorem dX3_pass_22 : decode cX3_pass 22 = .ok (.istore_n 2, 1) := by decide +kernel
theorem dX3_pass_23 : decode cX3_pass 23 = .ok (.iconst 0, 1) := by decide +kernel
theorem dX3_pass_24 : decode cX3_pass 24 = .ok (.istore_n 3, 1) := by decide +kernel
theorem dX3_pass_25 : decode cX3_pass 25 = .ok (.iload_n 3, 1) := by decide +kernel
theorem dX3_pass_26 : decode cX3_pass 26 = .ok (.iload_n 1, 1) := by decide +kernel
theorem dX3_pass_27 : decode cX3_pass 27 = .ok (.if_icmp .ge 19, 3) := by decide +kernel
theorem dX3_pass_30 : decode cX3_pass 30 = .ok (.iload_n 2, 1) := by decide +kernel
theorem dX3_pass_31 : decode cX3_pass 31 = .ok (.aload_n 0, 1) := by decide +kernel
theorem dX3_pass_32 : decode cX3_pass 32 = .ok (.getfield 10, 3) := by decide +kernel
theorem dX3_pass_35 : decode cX3_pass 35 = .ok (.invokevirtual 132, 3) := by decide +kernel
theorem dX3_pass_38 : decode cX3_pass 38 = .ok (.iadd, 1) := by decide +kernel
theorem dX3_pass_39 : decode cX3_pass 39 = .ok (.istore_n 2, 1) := by decide +kernel
theorem dX3_pass_40 : decode cX3_pass 40 = .ok (.iinc 3 1, 3) := by decide +kernel
theorem dX3_pass_43 : decode cX3_pass 43 = .ok (.goto (-18), 3) := by decide +kernel
theorem dX3_pass_46 : decode cX3_pass 46 = .ok (.iload_n 2, 1) := by decide +kernel
theorem dX3_pass_47 : decode cX3_pass 47 = .ok (.ireturn, 1) := by decide +kernel
set_option maxRecDepth 20000 in
theorem ggX3_opens_X1_isDoor : GoodIn wsX3_opens wsX1_isDoor := goodIn_r _ [11, 12, 150, 151, 152, 153, 154] (by decide +kernel) (by decide +kernel)
set_option maxRecDepth 20000 in
theorem gX3_opens_X1_isDoor : GoodIn wsX3_opens (wsV RX3 52 RX1 yX1_isDoor wsX1_isDoor) := goodIn_app (goodIn_of _ (by decide +kernel)) ggX3_opens_X1_isDoor
set_option maxRecDepth 20000 in
theorem ggX3_opens_X1_copyFrom : GoodIn wsX3_opens wsX1_copyFrom := goodIn_r _ [16, 17, 12, 18, 19, 20, 21, 22, 23, 24, 25, 26, 27, 28, 29, 30, 31, 32, 33, 34, 35, 36, 37, 38, 39, 40, 41, 42, 43, 44, 45, 46, 47, 48, 49, 50, 51, 52, 53, 54, 55, 150, 151, 152, 153, 154, 155, 156, 157, 158, 159, 160, 161, 162, 163, 164, 165, 166, 167, 168, 169, 170, 171, 172, 173, 174, 175] (by decide +kernel) (by decide +kernel)
set_option maxRecDepth 20000 in
theorem gX3_opens_X1_copyFrom : GoodIn wsX3_opens (wsV RX3 136 RX1 yX1_copyFrom wsX1_copyFrom) := goodIn_app (goodIn_of _ (by decide +kernel)) ggX3_opens_X1_copyFrom
set_option maxRecDepth 20000 in
theorem ggX3_opens_X1_tickOn : GoodIn wsX3_opens wsX1_tickOn := goodIn_r _ [59, 12, 18, 19, 60, 61, 62, 63, 64, 65, 66, 17, 67, 68, 69, 23, 70, 28, 29, 71, 72, 73, 46, 74, 48, 54, 50, 52, 53, 55, 75, 76, 77, 78, 49, 79, 80, 81, 82, 83, 84, 85, 10, 86, 87, 8, 9, 11, 88, 89, 90, 91, 39, 92, 93, 94, 95, 32, 33, 96, 97, 98, 99, 100, 101, 102, 103, 104, 105, 106, 107, 26, 108, 109, 110, 111, 40, 41, 42, 112, 113, 114, 115, 116, 117, 118, 119, 120, 121, 122, 123, 124, 125, 126, 127, 128, 129, 130, 131, 132, 133, 134, 135, 27, 136, 137, 138, 139, 30, 140, 141, 142, 143, 31, 144, 145, 146, 147, 150, 151, 152, 153, 154, 169, 170, 171, 172, 173, 174, 175, 155, 156, 157, 158, 159, 160, 161, 162, 163, 164, 165, 166, 167, 168] (by decide +kernel) (by decide +kernel)
set_option maxRecDepth 20000 in
theorem gX3_opens_X1_tickOn : GoodIn wsX3_opens (wsV RX3 132 RX1 yX1_tickOn wsX1_tickOn) := goodIn_app (goodIn_of _ (by decide +kernel)) ggX3_opens_X1_tickOn
theorem dX3_opens_0 : decode cX3_opens 0 = .ok (.aload_n 0, 1) := by decide +kernel
theorem dX3_opens_1 : decode cX3_opens 1 = .ok (.getfield 10, 3) := by decide +kernel
theorem dX3_opens_4 : decode cX3_opens 4 = .ok (.iload_n 1, 1) := by decide +kernel
theorem dX3_opens_5 : decode cX3_opens 5 = .ok (.invokevirtual 52, 3) := by decide +kernel
theorem dX3_opens_8 : decode cX3_opens 8 = .ok (.ifCond .ne 13, 3) := by decide +kernel
theorem dX3_opens_11 : decode cX3_opens 11 = .ok (.new 55, 3) := by decide +kernel
theorem dX3_opens_14 : decode cX3_opens 14 = .ok (.dup, 1) := by decide +kernel
theorem dX3_opens_15 : decode cX3_opens 15 = .ok (.ldc 57, 2) := by decide +kernel
theorem dX3_opens_17 : decode cX3_opens 17 = .ok (.invokespecial 59, 3) := by decide +kernel
theorem dX3_opens_20 : decode cX3_opens 20 = .ok (.athrow, 1) := by decide +kernel
theorem dX3_opens_21 : decode cX3_opens 21 = .ok (.aload_n 0, 1) := by decide +kernel
theorem dX3_opens_22 : decode cX3_opens 22 = .ok (.getfield 10, 3) := by decide +kernel
theorem dX3_opens_25 : decode cX3_opens 25 = .ok (.getfield 62, 3) := by decide +kernel
theorem dX3_opens_28 : decode cX3_opens 28 = .ok (.iload_n 1, 1) := by decide +kernel
theorem dX3_opens_29 : decode cX3_opens 29 = .ok (.aaload, 1) := by decide +kernel
theorem dX3_opens_30 : decode cX3_opens 30 = .ok (.getfield 66, 3) := by decide +kernel
theorem dX3_opens_33 : decode cX3_opens 33 = .ok (.iconst 2, 1) := by decide +kernel
theorem dX3_opens_34 : decode cX3_opens 34 = .ok (.if_icmp .ne 5, 3) := by decide +kernel
theorem dX3_opens_37 : decode cX3_opens 37 = .ok (.iconst 0, 1) := by decide +kernel
theorem dX3_opens_38 : decode cX3_opens 38 = .ok (.ireturn, 1) := by decide +kernel
theorem dX3_opens_39 : decode cX3_opens 39 = .ok (.aload_n 0, 1) := by decide +kernel
theorem dX3_opens_40 : decode cX3_opens 40 = .ok (.getfield 16, 3) := by decide +kernel
theorem dX3_opens_43 : decode cX3_opens 43 = .ok (.aload_n 0, 1) := by decide +kernel
theorem dX3_opens_44 : decode cX3_opens 44 = .ok (.getfield 10, 3) := by decide +kernel
theorem dX3_opens_47 : decode cX3_opens 47 = .ok (.invokevirtual 136, 3) := by decide +kernel
theorem dX3_opens_50 : decode cX3_opens 50 = .ok (.iconst 1, 1) := by decide +kernel
theorem dX3_opens_51 : decode cX3_opens 51 = .ok (.istore_n 2, 1) := by decide +kernel
theorem dX3_opens_52 : decode cX3_opens 52 = .ok (.iload_n 2, 1) := by decide +kernel
theorem dX3_opens_53 : decode cX3_opens 53 = .ok (.bipush 100, 2) := by decide +kernel
theorem dX3_opens_55 : decode cX3_opens 55 = .ok (.if_icmp .gt 35, 3) := by decide +kernel
theorem dX3_opens_58 : decode cX3_opens 58 = .ok (.aload_n 0, 1) := by decide +kernel
theorem dX3_opens_59 : decode cX3_opens 59 = .ok (.getfield 16, 3) := by decide +kernel
theorem dX3_opens_62 : decode cX3_opens 62 = .ok (.invokevirtual 132, 3) := by decide +kernel
theorem dX3_opens_65 : decode cX3_opens 65 = .ok (.pop, 1) := by decide +kernel
theorem dX3_opens_66 : decode cX3_opens 66 = .ok (.aload_n 0, 1) := by decide +kernel
theorem dX3_opens_67 : decode cX3_opens 67 = .ok (.getfield 16, 3) := by decide +kernel
theorem dX3_opens_70 : decode cX3_opens 70 = .ok (.getfield 62, 3) := by decide +kernel
theorem dX3_opens_73 : decode cX3_opens 73 = .ok (.iload_n 1, 1) := by decide +kernel
theorem dX3_opens_74 : decode cX3_opens 74 = .ok (.aaload, 1) := by decide +kernel
theorem dX3_opens_75 : decode cX3_opens 75 = .ok (.getfield 66, 3) := by decide +kernel
theorem dX3_opens_78 : decode cX3_opens 78 = .ok (.iconst 2, 1) := by decide +kernel
theorem dX3_opens_79 : decode cX3_opens 79 = .ok (.if_icmp .ne 5, 3) := by decide +kernel
theorem dX3_opens_82 : decode cX3_opens 82 = .ok (.iload_n 2, 1) := by decide +kernel
theorem dX3_opens_83 : decode cX3_opens 83 = .ok (.ireturn, 1) := by decide +kernel
theorem dX3_opens_84 : decode cX3_opens 84 = .ok (.iinc 2 1, 3) := by decide +kernel
theorem dX3_opens_87 : decode cX3_opens 87 = .ok (.goto (-35), 3) := by decide +kernel
theorem dX3_opens_90 : decode cX3_opens 90 = .ok (.iconst (-1), 1) := by decide +kernel
theorem dX3_opens_91 : decode cX3_opens 91 = .ok (.ireturn, 1) := by decide +kernel
set_option maxRecDepth 20000 in
theorem ggX3_would_X1_isDoor : GoodIn wsX3_would wsX1_isDoor := goodIn_r _ [10, 11, 170, 171, 172, 173, 174] (by decide +kernel) (by decide +kernel)
set_option maxRecDepth 20000 in
theorem gX3_would_X1_isDoor : GoodIn wsX3_would (wsV RX3 52 RX1 yX1_isDoor wsX1_isDoor) := goodIn_app (goodIn_of _ (by decide +kernel)) ggX3_would_X1_isDoor
set_option maxRecDepth 20000 in
theorem ggX3_would_X3_isIn : GoodIn wsX3_would wsX3_isIn := goodIn_r _ [15] (by decide +kernel) (by decide +kernel)
set_option maxRecDepth 20000 in
theorem gX3_would_X3_isIn : GoodIn wsX3_would (va_wsS RX3 19 yX3_isIn wsX3_isIn) := goodIn_app (goodIn_of _ (by decide +kernel)) ggX3_would_X3_isIn
set_option maxRecDepth 20000 in
theorem ggX3_would_X3_openedByWhisper : GoodIn wsX3_would wsX3_openedByWhisper := goodIn_r _ [19, 20, 5, 21, 22, 23, 24, 25, 9, 26, 27, 11, 28, 29, 30, 31, 32, 33, 34, 35, 36, 37, 38, 39, 40, 41, 42, 43, 44, 45, 46, 47, 48, 49, 50, 51, 52, 53, 54, 55, 56, 57, 58, 59, 60, 61, 62, 63, 64, 65, 66, 67, 68, 69, 70, 71, 72, 7, 8, 10, 73, 74, 75, 76, 77, 78, 79, 80, 81, 82, 83, 84, 85, 86, 87, 88, 89, 90, 91, 92, 93, 94, 95, 96, 97, 98, 99, 100, 101, 102, 103, 104, 105, 106, 107, 108, 109, 110, 111, 112, 113, 114, 115, 116, 117, 118, 119, 120, 121, 122, 123, 124, 125, 126, 127, 128, 129, 130, 131, 132, 133, 134, 135, 136, 137, 138, 139, 140, 141, 142, 143, 144, 145, 146, 147, 148, 149, 150, 151, 152, 153, 154, 155, 156, 157, 158, 159, 160, 161, 162, 163, 164, 165, 166, 167, 168, 169, 170, 171, 172, 173, 174, 175, 176, 177, 178, 179, 180, 181, 182, 183, 184, 185, 186, 187, 188, 189, 190, 191, 192, 193, 194, 195] (by decide +kernel) (by decide +kernel)
set_option maxRecDepth 20000 in
theorem gX3_would_X3_openedByWhisper : GoodIn wsX3_would (wsV RX3 142 RX3 yX3_openedByWhisper wsX3_openedByWhisper) := goodIn_app (goodIn_of _ (by decide +kernel)) ggX3_would_X3_openedByWhisper
theorem dX3_would_0 : decode cX3_would 0 = .ok (.aload_n 0, 1) := by decide +kernel
theorem dX3_would_1 : decode cX3_would 1 = .ok (.getfield 10, 3) := by decide +kernel
theorem dX3_would_4 : decode cX3_would 4 = .ok (.iload_n 1, 1) := by decide +kernel
theorem dX3_would_5 : decode cX3_would 5 = .ok (.invokevirtual 52, 3) := by decide +kernel
theorem dX3_would_8 : decode cX3_would 8 = .ok (.ifCond .ne 13, 3) := by decide +kernel
theorem dX3_would_11 : decode cX3_would 11 = .ok (.new 55, 3) := by decide +kernel
theorem dX3_would_14 : decode cX3_would 14 = .ok (.dup, 1) := by decide +kernel
theorem dX3_would_15 : decode cX3_would 15 = .ok (.ldc 57, 2) := by decide +kernel
theorem dX3_would_17 : decode cX3_would 17 = .ok (.invokespecial 59, 3) := by decide +kernel
theorem dX3_would_20 : decode cX3_would 20 = .ok (.athrow, 1) := by decide +kernel
theorem dX3_would_21 : decode cX3_would 21 = .ok (.iload_n 2, 1) := by decide +kernel
theorem dX3_would_22 : decode cX3_would 22 = .ok (.iconst 1, 1) := by decide +kernel
theorem dX3_would_23 : decode cX3_would 23 = .ok (.bipush 100, 2) := by decide +kernel
theorem dX3_would_25 : decode cX3_would 25 = .ok (.invokestatic 19, 3) := by decide +kernel
theorem dX3_would_28 : decode cX3_would 28 = .ok (.ifCond .ne 13, 3) := by decide +kernel
theorem dX3_would_31 : decode cX3_would 31 = .ok (.new 23, 3) := by decide +kernel
theorem dX3_would_34 : decode cX3_would 34 = .ok (.dup, 1) := by decide +kernel
theorem dX3_would_35 : decode cX3_would 35 = .ok (.ldc 140, 2) := by decide +kernel
theorem dX3_would_37 : decode cX3_would 37 = .ok (.invokespecial 27, 3) := by decide +kernel
theorem dX3_would_40 : decode cX3_would 40 = .ok (.athrow, 1) := by decide +kernel
theorem dX3_would_41 : decode cX3_would 41 = .ok (.aload_n 0, 1) := by decide +kernel
theorem dX3_would_42 : decode cX3_would 42 = .ok (.iload_n 1, 1) := by decide +kernel
theorem dX3_would_43 : decode cX3_would 43 = .ok (.iload_n 2, 1) := by decide +kernel
theorem dX3_would_44 : decode cX3_would 44 = .ok (.invokevirtual 142, 3) := by decide +kernel
theorem dX3_would_47 : decode cX3_would 47 = .ok (.ireturn, 1) := by decide +kernel
theorem dX3_mean_0 : decode cX3_mean 0 = .ok (.iconst 0, 1) := by decide +kernel
theorem dX3_mean_1 : decode cX3_mean 1 = .ok (.istore_n 1, 1) := by decide +kernel
theorem dX3_mean_2 : decode cX3_mean 2 = .ok (.iconst 0, 1) := by decide +kernel
theorem dX3_mean_3 : decode cX3_mean 3 = .ok (.istore_n 2, 1) := by decide +kernel
theorem dX3_mean_4 : decode cX3_mean 4 = .ok (.iconst 0, 1) := by decide +kernel
theorem dX3_mean_5 : decode cX3_mean 5 = .ok (.istore_n 3, 1) := by decide +kernel
theorem dX3_mean_6 : decode cX3_mean 6 = .ok (.iload_n 3, 1) := by decide +kernel
theorem dX3_mean_7 : decode cX3_mean 7 = .ok (.aload_n 0, 1) := by decide +kernel
theorem dX3_mean_8 : decode cX3_mean 8 = .ok (.getfield 10, 3) := by decide +kernel
theorem dX3_mean_11 : decode cX3_mean 11 = .ok (.getfield 39, 3) := by decide +kernel
theorem dX3_mean_14 : decode cX3_mean 14 = .ok (.if_icmp .ge 39, 3) := by decide +kernel
theorem dX3_mean_17 : decode cX3_mean 17 = .ok (.iload_n 1, 1) := by decide +kernel
theorem dX3_mean_18 : decode cX3_mean 18 = .ok (.aload_n 0, 1) := by decide +kernel
theorem dX3_mean_19 : decode cX3_mean 19 = .ok (.getfield 10, 3) := by decide +kernel
theorem dX3_mean_22 : decode cX3_mean 22 = .ok (.getfield 62, 3) := by decide +kernel
theorem dX3_mean_25 : decode cX3_mean 25 = .ok (.iload_n 3, 1) := by decide +kernel
theorem dX3_mean_26 : decode cX3_mean 26 = .ok (.aaload, 1) := by decide +kernel
theorem dX3_mean_27 : decode cX3_mean 27 = .ok (.getfield 152, 3) := by decide +kernel
theorem dX3_mean_30 : decode cX3_mean 30 = .ok (.iadd, 1) := by decide +kernel
theorem dX3_mean_31 : decode cX3_mean 31 = .ok (.istore_n 1, 1) := by decide +kernel
theorem dX3_mean_32 : decode cX3_mean 32 = .ok (.iload_n 2, 1) := by decide +kernel
theorem dX3_mean_33 : decode cX3_mean 33 = .ok (.aload_n 0, 1) := by decide +kernel
theorem dX3_mean_34 : decode cX3_mean 34 = .ok (.getfield 10, 3) := by decide +kernel
theorem dX3_mean_37 : decode cX3_mean 37 = .ok (.getfield 62, 3) := by decide +kernel
theorem dX3_mean_40 : decode cX3_mean 40 = .ok (.iload_n 3, 1) := by decide +kernel
theorem dX3_mean_41 : decode cX3_mean 41 = .ok (.aaload, 1) := by decide +kernel
theorem dX3_mean_42 : decode cX3_mean 42 = .ok (.getfield 155, 3) := by decide +kernel
theorem dX3_mean_45 : decode cX3_mean 45 = .ok (.iadd, 1) := by decide +kernel
theorem dX3_mean_46 : decode cX3_mean 46 = .ok (.istore_n 2, 1) := by decide +kernel
theorem dX3_mean_47 : decode cX3_mean 47 = .ok (.iinc 3 1, 3) := by decide +kernel
theorem dX3_mean_50 : decode cX3_mean 50 = .ok (.goto (-44), 3) := by decide +kernel
theorem dX3_mean_53 : decode cX3_mean 53 = .ok (.iload_n 1, 1) := by decide +kernel
theorem dX3_mean_54 : decode cX3_mean 54 = .ok (.iload_n 2, 1) := by decide +kernel
theorem dX3_mean_55 : decode cX3_mean 55 = .ok (.iadd, 1) := by decide +kernel
theorem dX3_mean_56 : decode cX3_mean 56 = .ok (.istore_n 3, 1) := by decide +kernel
theorem dX3_mean_57 : decode cX3_mean 57 = .ok (.iload_n 3, 1) := by decide +kernel
theorem dX3_mean_58 : decode cX3_mean 58 = .ok (.ifCond .le 11, 3) := by decide +kernel
theorem dX3_mean_61 : decode cX3_mean 61 = .ok (.iload_n 1, 1) := by decide +kernel
theorem dX3_mean_62 : decode cX3_mean 62 = .ok (.i2d, 1) := by decide +kernel
theorem dX3_mean_63 : decode cX3_mean 63 = .ok (.iload_n 3, 1) := by decide +kernel
theorem dX3_mean_64 : decode cX3_mean 64 = .ok (.i2d, 1) := by decide +kernel
theorem dX3_mean_65 : decode cX3_mean 65 = .ok (.ddiv, 1) := by decide +kernel
theorem dX3_mean_66 : decode cX3_mean 66 = .ok (.goto 4, 3) := by decide +kernel
theorem dX3_mean_69 : decode cX3_mean 69 = .ok (.dconst 0, 1) := by decide +kernel
theorem dX3_mean_70 : decode cX3_mean 70 = .ok (.dreturn, 1) := by decide +kernel
set_option maxRecDepth 20000 in
theorem ggX3_openedByWhisper_X1_copyFrom : GoodIn wsX3_openedByWhisper wsX1_copyFrom := goodIn_r _ [9, 10, 11, 12, 13, 14, 15, 16, 17, 18, 19, 20, 21, 22, 23, 24, 25, 26, 27, 28, 29, 30, 31, 32, 33, 34, 35, 36, 37, 38, 39, 40, 41, 42, 43, 44, 45, 46, 47, 48, 49, 157, 158, 159, 160, 161, 162, 163, 164, 165, 166, 167, 168, 169, 170, 171, 172, 173, 174, 175, 176, 177, 178, 179, 180, 181, 182] (by decide +kernel) (by decide +kernel)
set_option maxRecDepth 20000 in
theorem gX3_openedByWhisper_X1_copyFrom : GoodIn wsX3_openedByWhisper (wsV RX3 136 RX1 yX1_copyFrom wsX1_copyFrom) := goodIn_app (goodIn_of _ (by decide +kernel)) ggX3_openedByWhisper_X1_copyFrom
set_option maxRecDepth 20000 in
theorem ggX3_openedByWhisper_X1_hearToken : GoodIn wsX3_openedByWhisper wsX1_hearToken := goodIn_r _ [53, 12, 54, 55, 56, 57, 58, 8, 59, 11, 60, 61, 62, 17, 63, 22, 23, 25, 64, 65, 66, 67, 68, 13, 69, 70, 71, 72, 73, 74, 20, 75, 76, 77, 40, 78, 42, 43, 44, 46, 47, 48, 49, 157, 158, 159, 160, 161, 162, 163, 164, 165, 166, 167, 168, 169, 170, 171, 172, 173, 174, 175, 176, 177, 178, 179, 180, 181, 182] (by decide +kernel) (by decide +kernel)
set_option maxRecDepth 20000 in
theorem gX3_openedByWhisper_X1_hearToken : GoodIn wsX3_openedByWhisper (wsV RX3 94 RX1 yX1_hearToken wsX1_hearToken) := goodIn_app (goodIn_of _ (by decide +kernel)) ggX3_openedByWhisper_X1_hearToken
set_option maxRecDepth 20000 in
theorem ggX3_openedByWhisper_X1_tickOn : GoodIn wsX3_openedByWhisper wsX1_tickOn := goodIn_r _ [82, 11, 12, 13, 83, 84, 85, 86, 87, 88, 54, 10, 89, 90, 91, 17, 92, 22, 23, 93, 94, 95, 40, 96, 42, 48, 44, 46, 47, 49, 97, 76, 77, 78, 43, 98, 99, 100, 101, 102, 103, 104, 8, 105, 56, 57, 58, 59, 106, 107, 108, 109, 33, 110, 111, 112, 113, 26, 27, 75, 64, 65, 66, 67, 68, 69, 70, 71, 72, 73, 74, 20, 114, 115, 116, 117, 34, 35, 36, 118, 119, 120, 121, 122, 123, 124, 125, 126, 127, 128, 129, 130, 131, 132, 133, 134, 135, 136, 137, 138, 139, 140, 141, 21, 142, 143, 144, 145, 24, 146, 61, 62, 63, 25, 147, 148, 149, 150, 157, 158, 159, 160, 161, 176, 177, 178, 179, 180, 181, 182, 162, 163, 164, 165, 166, 167, 168, 169, 170, 171, 172, 173, 174, 175] (by decide +kernel) (by decide +kernel)
set_option maxRecDepth 20000 in
theorem gX3_openedByWhisper_X1_tickOn : GoodIn wsX3_openedByWhisper (wsV RX3 132 RX1 yX1_tickOn wsX1_tickOn) := goodIn_app (goodIn_of _ (by decide +kernel)) ggX3_openedByWhisper_X1_tickOn
set_option maxRecDepth 20000 in
theorem ggX3_openedByWhisper_X1_openDoors : GoodIn wsX3_openedByWhisper wsX1_openDoors := goodIn_r _ [154, 11, 12, 54, 157, 158, 159, 160, 161, 162, 163, 164, 165, 166, 167, 168, 169, 170, 171, 172, 173, 174, 175] (by decide +kernel) (by decide +kernel)
set_option maxRecDepth 20000 in
theorem gX3_openedByWhisper_X1_openDoors : GoodIn wsX3_openedByWhisper (wsV RX3 169 RX1 yX1_openDoors wsX1_openDoors) := goodIn_app (goodIn_of _ (by decide +kernel)) ggX3_openedByWhisper_X1_openDoors
theorem dX3_openedByWhisper_0 : decode cX3_openedByWhisper 0 = .ok (.aload_n 0, 1) := by decide +kernel
theorem dX3_openedByWhisper_1 : decode cX3_openedByWhisper 1 = .ok (.getfield 16, 3) := by decide +kernel
theorem dX3_openedByWhisper_4 : decode cX3_openedByWhisper 4 = .ok (.aload_n 0, 1) := by decide +kernel
theorem dX3_openedByWhisper_5 : decode cX3_openedByWhisper 5 = .ok (.getfield 10, 3) := by decide +kernel
theorem dX3_openedByWhisper_8 : decode cX3_openedByWhisper 8 = .ok (.invokevirtual 136, 3) := by decide +kernel
theorem dX3_openedByWhisper_11 : decode cX3_openedByWhisper 11 = .ok (.aload_n 0, 1) := by decide +kernel
theorem dX3_openedByWhisper_12 : decode cX3_openedByWhisper 12 = .ok (.getfield 16, 3) := by decide +kernel
theorem dX3_openedByWhisper_15 : decode cX3_openedByWhisper 15 = .ok (.iload_n 1, 1) := by decide +kernel
theorem dX3_openedByWhisper_16 : decode cX3_openedByWhisper 16 = .ok (.aload_n 0, 1) := by decide +kernel
theorem dX3_openedByWhisper_17 : decode cX3_openedByWhisper 17 = .ok (.getfield 16, 3) := by decide +kernel
theorem dX3_openedByWhisper_20 : decode cX3_openedByWhisper 20 = .ok (.getfield 62, 3) := by decide +kernel
theorem dX3_openedByWhisper_23 : decode cX3_openedByWhisper 23 = .ok (.iload_n 1, 1) := by decide +kernel
theorem dX3_openedByWhisper_24 : decode cX3_openedByWhisper 24 = .ok (.aaload, 1) := by decide +kernel
theorem dX3_openedByWhisper_25 : decode cX3_openedByWhisper 25 = .ok (.getfield 166, 3) := by decide +kernel
theorem dX3_openedByWhisper_28 : decode cX3_openedByWhisper 28 = .ok (.invokevirtual 94, 3) := by decide +kernel
theorem dX3_openedByWhisper_31 : decode cX3_openedByWhisper 31 = .ok (.pop, 1) := by decide +kernel
theorem dX3_openedByWhisper_32 : decode cX3_openedByWhisper 32 = .ok (.iconst 0, 1) := by decide +kernel
theorem dX3_openedByWhisper_33 : decode cX3_openedByWhisper 33 = .ok (.istore_n 3, 1) := by decide +kernel
theorem dX3_openedByWhisper_34 : decode cX3_openedByWhisper 34 = .ok (.iconst 0, 1) := by decide +kernel
theorem dX3_openedByWhisper_35 : decode cX3_openedByWhisper 35 = .ok (.istore 4, 2) := by decide +kernel
theorem dX3_openedByWhisper_37 : decode cX3_openedByWhisper 37 = .ok (.iload 4, 2) := by decide +kernel
theorem dX3_openedByWhisper_39 : decode cX3_openedByWhisper 39 = .ok (.iload_n 2, 1) := by decide +kernel
theorem dX3_openedByWhisper_40 : decode cX3_openedByWhisper 40 = .ok (.if_icmp .ge 27, 3) := by decide +kernel
theorem dX3_openedByWhisper_43 : decode cX3_openedByWhisper 43 = .ok (.aload_n 0, 1) := by decide +kernel
theorem dX3_openedByWhisper_44 : decode cX3_openedByWhisper 44 = .ok (.getfield 16, 3) := by decide +kernel
theorem dX3_openedByWhisper_47 : decode cX3_openedByWhisper 47 = .ok (.invokevirtual 132, 3) := by decide +kernel
theorem dX3_openedByWhisper_50 : decode cX3_openedByWhisper 50 = .ok (.pop, 1) := by decide +kernel
theorem dX3_openedByWhisper_51 : decode cX3_openedByWhisper 51 = .ok (.iload_n 3, 1) := by decide +kernel
theorem dX3_openedByWhisper_52 : decode cX3_openedByWhisper 52 = .ok (.aload_n 0, 1) := by decide +kernel
theorem dX3_openedByWhisper_53 : decode cX3_openedByWhisper 53 = .ok (.getfield 16, 3) := by decide +kernel
theorem dX3_openedByWhisper_56 : decode cX3_openedByWhisper 56 = .ok (.invokevirtual 169, 3) := by decide +kernel
theorem dX3_openedByWhisper_59 : decode cX3_openedByWhisper 59 = .ok (.ior, 1) := by decide +kernel
theorem dX3_openedByWhisper_60 : decode cX3_openedByWhisper 60 = .ok (.istore_n 3, 1) := by decide +kernel
theorem dX3_openedByWhisper_61 : decode cX3_openedByWhisper 61 = .ok (.iinc 4 1, 3) := by decide +kernel
theorem dX3_openedByWhisper_64 : decode cX3_openedByWhisper 64 = .ok (.goto (-27), 3) := by decide +kernel
theorem dX3_openedByWhisper_67 : decode cX3_openedByWhisper 67 = .ok (.iload_n 3, 1) := by decide +kernel
theorem dX3_openedByWhisper_68 : decode cX3_openedByWhisper 68 = .ok (.ireturn, 1) := by decide +kernel
theorem dX3_isIn_0 : decode cX3_isIn 0 = .ok (.iload_n 0, 1) := by decide +kernel
theorem dX3_isIn_1 : decode cX3_isIn 1 = .ok (.iload_n 1, 1) := by decide +kernel
theorem dX3_isIn_2 : decode cX3_isIn 2 = .ok (.if_icmp .lt 12, 3) := by decide +kernel
theorem dX3_isIn_5 : decode cX3_isIn 5 = .ok (.iload_n 0, 1) := by decide +kernel
theorem dX3_isIn_6 : decode cX3_isIn 6 = .ok (.iload_n 2, 1) := by decide +kernel
theorem dX3_isIn_7 : decode cX3_isIn 7 = .ok (.if_icmp .gt 7, 3) := by decide +kernel
theorem dX3_isIn_10 : decode cX3_isIn 10 = .ok (.iconst 1, 1) := by decide +kernel
theorem dX3_isIn_11 : decode cX3_isIn 11 = .ok (.goto 4, 3) := by decide +kernel
theorem dX3_isIn_14 : decode cX3_isIn 14 = .ok (.iconst 0, 1) := by decide +kernel
theorem dX3_isIn_15 : decode cX3_isIn 15 = .ok (.ireturn, 1) := by decide +kernel
set_option maxRecDepth 20000 in
theorem ggX3_isPatience_X3_isIn : GoodIn wsX3_isPatience wsX3_isIn := goodIn_r _ [4] (by decide +kernel) (by decide +kernel)
set_option maxRecDepth 20000 in
theorem gX3_isPatience_X3_isIn : GoodIn wsX3_isPatience (va_wsS RX3 19 yX3_isIn wsX3_isIn) := goodIn_app (goodIn_of _ (by decide +kernel)) ggX3_isPatience_X3_isIn
theorem dX3_isPatience_0 : decode cX3_isPatience 0 = .ok (.iload_n 0, 1) := by decide +kernel
theorem dX3_isPatience_1 : decode cX3_isPatience 1 = .ok (.iconst 1, 1) := by decide +kernel
theorem dX3_isPatience_2 : decode cX3_isPatience 2 = .ok (.bipush 20, 2) := by decide +kernel
theorem dX3_isPatience_4 : decode cX3_isPatience 4 = .ok (.invokestatic 19, 3) := by decide +kernel
theorem dX3_isPatience_7 : decode cX3_isPatience 7 = .ok (.ireturn, 1) := by decide +kernel
set_option maxRecDepth 20000 in
theorem ggX3_isRule_X3_isIn : GoodIn wsX3_isRule wsX3_isIn := goodIn_r _ [4] (by decide +kernel) (by decide +kernel)
set_option maxRecDepth 20000 in
theorem gX3_isRule_X3_isIn : GoodIn wsX3_isRule (va_wsS RX3 19 yX3_isIn wsX3_isIn) := goodIn_app (goodIn_of _ (by decide +kernel)) ggX3_isRule_X3_isIn
theorem dX3_isRule_0 : decode cX3_isRule 0 = .ok (.iload_n 0, 1) := by decide +kernel
theorem dX3_isRule_1 : decode cX3_isRule 1 = .ok (.iconst 0, 1) := by decide +kernel
theorem dX3_isRule_2 : decode cX3_isRule 2 = .ok (.iconst 3, 1) := by decide +kernel
theorem dX3_isRule_3 : decode cX3_isRule 3 = .ok (.invokestatic 19, 3) := by decide +kernel
theorem dX3_isRule_6 : decode cX3_isRule 6 = .ok (.ireturn, 1) := by decide +kernel
theorem dX4_init_0 : decode cX4_init 0 = .ok (.aload_n 0, 1) := by decide +kernel
theorem dX4_init_1 : decode cX4_init 1 = .ok (.invokespecial 1, 3) := by decide +kernel
theorem dX4_init_4 : decode cX4_init 4 = .ok (.aload_n 0, 1) := by decide +kernel
theorem dX4_init_5 : decode cX4_init 5 = .ok (.iconst 0, 1) := by decide +kernel
theorem dX4_init_6 : decode cX4_init 6 = .ok (.anewarray 7, 3) := by decide +kernel
theorem dX4_init_9 : decode cX4_init 9 = .ok (.putfield 9, 3) := by decide +kernel
theorem dX4_init_12 : decode cX4_init 12 = .ok (.aload_n 0, 1) := by decide +kernel
theorem dX4_init_13 : decode cX4_init 13 = .ok (.iconst 0, 1) := by decide +kernel
theorem dX4_init_14 : decode cX4_init 14 = .ok (.anewarray 7, 3) := by decide +kernel
theorem dX4_init_17 : decode cX4_init 17 = .ok (.putfield 15, 3) := by decide +kernel
theorem dX4_init_20 : decode cX4_init 20 = .ok (.return_, 1) := by decide +kernel
theorem dX4_answers_0 : decode cX4_answers 0 = .ok (.iconst 0, 1) := by decide +kernel
theorem dX4_answers_1 : decode cX4_answers 1 = .ok (.istore_n 2, 1) := by decide +kernel
theorem dX4_answers_2 : decode cX4_answers 2 = .ok (.aload_n 0, 1) := by decide +kernel
theorem dX4_answers_3 : decode cX4_answers 3 = .ok (.getfield 9, 3) := by decide +kernel
theorem dX4_answers_6 : decode cX4_answers 6 = .ok (.astore_n 3, 1) := by decide +kernel
theorem dX4_answers_7 : decode cX4_answers 7 = .ok (.aload_n 3, 1) := by decide +kernel
theorem dX4_answers_8 : decode cX4_answers 8 = .ok (.arraylength, 1) := by decide +kernel
theorem dX4_answers_9 : decode cX4_answers 9 = .ok (.istore 4, 2) := by decide +kernel
theorem dX4_answers_11 : decode cX4_answers 11 = .ok (.iconst 0, 1) := by decide +kernel
theorem dX4_answers_12 : decode cX4_answers 12 = .ok (.istore 5, 2) := by decide +kernel
theorem dX4_answers_14 : decode cX4_answers 14 = .ok (.iload 5, 2) := by decide +kernel
theorem dX4_answers_16 : decode cX4_answers 16 = .ok (.iload 4, 2) := by decide +kernel
theorem dX4_answers_18 : decode cX4_answers 18 = .ok (.if_icmp .ge 53, 3) := by decide +kernel
theorem dX4_answers_21 : decode cX4_answers 21 = .ok (.aload_n 3, 1) := by decide +kernel
theorem dX4_answers_22 : decode cX4_answers 22 = .ok (.iload 5, 2) := by decide +kernel
theorem dX4_answers_24 : decode cX4_answers 24 = .ok (.aaload, 1) := by decide +kernel
theorem dX4_answers_25 : decode cX4_answers 25 = .ok (.astore 6, 2) := by decide +kernel
theorem dX4_answers_27 : decode cX4_answers 27 = .ok (.iload_n 2, 1) := by decide +kernel
theorem dX4_answers_28 : decode cX4_answers 28 = .ok (.aload_n 0, 1) := by decide +kernel
theorem dX4_answers_29 : decode cX4_answers 29 = .ok (.getfield 29, 3) := by decide +kernel
theorem dX4_answers_32 : decode cX4_answers 32 = .ok (.iconst 1, 1) := by decide +kernel
theorem dX4_answers_33 : decode cX4_answers 33 = .ok (.if_icmp .ne 29, 3) := by decide +kernel
theorem dX4_answers_36 : decode cX4_answers 36 = .ok (.iload_n 1, 1) := by decide +kernel
theorem dX4_answers_37 : decode cX4_answers 37 = .ok (.ifCond .ge 13, 3) := by decide +kernel
theorem dX4_answers_40 : decode cX4_answers 40 = .ok (.aload 6, 2) := by decide +kernel
theorem dX4_answers_42 : decode cX4_answers 42 = .ok (.iconst 2, 1) := by decide +kernel
theorem dX4_answers_43 : decode cX4_answers 43 = .ok (.iaload, 1) := by decide +kernel
theorem dX4_answers_44 : decode cX4_answers 44 = .ok (.ifCond .lt 18, 3) := by decide +kernel
theorem dX4_answers_47 : decode cX4_answers 47 = .ok (.goto 11, 3) := by decide +kernel
theorem dX4_answers_50 : decode cX4_answers 50 = .ok (.aload 6, 2) := by decide +kernel
theorem dX4_answers_52 : decode cX4_answers 52 = .ok (.iconst 2, 1) := by decide +kernel
theorem dX4_answers_53 : decode cX4_answers 53 = .ok (.iaload, 1) := by decide +kernel
theorem dX4_answers_54 : decode cX4_answers 54 = .ok (.iload_n 1, 1) := by decide +kernel
theorem dX4_answers_55 : decode cX4_answers 55 = .ok (.if_icmp .ne 7, 3) := by decide +kernel
theorem dX4_answers_58 : decode cX4_answers 58 = .ok (.iconst 1, 1) := by decide +kernel
theorem dX4_answers_59 : decode cX4_answers 59 = .ok (.goto 4, 3) := by decide +kernel
theorem dX4_answers_62 : decode cX4_answers 62 = .ok (.iconst 0, 1) := by decide +kernel
theorem dX4_answers_63 : decode cX4_answers 63 = .ok (.iadd, 1) := by decide +kernel
theorem dX4_answers_64 : decode cX4_answers 64 = .ok (.istore_n 2, 1) := by decide +kernel
theorem dX4_answers_65 : decode cX4_answers 65 = .ok (.iinc 5 1, 3) := by decide +kernel
theorem dX4_answers_68 : decode cX4_answers 68 = .ok (.goto (-54), 3) := by decide +kernel
theorem dX4_answers_71 : decode cX4_answers 71 = .ok (.iload_n 2, 1) := by decide +kernel
theorem dX4_answers_72 : decode cX4_answers 72 = .ok (.ireturn, 1) := by decide +kernel
theorem dX5_init_0 : decode cX5_init 0 = .ok (.aload_n 0, 1) := by decide +kernel
theorem dX5_init_1 : decode cX5_init 1 = .ok (.invokespecial 1, 3) := by decide +kernel
theorem dX5_init_4 : decode cX5_init 4 = .ok (.aload_n 0, 1) := by decide +kernel
theorem dX5_init_5 : decode cX5_init 5 = .ok (.iconst 0, 1) := by decide +kernel
theorem dX5_init_6 : decode cX5_init 6 = .ok (.anewarray 7, 3) := by decide +kernel
theorem dX5_init_9 : decode cX5_init 9 = .ok (.putfield 9, 3) := by decide +kernel
theorem dX5_init_12 : decode cX5_init 12 = .ok (.aload_n 0, 1) := by decide +kernel
theorem dX5_init_13 : decode cX5_init 13 = .ok (.iconst 0, 1) := by decide +kernel
theorem dX5_init_14 : decode cX5_init 14 = .ok (.anewarray 15, 3) := by decide +kernel
theorem dX5_init_17 : decode cX5_init 17 = .ok (.putfield 17, 3) := by decide +kernel
theorem dX5_init_20 : decode cX5_init 20 = .ok (.return_, 1) := by decide +kernel
theorem dX5_more_0 : decode cX5_more 0 = .ok (.aload_n 0, 1) := by decide +kernel
theorem dX5_more_1 : decode cX5_more 1 = .ok (.arraylength, 1) := by decide +kernel
theorem dX5_more_2 : decode cX5_more 2 = .ok (.iconst 1, 1) := by decide +kernel
theorem dX5_more_3 : decode cX5_more 3 = .ok (.iadd, 1) := by decide +kernel
theorem dX5_more_4 : decode cX5_more 4 = .ok (.anewarray 15, 3) := by decide +kernel
theorem dX5_more_7 : decode cX5_more 7 = .ok (.astore_n 2, 1) := by decide +kernel
theorem dX5_more_8 : decode cX5_more 8 = .ok (.iconst 0, 1) := by decide +kernel
theorem dX5_more_9 : decode cX5_more 9 = .ok (.istore_n 3, 1) := by decide +kernel
theorem dX5_more_10 : decode cX5_more 10 = .ok (.iload_n 3, 1) := by decide +kernel
theorem dX5_more_11 : decode cX5_more 11 = .ok (.aload_n 0, 1) := by decide +kernel
theorem dX5_more_12 : decode cX5_more 12 = .ok (.arraylength, 1) := by decide +kernel
theorem dX5_more_13 : decode cX5_more 13 = .ok (.if_icmp .ge 15, 3) := by decide +kernel
theorem dX5_more_16 : decode cX5_more 16 = .ok (.aload_n 2, 1) := by decide +kernel
theorem dX5_more_17 : decode cX5_more 17 = .ok (.iload_n 3, 1) := by decide +kernel
theorem dX5_more_18 : decode cX5_more 18 = .ok (.aload_n 0, 1) := by decide +kernel
theorem dX5_more_19 : decode cX5_more 19 = .ok (.iload_n 3, 1) := by decide +kernel
theorem dX5_more_20 : decode cX5_more 20 = .ok (.aaload, 1) := by decide +kernel
theorem dX5_more_21 : decode cX5_more 21 = .ok (.aastore, 1) := by decide +kernel
theorem dX5_more_22 : decode cX5_more 22 = .ok (.iinc 3 1, 3) := by decide +kernel
theorem dX5_more_25 : decode cX5_more 25 = .ok (.goto (-15), 3) := by decide +kernel
theorem dX5_more_28 : decode cX5_more 28 = .ok (.aload_n 2, 1) := by decide +kernel
theorem dX5_more_29 : decode cX5_more 29 = .ok (.aload_n 0, 1) := by decide +kernel
theorem dX5_more_30 : decode cX5_more 30 = .ok (.arraylength, 1) := by decide +kernel
theorem dX5_more_31 : decode cX5_more 31 = .ok (.aload_n 1, 1) := by decide +kernel
theorem dX5_more_32 : decode cX5_more 32 = .ok (.aastore, 1) := by decide +kernel
theorem dX5_more_33 : decode cX5_more 33 = .ok (.aload_n 2, 1) := by decide +kernel
theorem dX5_more_34 : decode cX5_more 34 = .ok (.areturn, 1) := by decide +kernel
set_option maxRecDepth 20000 in
theorem ggX5_build_X4_init : GoodIn wsX5_build wsX4_init := goodIn_r _ [9, 10, 11, 12, 13, 14, 15, 20, 21, 22, 23, 24, 25, 26, 27, 28] (by decide +kernel) (by decide +kernel)
set_option maxRecDepth 20000 in
theorem gX5_build_X4_init_n30 : GoodIn wsX5_build (wsX4_init) := ggX5_build_X4_init
theorem dX5_build_0 : decode cX5_build 0 = .ok (.aload_n 0, 1) := by decide +kernel
theorem dX5_build_1 : decode cX5_build 1 = .ok (.getfield 9, 3) := by decide +kernel
theorem dX5_build_4 : decode cX5_build 4 = .ok (.arraylength, 1) := by decide +kernel
theorem dX5_build_5 : decode cX5_build 5 = .ok (.iconst 1, 1) := by decide +kernel
theorem dX5_build_6 : decode cX5_build 6 = .ok (.iadd, 1) := by decide +kernel
theorem dX5_build_7 : decode cX5_build 7 = .ok (.anewarray 7, 3) := by decide +kernel
theorem dX5_build_10 : decode cX5_build 10 = .ok (.astore 4, 2) := by decide +kernel
theorem dX5_build_12 : decode cX5_build 12 = .ok (.iconst 0, 1) := by decide +kernel
theorem dX5_build_13 : decode cX5_build 13 = .ok (.istore 5, 2) := by decide +kernel
theorem dX5_build_15 : decode cX5_build 15 = .ok (.iload 5, 2) := by decide +kernel
theorem dX5_build_17 : decode cX5_build 17 = .ok (.aload_n 0, 1) := by decide +kernel
theorem dX5_build_18 : decode cX5_build 18 = .ok (.getfield 9, 3) := by decide +kernel
theorem dX5_build_21 : decode cX5_build 21 = .ok (.arraylength, 1) := by decide +kernel
theorem dX5_build_22 : decode cX5_build 22 = .ok (.if_icmp .ge 21, 3) := by decide +kernel
theorem dX5_build_25 : decode cX5_build 25 = .ok (.aload 4, 2) := by decide +kernel
theorem dX5_build_27 : decode cX5_build 27 = .ok (.iload 5, 2) := by decide +kernel
theorem dX5_build_29 : decode cX5_build 29 = .ok (.aload_n 0, 1) := by decide +kernel
theorem dX5_build_30 : decode cX5_build 30 = .ok (.getfield 9, 3) := by decide +kernel
theorem dX5_build_33 : decode cX5_build 33 = .ok (.iload 5, 2) := by decide +kernel
theorem dX5_build_35 : decode cX5_build 35 = .ok (.aaload, 1) := by decide +kernel
theorem dX5_build_36 : decode cX5_build 36 = .ok (.aastore, 1) := by decide +kernel
theorem dX5_build_37 : decode cX5_build 37 = .ok (.iinc 5 1, 3) := by decide +kernel
theorem dX5_build_40 : decode cX5_build 40 = .ok (.goto (-25), 3) := by decide +kernel
theorem dX5_build_43 : decode cX5_build 43 = .ok (.new 7, 3) := by decide +kernel
theorem dX5_build_46 : decode cX5_build 46 = .ok (.dup, 1) := by decide +kernel
theorem dX5_build_47 : decode cX5_build 47 = .ok (.invokespecial 30, 3) := by decide +kernel
theorem dX5_build_50 : decode cX5_build 50 = .ok (.astore 5, 2) := by decide +kernel
theorem dX5_build_52 : decode cX5_build 52 = .ok (.aload 5, 2) := by decide +kernel
theorem dX5_build_54 : decode cX5_build 54 = .ok (.iload_n 1, 1) := by decide +kernel
theorem dX5_build_55 : decode cX5_build 55 = .ok (.putfield 31, 3) := by decide +kernel
theorem dX5_build_58 : decode cX5_build 58 = .ok (.aload 5, 2) := by decide +kernel
theorem dX5_build_60 : decode cX5_build 60 = .ok (.iload_n 2, 1) := by decide +kernel
theorem dX5_build_61 : decode cX5_build 61 = .ok (.putfield 35, 3) := by decide +kernel
theorem dX5_build_64 : decode cX5_build 64 = .ok (.aload 5, 2) := by decide +kernel
theorem dX5_build_66 : decode cX5_build 66 = .ok (.iload_n 3, 1) := by decide +kernel
theorem dX5_build_67 : decode cX5_build 67 = .ok (.putfield 38, 3) := by decide +kernel
theorem dX5_build_70 : decode cX5_build 70 = .ok (.aload 4, 2) := by decide +kernel
theorem dX5_build_72 : decode cX5_build 72 = .ok (.aload_n 0, 1) := by decide +kernel
theorem dX5_build_73 : decode cX5_build 73 = .ok (.getfield 9, 3) := by decide +kernel
theorem dX5_build_76 : decode cX5_build 76 = .ok (.arraylength, 1) := by decide +kernel
theorem dX5_build_77 : decode cX5_build 77 = .ok (.aload 5, 2) := by decide +kernel
theorem dX5_build_79 : decode cX5_build 79 = .ok (.aastore, 1) := by decide +kernel
theorem dX5_build_80 : decode cX5_build 80 = .ok (.aload_n 0, 1) := by decide +kernel
theorem dX5_build_81 : decode cX5_build 81 = .ok (.aload 4, 2) := by decide +kernel
theorem dX5_build_83 : decode cX5_build 83 = .ok (.putfield 9, 3) := by decide +kernel
theorem dX5_build_86 : decode cX5_build 86 = .ok (.return_, 1) := by decide +kernel
set_option maxRecDepth 20000 in
theorem ggX5_send_X5_more : GoodIn wsX5_send wsX5_more := goodIn_r _ [7, 8] (by decide +kernel) (by decide +kernel)
set_option maxRecDepth 20000 in
theorem gX5_send_X5_more : GoodIn wsX5_send (va_wsS RX5 41 yX5_more wsX5_more) := goodIn_app (goodIn_of _ (by decide +kernel)) ggX5_send_X5_more
theorem dX5_send_0 : decode cX5_send 0 = .ok (.aload_n 0, 1) := by decide +kernel
theorem dX5_send_1 : decode cX5_send 1 = .ok (.getfield 17, 3) := by decide +kernel
theorem dX5_send_4 : decode cX5_send 4 = .ok (.arraylength, 1) := by decide +kernel
theorem dX5_send_5 : decode cX5_send 5 = .ok (.bipush 60, 2) := by decide +kernel
theorem dX5_send_7 : decode cX5_send 7 = .ok (.if_icmp .ge 42, 3) := by decide +kernel
theorem dX5_send_10 : decode cX5_send 10 = .ok (.aload_n 0, 1) := by decide +kernel
theorem dX5_send_11 : decode cX5_send 11 = .ok (.aload_n 0, 1) := by decide +kernel
theorem dX5_send_12 : decode cX5_send 12 = .ok (.getfield 17, 3) := by decide +kernel
theorem dX5_send_15 : decode cX5_send 15 = .ok (.iconst 5, 1) := by decide +kernel
theorem dX5_send_16 : decode cX5_send 16 = .ok (.newarray .int, 2) := by decide +kernel
theorem dX5_send_18 : decode cX5_send 18 = .ok (.dup, 1) := by decide +kernel
theorem dX5_send_19 : decode cX5_send 19 = .ok (.iconst 0, 1) := by decide +kernel
theorem dX5_send_20 : decode cX5_send 20 = .ok (.iload_n 1, 1) := by decide +kernel
theorem dX5_send_21 : decode cX5_send 21 = .ok (.iastore, 1) := by decide +kernel
theorem dX5_send_22 : decode cX5_send 22 = .ok (.dup, 1) := by decide +kernel
theorem dX5_send_23 : decode cX5_send 23 = .ok (.iconst 1, 1) := by decide +kernel
theorem dX5_send_24 : decode cX5_send 24 = .ok (.iload_n 2, 1) := by decide +kernel
theorem dX5_send_25 : decode cX5_send 25 = .ok (.iastore, 1) := by decide +kernel
theorem dX5_send_26 : decode cX5_send 26 = .ok (.dup, 1) := by decide +kernel
theorem dX5_send_27 : decode cX5_send 27 = .ok (.iconst 2, 1) := by decide +kernel
theorem dX5_send_28 : decode cX5_send 28 = .ok (.iload_n 3, 1) := by decide +kernel
theorem dX5_send_29 : decode cX5_send 29 = .ok (.iastore, 1) := by decide +kernel
theorem dX5_send_30 : decode cX5_send 30 = .ok (.dup, 1) := by decide +kernel
theorem dX5_send_31 : decode cX5_send 31 = .ok (.iconst 3, 1) := by decide +kernel
theorem dX5_send_32 : decode cX5_send 32 = .ok (.iload 4, 2) := by decide +kernel
theorem dX5_send_34 : decode cX5_send 34 = .ok (.iastore, 1) := by decide +kernel
theorem dX5_send_35 : decode cX5_send 35 = .ok (.dup, 1) := by decide +kernel
theorem dX5_send_36 : decode cX5_send 36 = .ok (.iconst 4, 1) := by decide +kernel
theorem dX5_send_37 : decode cX5_send 37 = .ok (.iload 4, 2) := by decide +kernel
theorem dX5_send_39 : decode cX5_send 39 = .ok (.iastore, 1) := by decide +kernel
theorem dX5_send_40 : decode cX5_send 40 = .ok (.invokestatic 41, 3) := by decide +kernel
theorem dX5_send_43 : decode cX5_send 43 = .ok (.putfield 17, 3) := by decide +kernel
theorem dX5_send_46 : decode cX5_send 46 = .ok (.goto 13, 3) := by decide +kernel
theorem dX5_send_49 : decode cX5_send 49 = .ok (.aload_n 0, 1) := by decide +kernel
theorem dX5_send_50 : decode cX5_send 50 = .ok (.dup, 1) := by decide +kernel
theorem dX5_send_51 : decode cX5_send 51 = .ok (.getfield 45, 3) := by decide +kernel
theorem dX5_send_54 : decode cX5_send 54 = .ok (.iconst 1, 1) := by decide +kernel
theorem dX5_send_55 : decode cX5_send 55 = .ok (.iadd, 1) := by decide +kernel
theorem dX5_send_56 : decode cX5_send 56 = .ok (.putfield 45, 3) := by decide +kernel
theorem dX5_send_59 : decode cX5_send 59 = .ok (.return_, 1) := by decide +kernel
set_option maxRecDepth 20000 in
theorem ggX5_wake_X5_send : GoodIn wsX5_wake wsX5_send := goodIn_r _ [12, 13, 14, 15, 16, 17, 11, 18, 5, 19, 20, 21, 22] (by decide +kernel) (by decide +kernel)
set_option maxRecDepth 20000 in
theorem gX5_wake_X5_send : GoodIn wsX5_wake (wsV RX5 60 RX5 yX5_send wsX5_send) := goodIn_app (goodIn_of _ (by decide +kernel)) ggX5_wake_X5_send
theorem dX5_wake_0 : decode cX5_wake 0 = .ok (.aload_n 0, 1) := by decide +kernel
theorem dX5_wake_1 : decode cX5_wake 1 = .ok (.getfield 9, 3) := by decide +kernel
theorem dX5_wake_4 : decode cX5_wake 4 = .ok (.iload_n 1, 1) := by decide +kernel
theorem dX5_wake_5 : decode cX5_wake 5 = .ok (.aaload, 1) := by decide +kernel
theorem dX5_wake_6 : decode cX5_wake 6 = .ok (.astore_n 2, 1) := by decide +kernel
theorem dX5_wake_7 : decode cX5_wake 7 = .ok (.aload_n 2, 1) := by decide +kernel
theorem dX5_wake_8 : decode cX5_wake 8 = .ok (.iconst 1, 1) := by decide +kernel
theorem dX5_wake_9 : decode cX5_wake 9 = .ok (.putfield 48, 3) := by decide +kernel
theorem dX5_wake_12 : decode cX5_wake 12 = .ok (.aload_n 2, 1) := by decide +kernel
theorem dX5_wake_13 : decode cX5_wake 13 = .ok (.aload_n 2, 1) := by decide +kernel
theorem dX5_wake_14 : decode cX5_wake 14 = .ok (.getfield 35, 3) := by decide +kernel
theorem dX5_wake_17 : decode cX5_wake 17 = .ok (.putfield 51, 3) := by decide +kernel
theorem dX5_wake_20 : decode cX5_wake 20 = .ok (.aload_n 2, 1) := by decide +kernel
theorem dX5_wake_21 : decode cX5_wake 21 = .ok (.iconst 0, 1) := by decide +kernel
theorem dX5_wake_22 : decode cX5_wake 22 = .ok (.anewarray 15, 3) := by decide +kernel
theorem dX5_wake_25 : decode cX5_wake 25 = .ok (.putfield 54, 3) := by decide +kernel
theorem dX5_wake_28 : decode cX5_wake 28 = .ok (.aload_n 2, 1) := by decide +kernel
theorem dX5_wake_29 : decode cX5_wake 29 = .ok (.getfield 57, 3) := by decide +kernel
theorem dX5_wake_32 : decode cX5_wake 32 = .ok (.astore_n 3, 1) := by decide +kernel
theorem dX5_wake_33 : decode cX5_wake 33 = .ok (.aload_n 3, 1) := by decide +kernel
theorem dX5_wake_34 : decode cX5_wake 34 = .ok (.arraylength, 1) := by decide +kernel
theorem dX5_wake_35 : decode cX5_wake 35 = .ok (.istore 4, 2) := by decide +kernel
theorem dX5_wake_37 : decode cX5_wake 37 = .ok (.iconst 0, 1) := by decide +kernel
theorem dX5_wake_38 : decode cX5_wake 38 = .ok (.istore 5, 2) := by decide +kernel
theorem dX5_wake_40 : decode cX5_wake 40 = .ok (.iload 5, 2) := by decide +kernel
theorem dX5_wake_42 : decode cX5_wake 42 = .ok (.iload 4, 2) := by decide +kernel
theorem dX5_wake_44 : decode cX5_wake 44 = .ok (.if_icmp .ge 34, 3) := by decide +kernel
theorem dX5_wake_47 : decode cX5_wake 47 = .ok (.aload_n 3, 1) := by decide +kernel
theorem dX5_wake_48 : decode cX5_wake 48 = .ok (.iload 5, 2) := by decide +kernel
theorem dX5_wake_50 : decode cX5_wake 50 = .ok (.aaload, 1) := by decide +kernel
theorem dX5_wake_51 : decode cX5_wake 51 = .ok (.astore 6, 2) := by decide +kernel
theorem dX5_wake_53 : decode cX5_wake 53 = .ok (.aload 6, 2) := by decide +kernel
theorem dX5_wake_55 : decode cX5_wake 55 = .ok (.iconst 2, 1) := by decide +kernel
theorem dX5_wake_56 : decode cX5_wake 56 = .ok (.iconst (-1), 1) := by decide +kernel
theorem dX5_wake_57 : decode cX5_wake 57 = .ok (.iastore, 1) := by decide +kernel
theorem dX5_wake_58 : decode cX5_wake 58 = .ok (.aload_n 0, 1) := by decide +kernel
theorem dX5_wake_59 : decode cX5_wake 59 = .ok (.iload_n 1, 1) := by decide +kernel
theorem dX5_wake_60 : decode cX5_wake 60 = .ok (.aload 6, 2) := by decide +kernel
theorem dX5_wake_62 : decode cX5_wake 62 = .ok (.iconst 0, 1) := by decide +kernel
theorem dX5_wake_63 : decode cX5_wake 63 = .ok (.iaload, 1) := by decide +kernel
theorem dX5_wake_64 : decode cX5_wake 64 = .ok (.iconst 0, 1) := by decide +kernel
theorem dX5_wake_65 : decode cX5_wake 65 = .ok (.aload 6, 2) := by decide +kernel
theorem dX5_wake_67 : decode cX5_wake 67 = .ok (.iconst 1, 1) := by decide +kernel
theorem dX5_wake_68 : decode cX5_wake 68 = .ok (.iaload, 1) := by decide +kernel
theorem dX5_wake_69 : decode cX5_wake 69 = .ok (.invokevirtual 60, 3) := by decide +kernel
theorem dX5_wake_72 : decode cX5_wake 72 = .ok (.iinc 5 1, 3) := by decide +kernel
theorem dX5_wake_75 : decode cX5_wake 75 = .ok (.goto (-35), 3) := by decide +kernel
theorem dX5_wake_78 : decode cX5_wake 78 = .ok (.return_, 1) := by decide +kernel
theorem dX5_turn_0 : decode cX5_turn 0 = .ok (.aload_n 1, 1) := by decide +kernel
theorem dX5_turn_1 : decode cX5_turn 1 = .ok (.iload_n 2, 1) := by decide +kernel
theorem dX5_turn_2 : decode cX5_turn 2 = .ok (.ifCond .eq 7, 3) := by decide +kernel
theorem dX5_turn_5 : decode cX5_turn 5 = .ok (.iconst 2, 1) := by decide +kernel
theorem dX5_turn_6 : decode cX5_turn 6 = .ok (.goto 4, 3) := by decide +kernel
theorem dX5_turn_9 : decode cX5_turn 9 = .ok (.iconst 3, 1) := by decide +kernel
theorem dX5_turn_10 : decode cX5_turn 10 = .ok (.putfield 48, 3) := by decide +kernel
theorem dX5_turn_13 : decode cX5_turn 13 = .ok (.aload_n 1, 1) := by decide +kernel
theorem dX5_turn_14 : decode cX5_turn 14 = .ok (.iload_n 2, 1) := by decide +kernel
theorem dX5_turn_15 : decode cX5_turn 15 = .ok (.ifCond .eq 8, 3) := by decide +kernel
theorem dX5_turn_18 : decode cX5_turn 18 = .ok (.bipush 12, 2) := by decide +kernel
theorem dX5_turn_20 : decode cX5_turn 20 = .ok (.goto 4, 3) := by decide +kernel
theorem dX5_turn_23 : decode cX5_turn 23 = .ok (.iconst 4, 1) := by decide +kernel
theorem dX5_turn_24 : decode cX5_turn 24 = .ok (.putfield 51, 3) := by decide +kernel
theorem dX5_turn_27 : decode cX5_turn 27 = .ok (.aload_n 1, 1) := by decide +kernel
theorem dX5_turn_28 : decode cX5_turn 28 = .ok (.dup, 1) := by decide +kernel
theorem dX5_turn_29 : decode cX5_turn 29 = .ok (.getfield 64, 3) := by decide +kernel
theorem dX5_turn_32 : decode cX5_turn 32 = .ok (.iload_n 2, 1) := by decide +kernel
theorem dX5_turn_33 : decode cX5_turn 33 = .ok (.ifCond .eq 7, 3) := by decide +kernel
theorem dX5_turn_36 : decode cX5_turn 36 = .ok (.iconst 1, 1) := by decide +kernel
theorem dX5_turn_37 : decode cX5_turn 37 = .ok (.goto 4, 3) := by decide +kernel
theorem dX5_turn_40 : decode cX5_turn 40 = .ok (.iconst 0, 1) := by decide +kernel
theorem dX5_turn_41 : decode cX5_turn 41 = .ok (.iadd, 1) := by decide +kernel
theorem dX5_turn_42 : decode cX5_turn 42 = .ok (.putfield 64, 3) := by decide +kernel
theorem dX5_turn_45 : decode cX5_turn 45 = .ok (.aload_n 1, 1) := by decide +kernel
theorem dX5_turn_46 : decode cX5_turn 46 = .ok (.dup, 1) := by decide +kernel
theorem dX5_turn_47 : decode cX5_turn 47 = .ok (.getfield 67, 3) := by decide +kernel
theorem dX5_turn_50 : decode cX5_turn 50 = .ok (.iload_n 2, 1) := by decide +kernel
theorem dX5_turn_51 : decode cX5_turn 51 = .ok (.ifCond .eq 7, 3) := by decide +kernel
theorem dX5_turn_54 : decode cX5_turn 54 = .ok (.iconst 0, 1) := by decide +kernel
theorem dX5_turn_55 : decode cX5_turn 55 = .ok (.goto 4, 3) := by decide +kernel
theorem dX5_turn_58 : decode cX5_turn 58 = .ok (.iconst 1, 1) := by decide +kernel
theorem dX5_turn_59 : decode cX5_turn 59 = .ok (.iadd, 1) := by decide +kernel
theorem dX5_turn_60 : decode cX5_turn 60 = .ok (.putfield 67, 3) := by decide +kernel
theorem dX5_turn_63 : decode cX5_turn 63 = .ok (.return_, 1) := by decide +kernel
set_option maxRecDepth 20000 in
theorem ggX5_whisper_X5_turn : GoodIn wsX5_whisper wsX5_turn := goodIn_r _ [8, 2, 9, 10, 11, 34, 35, 36, 37, 38, 39, 40, 41, 42] (by decide +kernel) (by decide +kernel)
set_option maxRecDepth 20000 in
theorem gX5_whisper_X5_turn : GoodIn wsX5_whisper (wsV RX5 70 RX5 yX5_turn wsX5_turn) := goodIn_app (goodIn_of _ (by decide +kernel)) ggX5_whisper_X5_turn
set_option maxRecDepth 20000 in
theorem ggX5_whisper_X5_wake : GoodIn wsX5_whisper wsX5_wake := goodIn_r _ [15, 1, 2, 16, 9, 17, 18, 19, 20, 21, 22, 7, 23, 24, 25, 26, 27, 28, 29, 30, 31, 32, 33, 34, 35, 36, 37, 38, 39, 40, 41, 42] (by decide +kernel) (by decide +kernel)
set_option maxRecDepth 20000 in
theorem gX5_whisper_X5_wake : GoodIn wsX5_whisper (wsV RX5 74 RX5 yX5_wake wsX5_wake) := goodIn_app (goodIn_of _ (by decide +kernel)) ggX5_whisper_X5_wake
theorem dX5_whisper_0 : decode cX5_whisper 0 = .ok (.aload_n 0, 1) := by decide +kernel
theorem dX5_whisper_1 : decode cX5_whisper 1 = .ok (.getfield 9, 3) := by decide +kernel
theorem dX5_whisper_4 : decode cX5_whisper 4 = .ok (.iload_n 1, 1) := by decide +kernel
theorem dX5_whisper_5 : decode cX5_whisper 5 = .ok (.aaload, 1) := by decide +kernel
theorem dX5_whisper_6 : decode cX5_whisper 6 = .ok (.getfield 48, 3) := by decide +kernel
theorem dX5_whisper_9 : decode cX5_whisper 9 = .ok (.ifCond .eq 5, 3) := by decide +kernel
theorem dX5_whisper_12 : decode cX5_whisper 12 = .ok (.iconst 0, 1) := by decide +kernel
theorem dX5_whisper_13 : decode cX5_whisper 13 = .ok (.ireturn, 1) := by decide +kernel
theorem dX5_whisper_14 : decode cX5_whisper 14 = .ok (.aload_n 0, 1) := by decide +kernel
theorem dX5_whisper_15 : decode cX5_whisper 15 = .ok (.getfield 9, 3) := by decide +kernel
theorem dX5_whisper_18 : decode cX5_whisper 18 = .ok (.iload_n 1, 1) := by decide +kernel
theorem dX5_whisper_19 : decode cX5_whisper 19 = .ok (.aaload, 1) := by decide +kernel
theorem dX5_whisper_20 : decode cX5_whisper 20 = .ok (.getfield 31, 3) := by decide +kernel
theorem dX5_whisper_23 : decode cX5_whisper 23 = .ok (.iload_n 2, 1) := by decide +kernel
theorem dX5_whisper_24 : decode cX5_whisper 24 = .ok (.if_icmp .eq 16, 3) := by decide +kernel
theorem dX5_whisper_27 : decode cX5_whisper 27 = .ok (.aload_n 0, 1) := by decide +kernel
theorem dX5_whisper_28 : decode cX5_whisper 28 = .ok (.aload_n 0, 1) := by decide +kernel
theorem dX5_whisper_29 : decode cX5_whisper 29 = .ok (.getfield 9, 3) := by decide +kernel
theorem dX5_whisper_32 : decode cX5_whisper 32 = .ok (.iload_n 1, 1) := by decide +kernel
theorem dX5_whisper_33 : decode cX5_whisper 33 = .ok (.aaload, 1) := by decide +kernel
theorem dX5_whisper_34 : decode cX5_whisper 34 = .ok (.iconst 0, 1) := by decide +kernel
theorem dX5_whisper_35 : decode cX5_whisper 35 = .ok (.invokevirtual 70, 3) := by decide +kernel
theorem dX5_whisper_38 : decode cX5_whisper 38 = .ok (.iconst 0, 1) := by decide +kernel
theorem dX5_whisper_39 : decode cX5_whisper 39 = .ok (.ireturn, 1) := by decide +kernel
theorem dX5_whisper_40 : decode cX5_whisper 40 = .ok (.aload_n 0, 1) := by decide +kernel
theorem dX5_whisper_41 : decode cX5_whisper 41 = .ok (.iload_n 1, 1) := by decide +kernel
theorem dX5_whisper_42 : decode cX5_whisper 42 = .ok (.invokevirtual 74, 3) := by decide +kernel
theorem dX5_whisper_45 : decode cX5_whisper 45 = .ok (.iconst 1, 1) := by decide +kernel
theorem dX5_whisper_46 : decode cX5_whisper 46 = .ok (.ireturn, 1) := by decide +kernel
set_option maxRecDepth 20000 in
theorem ggX5_hear_X5_send : GoodIn wsX5_hear wsX5_send := goodIn_r _ [10, 11, 5, 12, 13, 14, 9, 15, 16, 23, 24, 25, 26] (by decide +kernel) (by decide +kernel)
set_option maxRecDepth 20000 in
theorem gX5_hear_X5_send : GoodIn wsX5_hear (wsV RX5 60 RX5 yX5_send wsX5_send) := goodIn_app (goodIn_of _ (by decide +kernel)) ggX5_hear_X5_send
set_option maxRecDepth 20000 in
theorem ggX5_hear_X5_wake : GoodIn wsX5_hear wsX5_wake := goodIn_r _ [20, 1, 3, 21, 22, 16, 4, 2, 6, 7, 8, 9, 10, 11, 5, 12, 13, 14, 15, 23, 24, 25, 26, 27, 28, 29, 30, 31, 32, 33, 34, 35] (by decide +kernel) (by decide +kernel)
set_option maxRecDepth 20000 in
theorem gX5_hear_X5_wake : GoodIn wsX5_hear (wsV RX5 74 RX5 yX5_wake wsX5_wake) := goodIn_app (goodIn_of _ (by decide +kernel)) ggX5_hear_X5_wake
set_option maxRecDepth 20000 in
theorem ggX5_hear_X5_more : GoodIn wsX5_hear wsX5_more := goodIn_r _ [15, 16] (by decide +kernel) (by decide +kernel)
set_option maxRecDepth 20000 in
theorem gX5_hear_X5_more : GoodIn wsX5_hear (va_wsS RX5 41 yX5_more wsX5_more) := goodIn_app (goodIn_of _ (by decide +kernel)) ggX5_hear_X5_more
theorem dX5_hear_0 : decode cX5_hear 0 = .ok (.aload_n 0, 1) := by decide +kernel
theorem dX5_hear_1 : decode cX5_hear 1 = .ok (.getfield 9, 3) := by decide +kernel
theorem dX5_hear_4 : decode cX5_hear 4 = .ok (.aload_n 1, 1) := by decide +kernel
theorem dX5_hear_5 : decode cX5_hear 5 = .ok (.iconst 1, 1) := by decide +kernel
theorem dX5_hear_6 : decode cX5_hear 6 = .ok (.iaload, 1) := by decide +kernel
theorem dX5_hear_7 : decode cX5_hear 7 = .ok (.aaload, 1) := by decide +kernel
theorem dX5_hear_8 : decode cX5_hear 8 = .ok (.astore_n 2, 1) := by decide +kernel
theorem dX5_hear_9 : decode cX5_hear 9 = .ok (.aload_n 1, 1) := by decide +kernel
theorem dX5_hear_10 : decode cX5_hear 10 = .ok (.iconst 2, 1) := by decide +kernel
theorem dX5_hear_11 : decode cX5_hear 11 = .ok (.iaload, 1) := by decide +kernel
theorem dX5_hear_12 : decode cX5_hear 12 = .ok (.ifCond .le 71, 3) := by decide +kernel
theorem dX5_hear_15 : decode cX5_hear 15 = .ok (.aload_n 2, 1) := by decide +kernel
theorem dX5_hear_16 : decode cX5_hear 16 = .ok (.getfield 57, 3) := by decide +kernel
theorem dX5_hear_19 : decode cX5_hear 19 = .ok (.astore_n 3, 1) := by decide +kernel
theorem dX5_hear_20 : decode cX5_hear 20 = .ok (.aload_n 3, 1) := by decide +kernel
theorem dX5_hear_21 : decode cX5_hear 21 = .ok (.arraylength, 1) := by decide +kernel
theorem dX5_hear_22 : decode cX5_hear 22 = .ok (.istore 4, 2) := by decide +kernel
theorem dX5_hear_24 : decode cX5_hear 24 = .ok (.iconst 0, 1) := by decide +kernel
theorem dX5_hear_25 : decode cX5_hear 25 = .ok (.istore 5, 2) := by decide +kernel
theorem dX5_hear_27 : decode cX5_hear 27 = .ok (.iload 5, 2) := by decide +kernel
theorem dX5_hear_29 : decode cX5_hear 29 = .ok (.iload 4, 2) := by decide +kernel
theorem dX5_hear_31 : decode cX5_hear 31 = .ok (.if_icmp .ge 49, 3) := by decide +kernel
theorem dX5_hear_34 : decode cX5_hear 34 = .ok (.aload_n 3, 1) := by decide +kernel
theorem dX5_hear_35 : decode cX5_hear 35 = .ok (.iload 5, 2) := by decide +kernel
theorem dX5_hear_37 : decode cX5_hear 37 = .ok (.aaload, 1) := by decide +kernel
theorem dX5_hear_38 : decode cX5_hear 38 = .ok (.astore 6, 2) := by decide +kernel
theorem dX5_hear_40 : decode cX5_hear 40 = .ok (.aload 6, 2) := by decide +kernel
theorem dX5_hear_42 : decode cX5_hear 42 = .ok (.iconst 0, 1) := by decide +kernel
theorem dX5_hear_43 : decode cX5_hear 43 = .ok (.iaload, 1) := by decide +kernel
theorem dX5_hear_44 : decode cX5_hear 44 = .ok (.aload_n 1, 1) := by decide +kernel
theorem dX5_hear_45 : decode cX5_hear 45 = .ok (.iconst 0, 1) := by decide +kernel
theorem dX5_hear_46 : decode cX5_hear 46 = .ok (.iaload, 1) := by decide +kernel
theorem dX5_hear_47 : decode cX5_hear 47 = .ok (.if_icmp .ne 27, 3) := by decide +kernel
theorem dX5_hear_50 : decode cX5_hear 50 = .ok (.aload_n 2, 1) := by decide +kernel
theorem dX5_hear_51 : decode cX5_hear 51 = .ok (.getfield 48, 3) := by decide +kernel
theorem dX5_hear_54 : decode cX5_hear 54 = .ok (.iconst 1, 1) := by decide +kernel
theorem dX5_hear_55 : decode cX5_hear 55 = .ok (.if_icmp .ne 19, 3) := by decide +kernel
theorem dX5_hear_58 : decode cX5_hear 58 = .ok (.aload 6, 2) := by decide +kernel
theorem dX5_hear_60 : decode cX5_hear 60 = .ok (.iconst 2, 1) := by decide +kernel
theorem dX5_hear_61 : decode cX5_hear 61 = .ok (.iaload, 1) := by decide +kernel
theorem dX5_hear_62 : decode cX5_hear 62 = .ok (.ifCond .ge 12, 3) := by decide +kernel
theorem dX5_hear_65 : decode cX5_hear 65 = .ok (.aload 6, 2) := by decide +kernel
theorem dX5_hear_67 : decode cX5_hear 67 = .ok (.iconst 2, 1) := by decide +kernel
theorem dX5_hear_68 : decode cX5_hear 68 = .ok (.aload_n 1, 1) := by decide +kernel
theorem dX5_hear_69 : decode cX5_hear 69 = .ok (.iconst 2, 1) := by decide +kernel
theorem dX5_hear_70 : decode cX5_hear 70 = .ok (.iaload, 1) := by decide +kernel
theorem dX5_hear_71 : decode cX5_hear 71 = .ok (.iconst 1, 1) := by decide +kernel
theorem dX5_hear_72 : decode cX5_hear 72 = .ok (.isub, 1) := by decide +kernel
theorem dX5_hear_73 : decode cX5_hear 73 = .ok (.iastore, 1) := by decide +kernel
theorem dX5_hear_74 : decode cX5_hear 74 = .ok (.iinc 5 1, 3) := by decide +kernel
theorem dX5_hear_77 : decode cX5_hear 77 = .ok (.goto (-50), 3) := by decide +kernel
theorem dX5_hear_80 : decode cX5_hear 80 = .ok (.goto 80, 3) := by decide +kernel
theorem dX5_hear_83 : decode cX5_hear 83 = .ok (.aload_n 2, 1) := by decide +kernel
theorem dX5_hear_84 : decode cX5_hear 84 = .ok (.getfield 48, 3) := by decide +kernel
theorem dX5_hear_87 : decode cX5_hear 87 = .ok (.iconst 1, 1) := by decide +kernel
theorem dX5_hear_88 : decode cX5_hear 88 = .ok (.if_icmp .le 32, 3) := by decide +kernel
theorem dX5_hear_91 : decode cX5_hear 91 = .ok (.aload_n 0, 1) := by decide +kernel
theorem dX5_hear_92 : decode cX5_hear 92 = .ok (.aload_n 1, 1) := by decide +kernel
theorem dX5_hear_93 : decode cX5_hear 93 = .ok (.iconst 1, 1) := by decide +kernel
theorem dX5_hear_94 : decode cX5_hear 94 = .ok (.iaload, 1) := by decide +kernel
theorem dX5_hear_95 : decode cX5_hear 95 = .ok (.aload_n 1, 1) := by decide +kernel
theorem dX5_hear_96 : decode cX5_hear 96 = .ok (.iconst 0, 1) := by decide +kernel
theorem dX5_hear_97 : decode cX5_hear 97 = .ok (.iaload, 1) := by decide +kernel
theorem dX5_hear_98 : decode cX5_hear 98 = .ok (.aload_n 2, 1) := by decide +kernel
theorem dX5_hear_99 : decode cX5_hear 99 = .ok (.getfield 48, 3) := by decide +kernel
theorem dX5_hear_102 : decode cX5_hear 102 = .ok (.iconst 2, 1) := by decide +kernel
theorem dX5_hear_103 : decode cX5_hear 103 = .ok (.if_icmp .ne 7, 3) := by decide +kernel
theorem dX5_hear_106 : decode cX5_hear 106 = .ok (.iconst 2, 1) := by decide +kernel
theorem dX5_hear_107 : decode cX5_hear 107 = .ok (.goto 4, 3) := by decide +kernel
theorem dX5_hear_110 : decode cX5_hear 110 = .ok (.iconst 1, 1) := by decide +kernel
theorem dX5_hear_111 : decode cX5_hear 111 = .ok (.aload_n 1, 1) := by decide +kernel
theorem dX5_hear_112 : decode cX5_hear 112 = .ok (.iconst 4, 1) := by decide +kernel
theorem dX5_hear_113 : decode cX5_hear 113 = .ok (.iaload, 1) := by decide +kernel
theorem dX5_hear_114 : decode cX5_hear 114 = .ok (.invokevirtual 60, 3) := by decide +kernel
theorem dX5_hear_117 : decode cX5_hear 117 = .ok (.goto 43, 3) := by decide +kernel
theorem dX5_hear_120 : decode cX5_hear 120 = .ok (.aload_n 2, 1) := by decide +kernel
theorem dX5_hear_121 : decode cX5_hear 121 = .ok (.getfield 48, 3) := by decide +kernel
theorem dX5_hear_124 : decode cX5_hear 124 = .ok (.ifCond .ne 10, 3) := by decide +kernel
