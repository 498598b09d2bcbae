set_option maxRecDepth 20000 in
theorem gX4_pass_X4_fail : GoodIn wsX4_pass (wsV RX4 39 RX4 yX4_fail wsX4_fail) := goodIn_app (goodIn_of _ (by decide +kernel)) ggX4_pass_X4_fail
set_option maxRecDepth 20000 in
theorem ggX4_pass_X4_tickOn : GoodIn wsX4_pass wsX4_tickOn := goodIn_r _ [13, 14, 15, 16, 17, 18, 4, 19, 20, 21, 22, 23, 24, 25, 26, 27, 28, 29, 30, 31, 32, 33, 34, 35, 36, 37, 38, 39, 40, 41, 42, 43, 44, 45, 46, 47, 48, 49, 50, 51, 52, 53, 54, 55, 56, 57, 58, 59, 60, 61, 62, 63, 64, 65, 66, 67, 68, 69, 70, 71, 72, 73, 74, 75, 76, 77, 78, 79, 80, 81, 82, 83, 84, 85, 86, 87, 88] (by decide +kernel) (by decide +kernel)
set_option maxRecDepth 20000 in
theorem gX4_pass_X4_tickOn : GoodIn wsX4_pass (wsV RX4 115 RX4 yX4_tickOn wsX4_tickOn) := goodIn_app (goodIn_of _ (by decide +kernel)) ggX4_pass_X4_tickOn
theorem dX4_pass_0 : decode cX4_pass 0 = .ok (.aload_n 0, 1) := by decide +kernel
theorem dX4_pass_1 : decode cX4_pass 1 = .ok (.iconst 0, 1) := by decide +kernel
theorem dX4_pass_2 : decode cX4_pass 2 = .ok (.putfield 28, 3) := by decide +kernel
theorem dX4_pass_5 : decode cX4_pass 5 = .ok (.iload_n 1, 1) := by decide +kernel
theorem dX4_pass_6 : decode cX4_pass 6 = .ok (.iconst 1, 1) := by decide +kernel
theorem dX4_pass_7 : decode cX4_pass 7 = .ok (.sipush 200, 3) := by decide +kernel
theorem dX4_pass_10 : decode cX4_pass 10 = .ok (.invokestatic 35, 3) := by decide +kernel
theorem dX4_pass_13 : decode cX4_pass 13 = .ok (.ifCond .ne 9, 3) := by decide +kernel
theorem dX4_pass_16 : decode cX4_pass 16 = .ok (.aload_n 0, 1) := by decide +kernel
theorem dX4_pass_17 : decode cX4_pass 17 = .ok (.iconst 1, 1) := by decide +kernel
theorem dX4_pass_18 : decode cX4_pass 18 = .ok (.invokevirtual 39, 3) := by decide +kernel
theorem dX4_pass_21 : decode cX4_pass 21 = .ok (.ireturn, 1) := by decide +kernel
theorem dX4_pass_22 : decode cX4_pass 22 = .ok (.iconst 0, 1) := by decide +kernel
theorem dX4_pass_23 : decode cX4_pass 23 = .ok (.istore_n 2, 1) := by decide +kernel
theorem dX4_pass_24 : decode cX4_pass 24 = .ok (.iconst 0, 1) := by decide +kernel
theorem dX4_pass_25 : decode cX4_pass 25 = .ok (.istore_n 3, 1) := by decide +kernel
theorem dX4_pass_26 : decode cX4_pass 26 = .ok (.iload_n 3, 1) := by decide +kernel
theorem dX4_pass_27 : decode cX4_pass 27 = .ok (.iload_n 1, 1) := by decide +kernel
theorem dX4_pass_28 : decode cX4_pass 28 = .ok (.if_icmp .ge 16, 3) := by decide +kernel
theorem dX4_pass_31 : decode cX4_pass 31 = .ok (.iload_n 2, 1) := by decide +kernel
theorem dX4_pass_32 : decode cX4_pass 32 = .ok (.aload_n 0, 1) := by decide +kernel
theorem dX4_pass_33 : decode cX4_pass 33 = .ok (.invokevirtual 115, 3) := by decide +kernel
theorem dX4_pass_36 : decode cX4_pass 36 = .ok (.iadd, 1) := by decide +kernel
theorem dX4_pass_37 : decode cX4_pass 37 = .ok (.istore_n 2, 1) := by decide +kernel
theorem dX4_pass_38 : decode cX4_pass 38 = .ok (.iinc 3 1, 3) := by decide +kernel
theorem dX4_pass_41 : decode cX4_pass 41 = .ok (.goto (-15), 3) := by decide +kernel
theorem dX4_pass_44 : decode cX4_pass 44 = .ok (.iload_n 2, 1) := by decide +kernel
theorem dX4_pass_45 : decode cX4_pass 45 = .ok (.ireturn, 1) := by decide +kernel
set_option maxRecDepth 20000 in
theorem ggX4_bringBack_X4_all : GoodIn wsX4_bringBack wsX4_all := goodIn_r _ [9, 10, 11, 12, 13, 14, 15, 16, 17, 18, 19, 20, 21, 22, 23] (by decide +kernel) (by decide +kernel)
set_option maxRecDepth 20000 in
theorem gX4_bringBack_X4_all : GoodIn wsX4_bringBack (wsV RX4 123 RX4 yX4_all wsX4_all) := goodIn_app (goodIn_of _ (by decide +kernel)) ggX4_bringBack_X4_all
set_option maxRecDepth 20000 in
theorem ggX4_opens_X4_isDoor : GoodIn wsX4_opens wsX4_isDoor := goodIn_r _ [6, 7, 8, 9, 5, 10, 103, 104, 105, 106, 107, 108, 109, 110] (by decide +kernel) (by decide +kernel)
set_option maxRecDepth 20000 in
theorem gX4_opens_X4_isDoor : GoodIn wsX4_opens (wsV RX4 57 RX4 yX4_isDoor wsX4_isDoor) := goodIn_app (goodIn_of _ (by decide +kernel)) ggX4_opens_X4_isDoor
set_option maxRecDepth 20000 in
theorem ggX4_opens_X4_fail : GoodIn wsX4_opens wsX4_fail := goodIn_r _ [14, 1, 103, 104, 105, 106, 107, 108, 109, 110] (by decide +kernel) (by decide +kernel)
set_option maxRecDepth 20000 in
theorem gX4_opens_X4_fail : GoodIn wsX4_opens (wsV RX4 39 RX4 yX4_fail wsX4_fail) := goodIn_app (goodIn_of _ (by decide +kernel)) ggX4_opens_X4_fail
set_option maxRecDepth 20000 in
theorem ggX4_opens_X4_kept : GoodIn wsX4_opens wsX4_kept := goodIn_r _ [18, 19, 20, 21, 22, 23, 24, 25, 26, 27, 28, 29, 103, 104, 105, 106, 107, 108, 109, 110] (by decide +kernel) (by decide +kernel)
set_option maxRecDepth 20000 in
theorem gX4_opens_X4_kept : GoodIn wsX4_opens (wsV RX4 127 RX4 yX4_kept wsX4_kept) := goodIn_app (goodIn_of _ (by decide +kernel)) ggX4_opens_X4_kept
set_option maxRecDepth 20000 in
theorem ggX4_opens_X4_va : GoodIn wsX4_opens wsX4_va := goodIn_r _ [33, 20, 103, 104, 105, 106, 107, 108, 109, 110] (by decide +kernel) (by decide +kernel)
set_option maxRecDepth 20000 in
theorem gX4_opens_X4_va : GoodIn wsX4_opens (wsV RX4 49 RX4 yX4_va wsX4_va) := goodIn_app (goodIn_of _ (by decide +kernel)) ggX4_opens_X4_va
set_option maxRecDepth 20000 in
theorem ggX4_opens_X4_tickOn : GoodIn wsX4_opens wsX4_tickOn := goodIn_r _ [37, 7, 29, 30, 31, 32, 5, 33, 20, 38, 39, 40, 41, 42, 43, 44, 45, 28, 46, 47, 48, 49, 50, 51, 52, 53, 54, 27, 55, 56, 57, 58, 59, 60, 61, 62, 26, 63, 64, 65, 66, 67, 68, 69, 70, 71, 72, 73, 74, 75, 76, 77, 78, 79, 80, 81, 82, 83, 84, 85, 86, 87, 88, 89, 90, 91, 92, 93, 94, 103, 104, 105, 106, 107, 108, 109, 110] (by decide +kernel) (by decide +kernel)
set_option maxRecDepth 20000 in
theorem gX4_opens_X4_tickOn : GoodIn wsX4_opens (wsV RX4 115 RX4 yX4_tickOn wsX4_tickOn) := goodIn_app (goodIn_of _ (by decide +kernel)) ggX4_opens_X4_tickOn
set_option maxRecDepth 20000 in
theorem ggX4_opens_X4_bringBack : GoodIn wsX4_opens wsX4_bringBack := goodIn_r _ [98, 47, 48, 49, 50, 99, 100, 101, 5, 102, 19, 20, 26, 27, 28, 29, 103, 104, 105, 106, 107, 108, 109, 110] (by decide +kernel) (by decide +kernel)
set_option maxRecDepth 20000 in
theorem gX4_opens_X4_bringBack : GoodIn wsX4_opens (wsV RX4 130 RX4 yX4_bringBack wsX4_bringBack) := goodIn_app (goodIn_of _ (by decide +kernel)) ggX4_opens_X4_bringBack
theorem dX4_opens_0 : decode cX4_opens 0 = .ok (.aload_n 0, 1) := by decide +kernel
theorem dX4_opens_1 : decode cX4_opens 1 = .ok (.iconst 0, 1) := by decide +kernel
theorem dX4_opens_2 : decode cX4_opens 2 = .ok (.putfield 28, 3) := by decide +kernel
theorem dX4_opens_5 : decode cX4_opens 5 = .ok (.aload_n 0, 1) := by decide +kernel
theorem dX4_opens_6 : decode cX4_opens 6 = .ok (.iload_n 1, 1) := by decide +kernel
theorem dX4_opens_7 : decode cX4_opens 7 = .ok (.invokevirtual 57, 3) := by decide +kernel
theorem dX4_opens_10 : decode cX4_opens 10 = .ok (.ifCond .ne 9, 3) := by decide +kernel
theorem dX4_opens_13 : decode cX4_opens 13 = .ok (.aload_n 0, 1) := by decide +kernel
theorem dX4_opens_14 : decode cX4_opens 14 = .ok (.iconst 1, 1) := by decide +kernel
theorem dX4_opens_15 : decode cX4_opens 15 = .ok (.invokevirtual 39, 3) := by decide +kernel
theorem dX4_opens_18 : decode cX4_opens 18 = .ok (.ireturn, 1) := by decide +kernel
theorem dX4_opens_19 : decode cX4_opens 19 = .ok (.aload_n 0, 1) := by decide +kernel
theorem dX4_opens_20 : decode cX4_opens 20 = .ok (.invokevirtual 127, 3) := by decide +kernel
theorem dX4_opens_23 : decode cX4_opens 23 = .ok (.astore_n 2, 1) := by decide +kernel
theorem dX4_opens_24 : decode cX4_opens 24 = .ok (.iconst 0, 1) := by decide +kernel
theorem dX4_opens_25 : decode cX4_opens 25 = .ok (.istore_n 3, 1) := by decide +kernel
theorem dX4_opens_26 : decode cX4_opens 26 = .ok (.iload_n 3, 1) := by decide +kernel
theorem dX4_opens_27 : decode cX4_opens 27 = .ok (.bipush 100, 2) := by decide +kernel
theorem dX4_opens_29 : decode cX4_opens 29 = .ok (.if_icmp .ge 24, 3) := by decide +kernel
theorem dX4_opens_32 : decode cX4_opens 32 = .ok (.aload_n 0, 1) := by decide +kernel
theorem dX4_opens_33 : decode cX4_opens 33 = .ok (.iload_n 1, 1) := by decide +kernel
theorem dX4_opens_34 : decode cX4_opens 34 = .ok (.iconst 3, 1) := by decide +kernel
theorem dX4_opens_35 : decode cX4_opens 35 = .ok (.invokevirtual 49, 3) := by decide +kernel
theorem dX4_opens_38 : decode cX4_opens 38 = .ok (.iconst 2, 1) := by decide +kernel
theorem dX4_opens_39 : decode cX4_opens 39 = .ok (.if_icmp .eq 14, 3) := by decide +kernel
theorem dX4_opens_42 : decode cX4_opens 42 = .ok (.aload_n 0, 1) := by decide +kernel
theorem dX4_opens_43 : decode cX4_opens 43 = .ok (.invokevirtual 115, 3) := by decide +kernel
theorem dX4_opens_46 : decode cX4_opens 46 = .ok (.pop, 1) := by decide +kernel
theorem dX4_opens_47 : decode cX4_opens 47 = .ok (.iinc 3 1, 3) := by decide +kernel
theorem dX4_opens_50 : decode cX4_opens 50 = .ok (.goto (-24), 3) := by decide +kernel
theorem dX4_opens_53 : decode cX4_opens 53 = .ok (.aload_n 0, 1) := by decide +kernel
theorem dX4_opens_54 : decode cX4_opens 54 = .ok (.iload_n 1, 1) := by decide +kernel
theorem dX4_opens_55 : decode cX4_opens 55 = .ok (.iconst 3, 1) := by decide +kernel
theorem dX4_opens_56 : decode cX4_opens 56 = .ok (.invokevirtual 49, 3) := by decide +kernel
theorem dX4_opens_59 : decode cX4_opens 59 = .ok (.iconst 2, 1) := by decide +kernel
theorem dX4_opens_60 : decode cX4_opens 60 = .ok (.if_icmp .eq 5, 3) := by decide +kernel
theorem dX4_opens_63 : decode cX4_opens 63 = .ok (.iconst (-1), 1) := by decide +kernel
theorem dX4_opens_64 : decode cX4_opens 64 = .ok (.istore_n 3, 1) := by decide +kernel
theorem dX4_opens_65 : decode cX4_opens 65 = .ok (.aload_n 0, 1) := by decide +kernel
theorem dX4_opens_66 : decode cX4_opens 66 = .ok (.aload_n 2, 1) := by decide +kernel
theorem dX4_opens_67 : decode cX4_opens 67 = .ok (.invokevirtual 130, 3) := by decide +kernel
theorem dX4_opens_70 : decode cX4_opens 70 = .ok (.iload_n 3, 1) := by decide +kernel
theorem dX4_opens_71 : decode cX4_opens 71 = .ok (.ireturn, 1) := by decide +kernel
set_option maxRecDepth 20000 in
theorem ggX4_opened_X4_kept : GoodIn wsX4_opened wsX4_kept := goodIn_r _ [5, 6, 7, 8, 9, 10, 11, 12, 13, 14, 15, 16, 107, 108, 109, 110, 111, 112, 113, 114] (by decide +kernel) (by decide +kernel)
set_option maxRecDepth 20000 in
theorem gX4_opened_X4_kept : GoodIn wsX4_opened (wsV RX4 127 RX4 yX4_kept wsX4_kept) := goodIn_app (goodIn_of _ (by decide +kernel)) ggX4_opened_X4_kept
set_option maxRecDepth 20000 in
theorem ggX4_opened_X4_va : GoodIn wsX4_opened wsX4_va := goodIn_r _ [20, 7, 107, 108, 109, 110, 111, 112, 113, 114] (by decide +kernel) (by decide +kernel)
set_option maxRecDepth 20000 in
theorem gX4_opened_X4_va : GoodIn wsX4_opened (wsV RX4 49 RX4 yX4_va wsX4_va) := goodIn_app (goodIn_of _ (by decide +kernel)) ggX4_opened_X4_va
set_option maxRecDepth 20000 in
theorem ggX4_opened_X4_whisper : GoodIn wsX4_opened wsX4_whisper := goodIn_r _ [24, 25, 26, 27, 28, 4, 29, 30, 31, 32, 33, 17, 18, 19, 20, 7, 34, 35, 36, 37, 38, 39, 40, 41, 42, 43, 44, 45, 46, 47, 48, 49, 13, 50, 51, 52, 53, 54, 55, 56, 57, 16, 15, 58, 59, 60, 61, 107, 108, 109, 110, 111, 112, 113, 114] (by decide +kernel) (by decide +kernel)
set_option maxRecDepth 20000 in
theorem gX4_opened_X4_whisper : GoodIn wsX4_opened (wsV RX4 134 RX4 yX4_whisper wsX4_whisper) := goodIn_app (goodIn_of _ (by decide +kernel)) ggX4_opened_X4_whisper
set_option maxRecDepth 20000 in
theorem ggX4_opened_X4_tickOn : GoodIn wsX4_opened wsX4_tickOn := goodIn_r _ [65, 30, 16, 17, 18, 19, 4, 20, 7, 42, 43, 44, 45, 66, 67, 68, 69, 15, 70, 71, 72, 73, 74, 75, 76, 77, 78, 14, 79, 80, 81, 82, 50, 51, 52, 53, 13, 46, 47, 48, 49, 54, 55, 56, 57, 34, 35, 36, 37, 38, 39, 40, 41, 83, 84, 85, 86, 87, 88, 89, 90, 91, 92, 93, 94, 58, 59, 60, 61, 107, 108, 109, 110, 111, 112, 113, 114] (by decide +kernel) (by decide +kernel)
set_option maxRecDepth 20000 in
theorem gX4_opened_X4_tickOn : GoodIn wsX4_opened (wsV RX4 115 RX4 yX4_tickOn wsX4_tickOn) := goodIn_app (goodIn_of _ (by decide +kernel)) ggX4_opened_X4_tickOn
set_option maxRecDepth 20000 in
theorem ggX4_opened_X4_openOnes : GoodIn wsX4_opened wsX4_openOnes := goodIn_r _ [98, 30, 17, 18, 19, 4, 20, 7, 107, 108, 109, 110, 111, 112, 113, 114] (by decide +kernel) (by decide +kernel)
set_option maxRecDepth 20000 in
theorem gX4_opened_X4_openOnes : GoodIn wsX4_opened (wsV RX4 96 RX4 yX4_openOnes wsX4_openOnes) := goodIn_app (goodIn_of _ (by decide +kernel)) ggX4_opened_X4_openOnes
set_option maxRecDepth 20000 in
theorem ggX4_opened_X4_bringBack : GoodIn wsX4_opened wsX4_bringBack := goodIn_r _ [102, 71, 72, 73, 74, 103, 104, 105, 4, 106, 6, 7, 13, 14, 15, 16, 107, 108, 109, 110, 111, 112, 113, 114] (by decide +kernel) (by decide +kernel)
set_option maxRecDepth 20000 in
theorem gX4_opened_X4_bringBack : GoodIn wsX4_opened (wsV RX4 130 RX4 yX4_bringBack wsX4_bringBack) := goodIn_app (goodIn_of _ (by decide +kernel)) ggX4_opened_X4_bringBack
set_option maxRecDepth 20000 in
theorem ggX4_would_X4_isDoor : GoodIn wsX4_would wsX4_isDoor := goodIn_r _ [6, 7, 8, 9, 5, 10, 115, 116, 117, 118, 119, 120, 121, 122] (by decide +kernel) (by decide +kernel)
set_option maxRecDepth 20000 in
theorem gX4_would_X4_isDoor : GoodIn wsX4_would (wsV RX4 57 RX4 yX4_isDoor wsX4_isDoor) := goodIn_app (goodIn_of _ (by decide +kernel)) ggX4_would_X4_isDoor
set_option maxRecDepth 20000 in
theorem ggX4_would_X4_fail : GoodIn wsX4_would wsX4_fail := goodIn_r _ [14, 1, 115, 116, 117, 118, 119, 120, 121, 122] (by decide +kernel) (by decide +kernel)
set_option maxRecDepth 20000 in
theorem gX4_would_X4_fail : GoodIn wsX4_would (wsV RX4 39 RX4 yX4_fail wsX4_fail) := goodIn_app (goodIn_of _ (by decide +kernel)) ggX4_would_X4_fail
set_option maxRecDepth 20000 in
theorem ggX4_would_X4_isIn : GoodIn wsX4_would wsX4_isIn := goodIn_r _ [10] (by decide +kernel) (by decide +kernel)
set_option maxRecDepth 20000 in
theorem gX4_would_X4_isIn : GoodIn wsX4_would (va_wsS RX4 35 yX4_isIn wsX4_isIn) := goodIn_app (goodIn_of _ (by decide +kernel)) ggX4_would_X4_isIn
set_option maxRecDepth 20000 in
theorem ggX4_would_X4_opened : GoodIn wsX4_would wsX4_opened := goodIn_r _ [18, 19, 20, 21, 5, 22, 23, 24, 25, 26, 27, 28, 29, 30, 31, 32, 33, 34, 35, 36, 37, 38, 39, 40, 41, 1, 2, 3, 4, 6, 7, 8, 9, 10, 42, 43, 44, 45, 46, 47, 48, 49, 50, 51, 52, 53, 54, 55, 56, 57, 58, 59, 60, 61, 62, 63, 64, 65, 66, 67, 68, 69, 70, 71, 72, 73, 74, 75, 76, 77, 78, 79, 80, 81, 82, 83, 84, 85, 86, 87, 88, 89, 90, 91, 92, 93, 94, 95, 96, 97, 98, 99, 100, 101, 102, 103, 104, 105, 106, 107, 108, 109, 110, 111, 112, 113, 114, 115, 116, 117, 118, 119, 120, 121, 122] (by decide +kernel) (by decide +kernel)
set_option maxRecDepth 20000 in
theorem gX4_would_X4_opened : GoodIn wsX4_would (wsV RX4 138 RX4 yX4_opened wsX4_opened) := goodIn_app (goodIn_of _ (by decide +kernel)) ggX4_would_X4_opened
theorem dX4_would_0 : decode cX4_would 0 = .ok (.aload_n 0, 1) := by decide +kernel
theorem dX4_would_1 : decode cX4_would 1 = .ok (.iconst 0, 1) := by decide +kernel
theorem dX4_would_2 : decode cX4_would 2 = .ok (.putfield 28, 3) := by decide +kernel
theorem dX4_would_5 : decode cX4_would 5 = .ok (.aload_n 0, 1) := by decide +kernel
theorem dX4_would_6 : decode cX4_would 6 = .ok (.iload_n 1, 1) := by decide +kernel
theorem dX4_would_7 : decode cX4_would 7 = .ok (.invokevirtual 57, 3) := by decide +kernel
theorem dX4_would_10 : decode cX4_would 10 = .ok (.ifCond .ne 9, 3) := by decide +kernel
theorem dX4_would_13 : decode cX4_would 13 = .ok (.aload_n 0, 1) := by decide +kernel
theorem dX4_would_14 : decode cX4_would 14 = .ok (.iconst 1, 1) := by decide +kernel
theorem dX4_would_15 : decode cX4_would 15 = .ok (.invokevirtual 39, 3) := by decide +kernel
theorem dX4_would_18 : decode cX4_would 18 = .ok (.ireturn, 1) := by decide +kernel
theorem dX4_would_19 : decode cX4_would 19 = .ok (.iload_n 2, 1) := by decide +kernel
theorem dX4_would_20 : decode cX4_would 20 = .ok (.iconst 1, 1) := by decide +kernel
theorem dX4_would_21 : decode cX4_would 21 = .ok (.bipush 100, 2) := by decide +kernel
theorem dX4_would_23 : decode cX4_would 23 = .ok (.invokestatic 35, 3) := by decide +kernel
theorem dX4_would_26 : decode cX4_would 26 = .ok (.ifCond .eq 12, 3) := by decide +kernel
theorem dX4_would_29 : decode cX4_would 29 = .ok (.aload_n 0, 1) := by decide +kernel
theorem dX4_would_30 : decode cX4_would 30 = .ok (.iload_n 1, 1) := by decide +kernel
theorem dX4_would_31 : decode cX4_would 31 = .ok (.iload_n 2, 1) := by decide +kernel
theorem dX4_would_32 : decode cX4_would 32 = .ok (.invokevirtual 138, 3) := by decide +kernel
theorem dX4_would_35 : decode cX4_would 35 = .ok (.goto 8, 3) := by decide +kernel
theorem dX4_would_38 : decode cX4_would 38 = .ok (.aload_n 0, 1) := by decide +kernel
theorem dX4_would_39 : decode cX4_would 39 = .ok (.iconst 2, 1) := by decide +kernel
theorem dX4_would_40 : decode cX4_would 40 = .ok (.invokevirtual 39, 3) := by decide +kernel
theorem dX4_would_43 : decode cX4_would 43 = .ok (.ireturn, 1) := by decide +kernel
set_option maxRecDepth 20000 in
theorem ggX4_best_X4_isIn : GoodIn wsX4_best wsX4_isIn := goodIn_r _ [6] (by decide +kernel) (by decide +kernel)
set_option maxRecDepth 20000 in
theorem gX4_best_X4_isIn : GoodIn wsX4_best (va_wsS RX4 35 yX4_isIn wsX4_isIn) := goodIn_app (goodIn_of _ (by decide +kernel)) ggX4_best_X4_isIn
set_option maxRecDepth 20000 in
theorem ggX4_best_X4_fail : GoodIn wsX4_best wsX4_fail := goodIn_r _ [10, 1, 122, 123, 124, 125, 126, 127, 128, 129] (by decide +kernel) (by decide +kernel)
set_option maxRecDepth 20000 in
theorem gX4_best_X4_fail : GoodIn wsX4_best (wsV RX4 39 RX4 yX4_fail wsX4_fail) := goodIn_app (goodIn_of _ (by decide +kernel)) ggX4_best_X4_fail
set_option maxRecDepth 20000 in
theorem ggX4_best_X4_opened : GoodIn wsX4_best wsX4_opened := goodIn_r _ [14, 15, 16, 17, 5, 18, 19, 20, 21, 22, 23, 24, 25, 26, 27, 28, 29, 30, 31, 32, 33, 34, 35, 36, 37, 1, 38, 39, 40, 41, 2, 3, 4, 6, 42, 43, 44, 45, 46, 47, 48, 49, 50, 51, 52, 53, 54, 55, 56, 57, 58, 59, 60, 61, 62, 63, 64, 65, 66, 67, 68, 69, 70, 71, 72, 73, 74, 75, 76, 77, 78, 79, 80, 81, 82, 83, 84, 85, 86, 87, 88, 89, 90, 91, 92, 93, 94, 95, 96, 97, 98, 99, 100, 101, 102, 103, 104, 105, 106, 107, 108, 109, 110, 111, 112, 113, 114, 122, 123, 124, 125, 126, 127, 128, 129] (by decide +kernel) (by decide +kernel)
set_option maxRecDepth 20000 in
theorem gX4_best_X4_opened : GoodIn wsX4_best (wsV RX4 138 RX4 yX4_opened wsX4_opened) := goodIn_app (goodIn_of _ (by decide +kernel)) ggX4_best_X4_opened
set_option maxRecDepth 20000 in
theorem ggX4_best_J6_bitCount_0f7a4 : GoodIn wsX4_best wsJ6_bitCount_0f7a4 := goodIn_r _ [118, 119, 120, 121] (by decide +kernel) (by decide +kernel)
set_option maxRecDepth 20000 in
theorem gX4_best_J6_bitCount_0f7a4 : GoodIn wsX4_best (va_wsS RX4 141 yJ6_bitCount_0f7a4 wsJ6_bitCount_0f7a4) := goodIn_app (goodIn_of _ (by decide +kernel)) ggX4_best_J6_bitCount_0f7a4
theorem dX4_best_0 : decode cX4_best 0 = .ok (.aload_n 0, 1) := by decide +kernel
theorem dX4_best_1 : decode cX4_best 1 = .ok (.iconst 0, 1) := by decide +kernel
theorem dX4_best_2 : decode cX4_best 2 = .ok (.putfield 28, 3) := by decide +kernel
theorem dX4_best_5 : decode cX4_best 5 = .ok (.iload_n 1, 1) := by decide +kernel
theorem dX4_best_6 : decode cX4_best 6 = .ok (.iconst 1, 1) := by decide +kernel
theorem dX4_best_7 : decode cX4_best 7 = .ok (.bipush 30, 2) := by decide +kernel
theorem dX4_best_9 : decode cX4_best 9 = .ok (.invokestatic 35, 3) := by decide +kernel
theorem dX4_best_12 : decode cX4_best 12 = .ok (.ifCond .ne 9, 3) := by decide +kernel
theorem dX4_best_15 : decode cX4_best 15 = .ok (.aload_n 0, 1) := by decide +kernel
theorem dX4_best_16 : decode cX4_best 16 = .ok (.iconst 1, 1) := by decide +kernel
theorem dX4_best_17 : decode cX4_best 17 = .ok (.invokevirtual 39, 3) := by decide +kernel
theorem dX4_best_20 : decode cX4_best 20 = .ok (.ireturn, 1) := by decide +kernel
theorem dX4_best_21 : decode cX4_best 21 = .ok (.iconst (-1), 1) := by decide +kernel
theorem dX4_best_22 : decode cX4_best 22 = .ok (.istore_n 2, 1) := by decide +kernel
theorem dX4_best_23 : decode cX4_best 23 = .ok (.iconst (-1), 1) := by decide +kernel
theorem dX4_best_24 : decode cX4_best 24 = .ok (.istore_n 3, 1) := by decide +kernel
theorem dX4_best_25 : decode cX4_best 25 = .ok (.iconst 0, 1) := by decide +kernel
theorem dX4_best_26 : decode cX4_best 26 = .ok (.istore 4, 2) := by decide +kernel
theorem dX4_best_28 : decode cX4_best 28 = .ok (.iload 4, 2) := by decide +kernel
theorem dX4_best_30 : decode cX4_best 30 = .ok (.aload_n 0, 1) := by decide +kernel
theorem dX4_best_31 : decode cX4_best 31 = .ok (.getfield 32, 3) := by decide +kernel
theorem dX4_best_34 : decode cX4_best 34 = .ok (.if_icmp .ge 36, 3) := by decide +kernel
theorem dX4_best_37 : decode cX4_best 37 = .ok (.aload_n 0, 1) := by decide +kernel
theorem dX4_best_38 : decode cX4_best 38 = .ok (.iload 4, 2) := by decide +kernel
theorem dX4_best_40 : decode cX4_best 40 = .ok (.iload_n 1, 1) := by decide +kernel
theorem dX4_best_41 : decode cX4_best 41 = .ok (.invokevirtual 138, 3) := by decide +kernel
theorem dX4_best_44 : decode cX4_best 44 = .ok (.invokestatic 141, 3) := by decide +kernel
theorem dX4_best_47 : decode cX4_best 47 = .ok (.istore 5, 2) := by decide +kernel
theorem dX4_best_49 : decode cX4_best 49 = .ok (.iload 5, 2) := by decide +kernel
theorem dX4_best_51 : decode cX4_best 51 = .ok (.iload_n 3, 1) := by decide +kernel
theorem dX4_best_52 : decode cX4_best 52 = .ok (.if_icmp .gt 6, 3) := by decide +kernel
theorem dX4_best_55 : decode cX4_best 55 = .ok (.goto 9, 3) := by decide +kernel
theorem dX4_best_58 : decode cX4_best 58 = .ok (.iload 4, 2) := by decide +kernel
theorem dX4_best_60 : decode cX4_best 60 = .ok (.istore_n 2, 1) := by decide +kernel
theorem dX4_best_61 : decode cX4_best 61 = .ok (.iload 5, 2) := by decide +kernel
theorem dX4_best_63 : decode cX4_best 63 = .ok (.istore_n 3, 1) := by decide +kernel
theorem dX4_best_64 : decode cX4_best 64 = .ok (.iinc 4 1, 3) := by decide +kernel
theorem dX4_best_67 : decode cX4_best 67 = .ok (.goto (-39), 3) := by decide +kernel
theorem dX4_best_70 : decode cX4_best 70 = .ok (.iload_n 2, 1) := by decide +kernel
theorem dX4_best_71 : decode cX4_best 71 = .ok (.ireturn, 1) := by decide +kernel
set_option maxRecDepth 20000 in
theorem ggX4_mean_X4_va : GoodIn wsX4_mean wsX4_va := goodIn_r _ [7, 8, 9, 10, 11, 12, 13, 14, 15, 16] (by decide +kernel) (by decide +kernel)
set_option maxRecDepth 20000 in
theorem gX4_mean_X4_va : GoodIn wsX4_mean (wsV RX4 49 RX4 yX4_va wsX4_va) := goodIn_app (goodIn_of _ (by decide +kernel)) ggX4_mean_X4_va
theorem dX4_mean_0 : decode cX4_mean 0 = .ok (.aload_n 0, 1) := by decide +kernel
theorem dX4_mean_1 : decode cX4_mean 1 = .ok (.iconst 0, 1) := by decide +kernel
theorem dX4_mean_2 : decode cX4_mean 2 = .ok (.putfield 28, 3) := by decide +kernel
theorem dX4_mean_5 : decode cX4_mean 5 = .ok (.iconst 0, 1) := by decide +kernel
theorem dX4_mean_6 : decode cX4_mean 6 = .ok (.istore_n 1, 1) := by decide +kernel
theorem dX4_mean_7 : decode cX4_mean 7 = .ok (.iconst 0, 1) := by decide +kernel
theorem dX4_mean_8 : decode cX4_mean 8 = .ok (.istore_n 2, 1) := by decide +kernel
theorem dX4_mean_9 : decode cX4_mean 9 = .ok (.iconst 0, 1) := by decide +kernel
theorem dX4_mean_10 : decode cX4_mean 10 = .ok (.istore_n 3, 1) := by decide +kernel
theorem dX4_mean_11 : decode cX4_mean 11 = .ok (.iload_n 3, 1) := by decide +kernel
theorem dX4_mean_12 : decode cX4_mean 12 = .ok (.aload_n 0, 1) := by decide +kernel
theorem dX4_mean_13 : decode cX4_mean 13 = .ok (.getfield 32, 3) := by decide +kernel
theorem dX4_mean_16 : decode cX4_mean 16 = .ok (.if_icmp .ge 37, 3) := by decide +kernel
theorem dX4_mean_19 : decode cX4_mean 19 = .ok (.iload_n 1, 1) := by decide +kernel
theorem dX4_mean_20 : decode cX4_mean 20 = .ok (.aload_n 0, 1) := by decide +kernel
theorem dX4_mean_21 : decode cX4_mean 21 = .ok (.iload_n 3, 1) := by decide +kernel
theorem dX4_mean_22 : decode cX4_mean 22 = .ok (.bipush 6, 2) := by decide +kernel
theorem dX4_mean_24 : decode cX4_mean 24 = .ok (.invokevirtual 49, 3) := by decide +kernel
theorem dX4_mean_27 : decode cX4_mean 27 = .ok (.iadd, 1) := by decide +kernel
theorem dX4_mean_28 : decode cX4_mean 28 = .ok (.istore_n 1, 1) := by decide +kernel
theorem dX4_mean_29 : decode cX4_mean 29 = .ok (.iload_n 2, 1) := by decide +kernel
theorem dX4_mean_30 : decode cX4_mean 30 = .ok (.aload_n 0, 1) := by decide +kernel
theorem dX4_mean_31 : decode cX4_mean 31 = .ok (.iload_n 3, 1) := by decide +kernel
theorem dX4_mean_32 : decode cX4_mean 32 = .ok (.bipush 6, 2) := by decide +kernel
theorem dX4_mean_34 : decode cX4_mean 34 = .ok (.invokevirtual 49, 3) := by decide +kernel
theorem dX4_mean_37 : decode cX4_mean 37 = .ok (.aload_n 0, 1) := by decide +kernel
theorem dX4_mean_38 : decode cX4_mean 38 = .ok (.iload_n 3, 1) := by decide +kernel
theorem dX4_mean_39 : decode cX4_mean 39 = .ok (.bipush 7, 2) := by decide +kernel
theorem dX4_mean_41 : decode cX4_mean 41 = .ok (.invokevirtual 49, 3) := by decide +kernel
theorem dX4_mean_44 : decode cX4_mean 44 = .ok (.iadd, 1) := by decide +kernel
theorem dX4_mean_45 : decode cX4_mean 45 = .ok (.iadd, 1) := by decide +kernel
theorem dX4_mean_46 : decode cX4_mean 46 = .ok (.istore_n 2, 1) := by decide +kernel
theorem dX4_mean_47 : decode cX4_mean 47 = .ok (.iinc 3 1, 3) := by decide +kernel
theorem dX4_mean_50 : decode cX4_mean 50 = .ok (.goto (-39), 3) := by decide +kernel
theorem dX4_mean_53 : decode cX4_mean 53 = .ok (.iload_n 2, 1) := by decide +kernel
theorem dX4_mean_54 : decode cX4_mean 54 = .ok (.ifCond .ne 7, 3) := by decide +kernel
theorem dX4_mean_57 : decode cX4_mean 57 = .ok (.dconst 0, 1) := by decide +kernel
theorem dX4_mean_58 : decode cX4_mean 58 = .ok (.goto 8, 3) := by decide +kernel
theorem dX4_mean_61 : decode cX4_mean 61 = .ok (.iload_n 1, 1) := by decide +kernel
theorem dX4_mean_62 : decode cX4_mean 62 = .ok (.i2d, 1) := by decide +kernel
theorem dX4_mean_63 : decode cX4_mean 63 = .ok (.iload_n 2, 1) := by decide +kernel
theorem dX4_mean_64 : decode cX4_mean 64 = .ok (.i2d, 1) := by decide +kernel
theorem dX4_mean_65 : decode cX4_mean 65 = .ok (.ddiv, 1) := by decide +kernel
theorem dX4_mean_66 : decode cX4_mean 66 = .ok (.dreturn, 1) := by decide +kernel
set_option maxRecDepth 20000 in
theorem ggX4_digest_X4_counted : GoodIn wsX4_digest wsX4_counted := goodIn_r _ [11, 5, 4, 12, 13, 14, 10, 15, 16, 17, 18, 19, 20, 38, 39, 40, 41, 42, 43, 44, 45] (by decide +kernel) (by decide +kernel)
set_option maxRecDepth 20000 in
theorem gX4_digest_X4_counted : GoodIn wsX4_digest (wsV RX4 100 RX4 yX4_counted wsX4_counted) := goodIn_app (goodIn_of _ (by decide +kernel)) ggX4_digest_X4_counted
set_option maxRecDepth 20000 in
theorem ggX4_digest_X4_doorTold : GoodIn wsX4_digest wsX4_doorTold := goodIn_r _ [24, 12, 13, 14, 10, 15, 16, 25, 26, 27, 28, 29, 30, 31, 32, 33, 38, 39, 40, 41, 42, 43, 44, 45] (by decide +kernel) (by decide +kernel)
set_option maxRecDepth 20000 in
theorem gX4_digest_X4_doorTold : GoodIn wsX4_digest (wsV RX4 90 RX4 yX4_doorTold wsX4_doorTold) := goodIn_app (goodIn_of _ (by decide +kernel)) ggX4_digest_X4_doorTold
set_option maxRecDepth 20000 in
theorem ggX4_digest_X4_va : GoodIn wsX4_digest wsX4_va := goodIn_r _ [15, 16, 38, 39, 40, 41, 42, 43, 44, 45] (by decide +kernel) (by decide +kernel)
set_option maxRecDepth 20000 in
theorem gX4_digest_X4_va : GoodIn wsX4_digest (wsV RX4 49 RX4 yX4_va wsX4_va) := goodIn_app (goodIn_of _ (by decide +kernel)) ggX4_digest_X4_va
set_option maxRecDepth 20000 in
theorem ggX4_digest_X4_asked : GoodIn wsX4_digest wsX4_asked := goodIn_r _ [37, 12, 13, 14, 10, 15, 16, 29, 30, 31, 32, 33, 38, 39, 40, 41, 42, 43, 44, 45] (by decide +kernel) (by decide +kernel)
set_option maxRecDepth 20000 in
theorem gX4_digest_X4_asked : GoodIn wsX4_digest (wsV RX4 93 RX4 yX4_asked wsX4_asked) := goodIn_app (goodIn_of _ (by decide +kernel)) ggX4_digest_X4_asked
theorem dX4_digest_0 : decode cX4_digest 0 = .ok (.aload_n 0, 1) := by decide +kernel
theorem dX4_digest_1 : decode cX4_digest 1 = .ok (.iconst 0, 1) := by decide +kernel
theorem dX4_digest_2 : decode cX4_digest 2 = .ok (.putfield 28, 3) := by decide +kernel
theorem dX4_digest_5 : decode cX4_digest 5 = .ok (.ldc2_w 146, 3) := by decide +kernel
theorem dX4_digest_8 : decode cX4_digest 8 = .ok (.lstore_n 1, 1) := by decide +kernel
theorem dX4_digest_9 : decode cX4_digest 9 = .ok (.iconst 0, 1) := by decide +kernel
theorem dX4_digest_10 : decode cX4_digest 10 = .ok (.istore_n 3, 1) := by decide +kernel
theorem dX4_digest_11 : decode cX4_digest 11 = .ok (.iload_n 3, 1) := by decide +kernel
theorem dX4_digest_12 : decode cX4_digest 12 = .ok (.bipush 9, 2) := by decide +kernel
theorem dX4_digest_14 : decode cX4_digest 14 = .ok (.if_icmp .ge 22, 3) := by decide +kernel
theorem dX4_digest_17 : decode cX4_digest 17 = .ok (.lload_n 1, 1) := by decide +kernel
theorem dX4_digest_18 : decode cX4_digest 18 = .ok (.ldc2_w 148, 3) := by decide +kernel
theorem dX4_digest_21 : decode cX4_digest 21 = .ok (.lmul, 1) := by decide +kernel
theorem dX4_digest_22 : decode cX4_digest 22 = .ok (.aload_n 0, 1) := by decide +kernel
theorem dX4_digest_23 : decode cX4_digest 23 = .ok (.iload_n 3, 1) := by decide +kernel
theorem dX4_digest_24 : decode cX4_digest 24 = .ok (.invokevirtual 100, 3) := by decide +kernel
theorem dX4_digest_27 : decode cX4_digest 27 = .ok (.i2l, 1) := by decide +kernel
theorem dX4_digest_28 : decode cX4_digest 28 = .ok (.ladd, 1) := by decide +kernel
theorem dX4_digest_29 : decode cX4_digest 29 = .ok (.lstore_n 1, 1) := by decide +kernel
theorem dX4_digest_30 : decode cX4_digest 30 = .ok (.iinc 3 1, 3) := by decide +kernel
theorem dX4_digest_33 : decode cX4_digest 33 = .ok (.goto (-22), 3) := by decide +kernel
theorem dX4_digest_36 : decode cX4_digest 36 = .ok (.iconst 0, 1) := by decide +kernel
theorem dX4_digest_37 : decode cX4_digest 37 = .ok (.istore_n 3, 1) := by decide +kernel
theorem dX4_digest_38 : decode cX4_digest 38 = .ok (.iload_n 3, 1) := by decide +kernel
theorem dX4_digest_39 : decode cX4_digest 39 = .ok (.aload_n 0, 1) := by decide +kernel
theorem dX4_digest_40 : decode cX4_digest 40 = .ok (.getfield 32, 3) := by decide +kernel
theorem dX4_digest_43 : decode cX4_digest 43 = .ok (.if_icmp .ge 92, 3) := by decide +kernel
theorem dX4_digest_46 : decode cX4_digest 46 = .ok (.iconst 0, 1) := by decide +kernel
theorem dX4_digest_47 : decode cX4_digest 47 = .ok (.istore 4, 2) := by decide +kernel
theorem dX4_digest_49 : decode cX4_digest 49 = .ok (.iload 4, 2) := by decide +kernel
theorem dX4_digest_51 : decode cX4_digest 51 = .ok (.bipush 9, 2) := by decide +kernel
theorem dX4_digest_53 : decode cX4_digest 53 = .ok (.if_icmp .ge 24, 3) := by decide +kernel
theorem dX4_digest_56 : decode cX4_digest 56 = .ok (.lload_n 1, 1) := by decide +kernel
theorem dX4_digest_57 : decode cX4_digest 57 = .ok (.ldc2_w 148, 3) := by decide +kernel
theorem dX4_digest_60 : decode cX4_digest 60 = .ok (.lmul, 1) := by decide +kernel
theorem dX4_digest_61 : decode cX4_digest 61 = .ok (.aload_n 0, 1) := by decide +kernel
theorem dX4_digest_62 : decode cX4_digest 62 = .ok (.iload_n 3, 1) := by decide +kernel
theorem dX4_digest_63 : decode cX4_digest 63 = .ok (.iload 4, 2) := by decide +kernel
theorem dX4_digest_65 : decode cX4_digest 65 = .ok (.invokevirtual 90, 3) := by decide +kernel
theorem dX4_digest_68 : decode cX4_digest 68 = .ok (.i2l, 1) := by decide +kernel
theorem dX4_digest_69 : decode cX4_digest 69 = .ok (.ladd, 1) := by decide +kernel
theorem dX4_digest_70 : decode cX4_digest 70 = .ok (.lstore_n 1, 1) := by decide +kernel
theorem dX4_digest_71 : decode cX4_digest 71 = .ok (.iinc 4 1, 3) := by decide +kernel
theorem dX4_digest_74 : decode cX4_digest 74 = .ok (.goto (-25), 3) := by decide +kernel
theorem dX4_digest_77 : decode cX4_digest 77 = .ok (.iconst 0, 1) := by decide +kernel
theorem dX4_digest_78 : decode cX4_digest 78 = .ok (.istore 4, 2) := by decide +kernel
theorem dX4_digest_80 : decode cX4_digest 80 = .ok (.iload 4, 2) := by decide +kernel
theorem dX4_digest_82 : decode cX4_digest 82 = .ok (.aload_n 0, 1) := by decide +kernel
theorem dX4_digest_83 : decode cX4_digest 83 = .ok (.iload_n 3, 1) := by decide +kernel
theorem dX4_digest_84 : decode cX4_digest 84 = .ok (.iconst 5, 1) := by decide +kernel
theorem dX4_digest_85 : decode cX4_digest 85 = .ok (.invokevirtual 49, 3) := by decide +kernel
theorem dX4_digest_88 : decode cX4_digest 88 = .ok (.if_icmp .ge 41, 3) := by decide +kernel
theorem dX4_digest_91 : decode cX4_digest 91 = .ok (.iconst 0, 1) := by decide +kernel
theorem dX4_digest_92 : decode cX4_digest 92 = .ok (.istore 5, 2) := by decide +kernel
theorem dX4_digest_94 : decode cX4_digest 94 = .ok (.iload 5, 2) := by decide +kernel
theorem dX4_digest_96 : decode cX4_digest 96 = .ok (.iconst 3, 1) := by decide +kernel
theorem dX4_digest_97 : decode cX4_digest 97 = .ok (.if_icmp .ge 26, 3) := by decide +kernel
theorem dX4_digest_100 : decode cX4_digest 100 = .ok (.lload_n 1, 1) := by decide +kernel
theorem dX4_digest_101 : decode cX4_digest 101 = .ok (.ldc2_w 148, 3) := by decide +kernel
theorem dX4_digest_104 : decode cX4_digest 104 = .ok (.lmul, 1) := by decide +kernel
theorem dX4_digest_105 : decode cX4_digest 105 = .ok (.aload_n 0, 1) := by decide +kernel
theorem dX4_digest_106 : decode cX4_digest 106 = .ok (.iload_n 3, 1) := by decide +kernel
theorem dX4_digest_107 : decode cX4_digest 107 = .ok (.iload 4, 2) := by decide +kernel
theorem dX4_digest_109 : decode cX4_digest 109 = .ok (.iload 5, 2) := by decide +kernel
theorem dX4_digest_111 : decode cX4_digest 111 = .ok (.invokevirtual 93, 3) := by decide +kernel
theorem dX4_digest_114 : decode cX4_digest 114 = .ok (.i2l, 1) := by decide +kernel
theorem dX4_digest_115 : decode cX4_digest 115 = .ok (.ladd, 1) := by decide +kernel
theorem dX4_digest_116 : decode cX4_digest 116 = .ok (.lstore_n 1, 1) := by decide +kernel
theorem dX4_digest_117 : decode cX4_digest 117 = .ok (.iinc 5 1, 3) := by decide +kernel
theorem dX4_digest_120 : decode cX4_digest 120 = .ok (.goto (-26), 3) := by decide +kernel
theorem dX4_digest_123 : decode cX4_digest 123 = .ok (.iinc 4 1, 3) := by decide +kernel
theorem dX4_digest_126 : decode cX4_digest 126 = .ok (.goto (-46), 3) := by decide +kernel
theorem dX4_digest_129 : decode cX4_digest 129 = .ok (.iinc 3 1, 3) := by decide +kernel
theorem dX4_digest_132 : decode cX4_digest 132 = .ok (.goto (-94), 3) := by decide +kernel
theorem dX4_digest_135 : decode cX4_digest 135 = .ok (.iconst 0, 1) := by decide +kernel
theorem dX4_digest_136 : decode cX4_digest 136 = .ok (.istore_n 3, 1) := by decide +kernel
theorem dX4_digest_137 : decode cX4_digest 137 = .ok (.iload_n 3, 1) := by decide +kernel
theorem dX4_digest_138 : decode cX4_digest 138 = .ok (.aload_n 0, 1) := by decide +kernel
theorem dX4_digest_139 : decode cX4_digest 139 = .ok (.getfield 22, 3) := by decide +kernel
theorem dX4_digest_142 : decode cX4_digest 142 = .ok (.iconst 1, 1) := by decide +kernel
theorem dX4_digest_143 : decode cX4_digest 143 = .ok (.iaload, 1) := by decide +kernel
theorem dX4_digest_144 : decode cX4_digest 144 = .ok (.if_icmp .ge 43, 3) := by decide +kernel
theorem dX4_digest_147 : decode cX4_digest 147 = .ok (.iconst 0, 1) := by decide +kernel
theorem dX4_digest_148 : decode cX4_digest 148 = .ok (.istore 4, 2) := by decide +kernel
theorem dX4_digest_150 : decode cX4_digest 150 = .ok (.iload 4, 2) := by decide +kernel
theorem dX4_digest_152 : decode cX4_digest 152 = .ok (.iconst 4, 1) := by decide +kernel
theorem dX4_digest_153 : decode cX4_digest 153 = .ok (.if_icmp .ge 28, 3) := by decide +kernel
theorem dX4_digest_156 : decode cX4_digest 156 = .ok (.lload_n 1, 1) := by decide +kernel
theorem dX4_digest_157 : decode cX4_digest 157 = .ok (.ldc2_w 148, 3) := by decide +kernel
theorem dX4_digest_160 : decode cX4_digest 160 = .ok (.lmul, 1) := by decide +kernel
theorem dX4_digest_161 : decode cX4_digest 161 = .ok (.aload_n 0, 1) := by decide +kernel
theorem dX4_digest_162 : decode cX4_digest 162 = .ok (.getfield 19, 3) := by decide +kernel
theorem dX4_digest_165 : decode cX4_digest 165 = .ok (.iconst 5, 1) := by decide +kernel
theorem dX4_digest_166 : decode cX4_digest 166 = .ok (.iload_n 3, 1) := by decide +kernel
theorem dX4_digest_167 : decode cX4_digest 167 = .ok (.imul, 1) := by decide +kernel
theorem dX4_digest_168 : decode cX4_digest 168 = .ok (.iload 4, 2) := by decide +kernel
theorem dX4_digest_170 : decode cX4_digest 170 = .ok (.iadd, 1) := by decide +kernel
theorem dX4_digest_171 : decode cX4_digest 171 = .ok (.iaload, 1) := by decide +kernel
theorem dX4_digest_172 : decode cX4_digest 172 = .ok (.i2l, 1) := by decide +kernel
theorem dX4_digest_173 : decode cX4_digest 173 = .ok (.ladd, 1) := by decide +kernel
theorem dX4_digest_174 : decode cX4_digest 174 = .ok (.lstore_n 1, 1) := by decide +kernel
theorem dX4_digest_175 : decode cX4_digest 175 = .ok (.iinc 4 1, 3) := by decide +kernel
theorem dX4_digest_178 : decode cX4_digest 178 = .ok (.goto (-28), 3) := by decide +kernel
theorem dX4_digest_181 : decode cX4_digest 181 = .ok (.iinc 3 1, 3) := by decide +kernel
theorem dX4_digest_184 : decode cX4_digest 184 = .ok (.goto (-47), 3) := by decide +kernel
theorem dX4_digest_187 : decode cX4_digest 187 = .ok (.lload_n 1, 1) := by decide +kernel
theorem dX4_digest_188 : decode cX4_digest 188 = .ok (.lreturn, 1) := by decide +kernel
theorem dJ6_bitCount_0f7a4_0 : decode cJ6_bitCount_0f7a4 0 = .ok (.iload_n 0, 1) := by decide +kernel
theorem dJ6_bitCount_0f7a4_1 : decode cJ6_bitCount_0f7a4 1 = .ok (.iload_n 0, 1) := by decide +kernel
theorem dJ6_bitCount_0f7a4_2 : decode cJ6_bitCount_0f7a4 2 = .ok (.iconst 1, 1) := by decide +kernel
theorem dJ6_bitCount_0f7a4_3 : decode cJ6_bitCount_0f7a4 3 = .ok (.iushr, 1) := by decide +kernel
theorem dJ6_bitCount_0f7a4_4 : decode cJ6_bitCount_0f7a4 4 = .ok (.ldc_w 265, 3) := by decide +kernel
theorem dJ6_bitCount_0f7a4_7 : decode cJ6_bitCount_0f7a4 7 = .ok (.iand, 1) := by decide +kernel
theorem dJ6_bitCount_0f7a4_8 : decode cJ6_bitCount_0f7a4 8 = .ok (.isub, 1) := by decide +kernel
theorem dJ6_bitCount_0f7a4_9 : decode cJ6_bitCount_0f7a4 9 = .ok (.istore_n 0, 1) := by decide +kernel
theorem dJ6_bitCount_0f7a4_10 : decode cJ6_bitCount_0f7a4 10 = .ok (.iload_n 0, 1) := by decide +kernel
theorem dJ6_bitCount_0f7a4_11 : decode cJ6_bitCount_0f7a4 11 = .ok (.ldc_w 266, 3) := by decide +kernel
theorem dJ6_bitCount_0f7a4_14 : decode cJ6_bitCount_0f7a4 14 = .ok (.iand, 1) := by decide +kernel
theorem dJ6_bitCount_0f7a4_15 : decode cJ6_bitCount_0f7a4 15 = .ok (.iload_n 0, 1) := by decide +kernel
theorem dJ6_bitCount_0f7a4_16 : decode cJ6_bitCount_0f7a4 16 = .ok (.iconst 2, 1) := by decide +kernel
theorem dJ6_bitCount_0f7a4_17 : decode cJ6_bitCount_0f7a4 17 = .ok (.iushr, 1) := by decide +kernel
theorem dJ6_bitCount_0f7a4_18 : decode cJ6_bitCount_0f7a4 18 = .ok (.ldc_w 266, 3) := by decide +kernel
theorem dJ6_bitCount_0f7a4_21 : decode cJ6_bitCount_0f7a4 21 = .ok (.iand, 1) := by decide +kernel
theorem dJ6_bitCount_0f7a4_22 : decode cJ6_bitCount_0f7a4 22 = .ok (.iadd, 1) := by decide +kernel
theorem dJ6_bitCount_0f7a4_23 : decode cJ6_bitCount_0f7a4 23 = .ok (.istore_n 0, 1) := by decide +kernel
theorem dJ6_bitCount_0f7a4_24 : decode cJ6_bitCount_0f7a4 24 = .ok (.iload_n 0, 1) := by decide +kernel
theorem dJ6_bitCount_0f7a4_25 : decode cJ6_bitCount_0f7a4 25 = .ok (.iload_n 0, 1) := by decide +kernel
theorem dJ6_bitCount_0f7a4_26 : decode cJ6_bitCount_0f7a4 26 = .ok (.iconst 4, 1) := by decide +kernel
theorem dJ6_bitCount_0f7a4_27 : decode cJ6_bitCount_0f7a4 27 = .ok (.iushr, 1) := by decide +kernel
theorem dJ6_bitCount_0f7a4_28 : decode cJ6_bitCount_0f7a4 28 = .ok (.iadd, 1) := by decide +kernel
theorem dJ6_bitCount_0f7a4_29 : decode cJ6_bitCount_0f7a4 29 = .ok (.ldc_w 267, 3) := by decide +kernel
theorem dJ6_bitCount_0f7a4_32 : decode cJ6_bitCount_0f7a4 32 = .ok (.iand, 1) := by decide +kernel
theorem dJ6_bitCount_0f7a4_33 : decode cJ6_bitCount_0f7a4 33 = .ok (.istore_n 0, 1) := by decide +kernel
theorem dJ6_bitCount_0f7a4_34 : decode cJ6_bitCount_0f7a4 34 = .ok (.iload_n 0, 1) := by decide +kernel
theorem dJ6_bitCount_0f7a4_35 : decode cJ6_bitCount_0f7a4 35 = .ok (.iload_n 0, 1) := by decide +kernel
theorem dJ6_bitCount_0f7a4_36 : decode cJ6_bitCount_0f7a4 36 = .ok (.bipush 8, 2) := by decide +kernel
theorem dJ6_bitCount_0f7a4_38 : decode cJ6_bitCount_0f7a4 38 = .ok (.iushr, 1) := by decide +kernel
theorem dJ6_bitCount_0f7a4_39 : decode cJ6_bitCount_0f7a4 39 = .ok (.iadd, 1) := by decide +kernel
theorem dJ6_bitCount_0f7a4_40 : decode cJ6_bitCount_0f7a4 40 = .ok (.istore_n 0, 1) := by decide +kernel
theorem dJ6_bitCount_0f7a4_41 : decode cJ6_bitCount_0f7a4 41 = .ok (.iload_n 0, 1) := by decide +kernel
theorem dJ6_bitCount_0f7a4_42 : decode cJ6_bitCount_0f7a4 42 = .ok (.iload_n 0, 1) := by decide +kernel
theorem dJ6_bitCount_0f7a4_43 : decode cJ6_bitCount_0f7a4 43 = .ok (.bipush 16, 2) := by decide +kernel
theorem dJ6_bitCount_0f7a4_45 : decode cJ6_bitCount_0f7a4 45 = .ok (.iushr, 1) := by decide +kernel
theorem dJ6_bitCount_0f7a4_46 : decode cJ6_bitCount_0f7a4 46 = .ok (.iadd, 1) := by decide +kernel
theorem dJ6_bitCount_0f7a4_47 : decode cJ6_bitCount_0f7a4 47 = .ok (.istore_n 0, 1) := by decide +kernel
theorem dJ6_bitCount_0f7a4_48 : decode cJ6_bitCount_0f7a4 48 = .ok (.iload_n 0, 1) := by decide +kernel
theorem dJ6_bitCount_0f7a4_49 : decode cJ6_bitCount_0f7a4 49 = .ok (.bipush 63, 2) := by decide +kernel
theorem dJ6_bitCount_0f7a4_51 : decode cJ6_bitCount_0f7a4 51 = .ok (.iand, 1) := by decide +kernel
theorem dJ6_bitCount_0f7a4_52 : decode cJ6_bitCount_0f7a4 52 = .ok (.ireturn, 1) := by decide +kernel
set_option maxRecDepth 20000 in
theorem ggL_build_X3_build : GoodIn wsL_build wsX3_build := goodIn_ca (goodIn_ca (goodIn_r _ [7, 8, 9, 10, 11, 12, 13, 14, 15, 6, 16, 17, 18, 19, 20, 21, 22, 23, 24, 25, 26, 27, 28, 29, 30, 31, 32, 33, 34, 35, 36, 37, 38, 39, 40, 41, 42, 43, 44, 45, 46, 47, 48, 49, 50, 51, 52, 53] (by decide +kernel) (by decide +kernel)) (goodIn_sub (fun _ h => List.mem_cons_of_mem _ (List.mem_append_left _ (List.mem_append_right _ h))) (by decide +kernel))) (goodIn_sub (fun _ h => List.mem_cons_of_mem _ (List.mem_append_right _ h)) (by decide +kernel))
set_option maxRecDepth 20000 in
theorem gL_build_X3_build : GoodIn wsL_build (wsV RL 7 RX3 yX3_build wsX3_build) := goodIn_app (goodIn_of _ (by decide +kernel)) ggL_build_X3_build
theorem dL_build_0 : decode cL_build 0 = .ok (.aload 4, 2) := by decide +kernel
theorem dL_build_2 : decode cL_build 2 = .ok (.iconst 0, 1) := by decide +kernel
theorem dL_build_3 : decode cL_build 3 = .ok (.aload_n 0, 1) := by decide +kernel
theorem dL_build_4 : decode cL_build 4 = .ok (.iload_n 1, 1) := by decide +kernel
theorem dL_build_5 : decode cL_build 5 = .ok (.iload_n 2, 1) := by decide +kernel
theorem dL_build_6 : decode cL_build 6 = .ok (.iload_n 3, 1) := by decide +kernel
theorem dL_build_7 : decode cL_build 7 = .ok (.invokevirtual 7, 3) := by decide +kernel
theorem dL_build_10 : decode cL_build 10 = .ok (.i2l, 1) := by decide +kernel
theorem dL_build_11 : decode cL_build 11 = .ok (.lastore, 1) := by decide +kernel
theorem dL_build_12 : decode cL_build 12 = .ok (.goto 11, 3) := by decide +kernel
theorem dL_build_15 : decode cL_build 15 = .ok (.astore 5, 2) := by decide +kernel
theorem dL_build_17 : decode cL_build 17 = .ok (.iconst 1, 1) := by decide +kernel
theorem dL_build_18 : decode cL_build 18 = .ok (.ireturn, 1) := by decide +kernel
theorem dL_build_19 : decode cL_build 19 = .ok (.astore 5, 2) := by decide +kernel
theorem dL_build_21 : decode cL_build 21 = .ok (.iconst 2, 1) := by decide +kernel
theorem dL_build_22 : decode cL_build 22 = .ok (.ireturn, 1) := by decide +kernel
theorem dL_build_23 : decode cL_build 23 = .ok (.iconst 0, 1) := by decide +kernel
theorem dL_build_24 : decode cL_build 24 = .ok (.ireturn, 1) := by decide +kernel
set_option maxRecDepth 20000 in
theorem ggL_ask_X3_ask : GoodIn wsL_ask wsX3_ask := goodIn_ca (goodIn_ca (goodIn_ca (goodIn_r _ [8, 9, 10, 11, 12, 13, 14, 15, 16, 17, 18, 19, 20, 21, 22, 23, 24, 25, 26, 7, 27, 28, 29, 30, 31, 32, 33, 34, 35, 36, 37, 38, 39, 40, 41, 42, 43, 44, 45, 46, 47, 48, 49, 50, 51, 52, 53, 54, 55, 56, 57, 58, 59, 60, 61] (by decide +kernel) (by decide +kernel)) (goodIn_sub (fun _ h => List.mem_cons_of_mem _ (List.mem_append_left _ (List.mem_append_left _ (List.mem_append_right _ h)))) (by decide +kernel))) (goodIn_sub (fun _ h => List.mem_cons_of_mem _ (List.mem_append_left _ (List.mem_append_right _ h))) (by decide +kernel))) (goodIn_sub (fun _ h => List.mem_cons_of_mem _ (List.mem_append_right _ h)) (by decide +kernel))
set_option maxRecDepth 20000 in
theorem gL_ask_X3_ask : GoodIn wsL_ask (wsV RL 17 RX3 yX3_ask wsX3_ask) := goodIn_app (goodIn_of _ (by decide +kernel)) ggL_ask_X3_ask
theorem dL_ask_0 : decode cL_ask 0 = .ok (.aload 4, 2) := by decide +kernel
theorem dL_ask_2 : decode cL_ask 2 = .ok (.iconst 0, 1) := by decide +kernel
theorem dL_ask_3 : decode cL_ask 3 = .ok (.aload_n 0, 1) := by decide +kernel
theorem dL_ask_4 : decode cL_ask 4 = .ok (.iload_n 1, 1) := by decide +kernel
theorem dL_ask_5 : decode cL_ask 5 = .ok (.iload_n 2, 1) := by decide +kernel
theorem dL_ask_6 : decode cL_ask 6 = .ok (.iload_n 3, 1) := by decide +kernel
theorem dL_ask_7 : decode cL_ask 7 = .ok (.invokevirtual 17, 3) := by decide +kernel
theorem dL_ask_10 : decode cL_ask 10 = .ok (.i2l, 1) := by decide +kernel
theorem dL_ask_11 : decode cL_ask 11 = .ok (.lastore, 1) := by decide +kernel
theorem dL_ask_12 : decode cL_ask 12 = .ok (.goto 15, 3) := by decide +kernel
theorem dL_ask_15 : decode cL_ask 15 = .ok (.astore 5, 2) := by decide +kernel
theorem dL_ask_17 : decode cL_ask 17 = .ok (.iconst 1, 1) := by decide +kernel
theorem dL_ask_18 : decode cL_ask 18 = .ok (.ireturn, 1) := by decide +kernel
theorem dL_ask_19 : decode cL_ask 19 = .ok (.astore 5, 2) := by decide +kernel
theorem dL_ask_21 : decode cL_ask 21 = .ok (.iconst 2, 1) := by decide +kernel
theorem dL_ask_22 : decode cL_ask 22 = .ok (.ireturn, 1) := by decide +kernel
theorem dL_ask_23 : decode cL_ask 23 = .ok (.astore 5, 2) := by decide +kernel
theorem dL_ask_25 : decode cL_ask 25 = .ok (.iconst 3, 1) := by decide +kernel
theorem dL_ask_26 : decode cL_ask 26 = .ok (.ireturn, 1) := by decide +kernel
theorem dL_ask_27 : decode cL_ask 27 = .ok (.iconst 0, 1) := by decide +kernel
theorem dL_ask_28 : decode cL_ask 28 = .ok (.ireturn, 1) := by decide +kernel
set_option maxRecDepth 20000 in
theorem ggL_set_X3_set : GoodIn wsL_set wsX3_set := goodIn_ca (goodIn_ca (goodIn_r _ [7, 8, 9, 10, 11, 12, 13, 14, 15, 16, 17, 18, 19, 20, 21, 22, 23, 6, 24, 25, 26, 27, 28, 29, 30, 31, 32, 33, 34, 35, 36, 37, 38, 39, 40, 41, 42, 43, 44, 45, 46, 47, 48, 49, 50, 51] (by decide +kernel) (by decide +kernel)) (goodIn_sub (fun _ h => List.mem_cons_of_mem _ (List.mem_append_left _ (List.mem_append_right _ h))) (by decide +kernel))) (goodIn_sub (fun _ h => List.mem_cons_of_mem _ (List.mem_append_right _ h)) (by decide +kernel))
set_option maxRecDepth 20000 in
theorem gL_set_X3_set : GoodIn wsL_set (wsV RL 22 RX3 yX3_set wsX3_set) := goodIn_app (goodIn_of _ (by decide +kernel)) ggL_set_X3_set
theorem dL_set_0 : decode cL_set 0 = .ok (.aload 4, 2) := by decide +kernel
theorem dL_set_2 : decode cL_set 2 = .ok (.iconst 0, 1) := by decide +kernel
theorem dL_set_3 : decode cL_set 3 = .ok (.aload_n 0, 1) := by decide +kernel
theorem dL_set_4 : decode cL_set 4 = .ok (.iload_n 1, 1) := by decide +kernel
theorem dL_set_5 : decode cL_set 5 = .ok (.iload_n 2, 1) := by decide +kernel
theorem dL_set_6 : decode cL_set 6 = .ok (.iload_n 3, 1) := by decide +kernel
theorem dL_set_7 : decode cL_set 7 = .ok (.invokevirtual 22, 3) := by decide +kernel
theorem dL_set_10 : decode cL_set 10 = .ok (.i2l, 1) := by decide +kernel
theorem dL_set_11 : decode cL_set 11 = .ok (.lastore, 1) := by decide +kernel
theorem dL_set_12 : decode cL_set 12 = .ok (.goto 11, 3) := by decide +kernel
theorem dL_set_15 : decode cL_set 15 = .ok (.astore 5, 2) := by decide +kernel
theorem dL_set_17 : decode cL_set 17 = .ok (.iconst 1, 1) := by decide +kernel
theorem dL_set_18 : decode cL_set 18 = .ok (.ireturn, 1) := by decide +kernel
theorem dL_set_19 : decode cL_set 19 = .ok (.astore 5, 2) := by decide +kernel
theorem dL_set_21 : decode cL_set 21 = .ok (.iconst 2, 1) := by decide +kernel
theorem dL_set_22 : decode cL_set 22 = .ok (.ireturn, 1) := by decide +kernel
theorem dL_set_23 : decode cL_set 23 = .ok (.iconst 0, 1) := by decide +kernel
theorem dL_set_24 : decode cL_set 24 = .ok (.ireturn, 1) := by decide +kernel
set_option maxRecDepth 20000 in
theorem ggL_whisper_X3_whisper : GoodIn wsL_whisper wsX3_whisper := goodIn_ca (goodIn_ca (goodIn_r _ [7, 8, 9, 10, 11, 12, 13, 14, 15, 16, 17, 18, 19, 20, 6, 21, 22, 23, 24, 25, 26, 27, 28, 29, 30, 31, 32, 33, 34, 35, 36, 37, 38, 39, 40, 41, 42, 43, 44, 45, 46, 47, 48, 49, 50, 51, 52, 53, 54, 55, 56, 57, 58, 59, 60, 61, 62, 63, 64, 65, 66, 67, 68, 69, 70, 71, 72, 73, 74, 75, 76, 77, 78, 79, 80, 81, 82, 83, 84, 85, 86, 87, 88, 89, 90] (by decide +kernel) (by decide +kernel)) (goodIn_sub (fun _ h => List.mem_cons_of_mem _ (List.mem_append_left _ (List.mem_append_right _ h))) (by decide +kernel))) (goodIn_sub (fun _ h => List.mem_cons_of_mem _ (List.mem_append_right _ h)) (by decide +kernel))
set_option maxRecDepth 20000 in
theorem gL_whisper_X3_whisper : GoodIn wsL_whisper (wsV RL 25 RX3 yX3_whisper wsX3_whisper) := goodIn_app (goodIn_of _ (by decide +kernel)) ggL_whisper_X3_whisper
theorem dL_whisper_0 : decode cL_whisper 0 = .ok (.aload_n 3, 1) := by decide +kernel
theorem dL_whisper_1 : decode cL_whisper 1 = .ok (.iconst 0, 1) := by decide +kernel
theorem dL_whisper_2 : decode cL_whisper 2 = .ok (.aload_n 0, 1) := by decide +kernel
theorem dL_whisper_3 : decode cL_whisper 3 = .ok (.iload_n 1, 1) := by decide +kernel
theorem dL_whisper_4 : decode cL_whisper 4 = .ok (.iload_n 2, 1) := by decide +kernel
theorem dL_whisper_5 : decode cL_whisper 5 = .ok (.invokevirtual 25, 3) := by decide +kernel
theorem dL_whisper_8 : decode cL_whisper 8 = .ok (.ifCond .eq 7, 3) := by decide +kernel
theorem dL_whisper_11 : decode cL_whisper 11 = .ok (.lconst 1, 1) := by decide +kernel
theorem dL_whisper_12 : decode cL_whisper 12 = .ok (.goto 4, 3) := by decide +kernel
theorem dL_whisper_15 : decode cL_whisper 15 = .ok (.lconst 0, 1) := by decide +kernel
theorem dL_whisper_16 : decode cL_whisper 16 = .ok (.lastore, 1) := by decide +kernel
theorem dL_whisper_17 : decode cL_whisper 17 = .ok (.goto 11, 3) := by decide +kernel
theorem dL_whisper_20 : decode cL_whisper 20 = .ok (.astore 4, 2) := by decide +kernel
theorem dL_whisper_22 : decode cL_whisper 22 = .ok (.iconst 1, 1) := by decide +kernel
theorem dL_whisper_23 : decode cL_whisper 23 = .ok (.ireturn, 1) := by decide +kernel
theorem dL_whisper_24 : decode cL_whisper 24 = .ok (.astore 4, 2) := by decide +kernel
theorem dL_whisper_26 : decode cL_whisper 26 = .ok (.iconst 2, 1) := by decide +kernel
theorem dL_whisper_27 : decode cL_whisper 27 = .ok (.ireturn, 1) := by decide +kernel
theorem dL_whisper_28 : decode cL_whisper 28 = .ok (.iconst 0, 1) := by decide +kernel
theorem dL_whisper_29 : decode cL_whisper 29 = .ok (.ireturn, 1) := by decide +kernel
set_option maxRecDepth 20000 in
theorem ggL_door_X3_door : GoodIn wsL_door wsX3_door := goodIn_ca (goodIn_r _ [6, 7, 8, 9, 10, 11, 12, 13, 14, 15, 16, 17, 18, 5, 19, 20, 21, 22, 23, 24, 25, 26, 27, 28, 29, 30, 31, 32, 33, 34, 35, 36, 37, 38, 39, 40, 41, 42, 43, 44, 45, 46, 47, 48, 49, 50, 51, 52, 53, 54, 55, 56, 57] (by decide +kernel) (by decide +kernel)) (goodIn_sub (fun _ h => List.mem_cons_of_mem _ (List.mem_append_right _ h)) (by decide +kernel))
set_option maxRecDepth 20000 in
theorem gL_door_X3_door : GoodIn wsL_door (wsV RL 29 RX3 yX3_door wsX3_door) := goodIn_app (goodIn_of _ (by decide +kernel)) ggL_door_X3_door
theorem dL_door_0 : decode cL_door 0 = .ok (.aload_n 3, 1) := by decide +kernel
theorem dL_door_1 : decode cL_door 1 = .ok (.iconst 0, 1) := by decide +kernel
theorem dL_door_2 : decode cL_door 2 = .ok (.aload_n 0, 1) := by decide +kernel
theorem dL_door_3 : decode cL_door 3 = .ok (.iload_n 1, 1) := by decide +kernel
theorem dL_door_4 : decode cL_door 4 = .ok (.iload_n 2, 1) := by decide +kernel
theorem dL_door_5 : decode cL_door 5 = .ok (.invokevirtual 29, 3) := by decide +kernel
theorem dL_door_8 : decode cL_door 8 = .ok (.i2l, 1) := by decide +kernel
theorem dL_door_9 : decode cL_door 9 = .ok (.lastore, 1) := by decide +kernel
theorem dL_door_10 : decode cL_door 10 = .ok (.goto 7, 3) := by decide +kernel
theorem dL_door_13 : decode cL_door 13 = .ok (.astore 4, 2) := by decide +kernel
theorem dL_door_15 : decode cL_door 15 = .ok (.iconst 1, 1) := by decide +kernel
theorem dL_door_16 : decode cL_door 16 = .ok (.ireturn, 1) := by decide +kernel
theorem dL_door_17 : decode cL_door 17 = .ok (.iconst 0, 1) := by decide +kernel
theorem dL_door_18 : decode cL_door 18 = .ok (.ireturn, 1) := by decide +kernel
set_option maxRecDepth 20000 in
theorem ggL_asks_X3_asks : GoodIn wsL_asks wsX3_asks := goodIn_ca (goodIn_r _ [6, 7, 8, 9, 10, 11, 12, 13, 14, 15, 16, 17, 18, 19, 5, 20, 21, 22, 23, 24, 25, 26, 27, 28, 29, 30, 31, 32, 33, 34, 35, 36, 37, 38, 39, 40, 41, 42, 43, 44, 45, 46, 47, 48, 49, 50] (by decide +kernel) (by decide +kernel)) (goodIn_sub (fun _ h => List.mem_cons_of_mem _ (List.mem_append_right _ h)) (by decide +kernel))
set_option maxRecDepth 20000 in
theorem gL_asks_X3_asks : GoodIn wsL_asks (wsV RL 33 RX3 yX3_asks wsX3_asks) := goodIn_app (goodIn_of _ (by decide +kernel)) ggL_asks_X3_asks
theorem dL_asks_0 : decode cL_asks 0 = .ok (.aload 4, 2) := by decide +kernel
theorem dL_asks_2 : decode cL_asks 2 = .ok (.iconst 0, 1) := by decide +kernel
theorem dL_asks_3 : decode cL_asks 3 = .ok (.aload_n 0, 1) := by decide +kernel
theorem dL_asks_4 : decode cL_asks 4 = .ok (.iload_n 1, 1) := by decide +kernel
theorem dL_asks_5 : decode cL_asks 5 = .ok (.iload_n 2, 1) := by decide +kernel
theorem dL_asks_6 : decode cL_asks 6 = .ok (.iload_n 3, 1) := by decide +kernel
theorem dL_asks_7 : decode cL_asks 7 = .ok (.invokevirtual 33, 3) := by decide +kernel
theorem dL_asks_10 : decode cL_asks 10 = .ok (.i2l, 1) := by decide +kernel
theorem dL_asks_11 : decode cL_asks 11 = .ok (.lastore, 1) := by decide +kernel
theorem dL_asks_12 : decode cL_asks 12 = .ok (.goto 7, 3) := by decide +kernel
theorem dL_asks_15 : decode cL_asks 15 = .ok (.astore 5, 2) := by decide +kernel
theorem dL_asks_17 : decode cL_asks 17 = .ok (.iconst 1, 1) := by decide +kernel
theorem dL_asks_18 : decode cL_asks 18 = .ok (.ireturn, 1) := by decide +kernel
theorem dL_asks_19 : decode cL_asks 19 = .ok (.iconst 0, 1) := by decide +kernel
theorem dL_asks_20 : decode cL_asks 20 = .ok (.ireturn, 1) := by decide +kernel
set_option maxRecDepth 20000 in
theorem ggL_voice_X3_voice : GoodIn wsL_voice wsX3_voice := goodIn_ca (goodIn_r _ [6, 7, 8, 9, 10, 11, 12, 13, 5, 14, 15, 16, 17, 18, 19, 20, 21, 22, 23, 24, 25, 26, 27, 28, 29, 30, 31, 32, 33, 34, 35, 36, 37, 38] (by decide +kernel) (by decide +kernel)) (goodIn_sub (fun _ h => List.mem_cons_of_mem _ (List.mem_append_right _ h)) (by decide +kernel))
set_option maxRecDepth 20000 in
theorem gL_voice_X3_voice : GoodIn wsL_voice (wsV RL 36 RX3 yX3_voice wsX3_voice) := goodIn_app (goodIn_of _ (by decide +kernel)) ggL_voice_X3_voice
theorem dL_voice_0 : decode cL_voice 0 = .ok (.aload_n 3, 1) := by decide +kernel
theorem dL_voice_1 : decode cL_voice 1 = .ok (.iconst 0, 1) := by decide +kernel
theorem dL_voice_2 : decode cL_voice 2 = .ok (.aload_n 0, 1) := by decide +kernel
theorem dL_voice_3 : decode cL_voice 3 = .ok (.iload_n 1, 1) := by decide +kernel
theorem dL_voice_4 : decode cL_voice 4 = .ok (.iload_n 2, 1) := by decide +kernel
theorem dL_voice_5 : decode cL_voice 5 = .ok (.invokevirtual 36, 3) := by decide +kernel
theorem dL_voice_8 : decode cL_voice 8 = .ok (.i2l, 1) := by decide +kernel
theorem dL_voice_9 : decode cL_voice 9 = .ok (.lastore, 1) := by decide +kernel
theorem dL_voice_10 : decode cL_voice 10 = .ok (.goto 7, 3) := by decide +kernel
theorem dL_voice_13 : decode cL_voice 13 = .ok (.astore 4, 2) := by decide +kernel
theorem dL_voice_15 : decode cL_voice 15 = .ok (.iconst 1, 1) := by decide +kernel
theorem dL_voice_16 : decode cL_voice 16 = .ok (.ireturn, 1) := by decide +kernel
theorem dL_voice_17 : decode cL_voice 17 = .ok (.iconst 0, 1) := by decide +kernel
theorem dL_voice_18 : decode cL_voice 18 = .ok (.ireturn, 1) := by decide +kernel
set_option maxRecDepth 20000 in
theorem ggL_count_X3_count : GoodIn wsL_count wsX3_count := goodIn_ca (goodIn_r _ [6, 7, 8, 9, 10, 11, 5, 12, 13, 14, 15, 16, 17, 18, 19, 20, 21, 22, 23, 24, 25, 26, 27, 28, 29, 30, 31, 32, 33, 34, 35, 36, 37, 38, 39, 40, 41, 42, 43, 44, 45, 46, 47, 48, 49, 50, 51, 52, 53, 54, 55, 56, 57, 58, 59, 60] (by decide +kernel) (by decide +kernel)) (goodIn_sub (fun _ h => List.mem_cons_of_mem _ (List.mem_append_right _ h)) (by decide +kernel))
set_option maxRecDepth 20000 in
theorem gL_count_X3_count : GoodIn wsL_count (wsV RL 39 RX3 yX3_count wsX3_count) := goodIn_app (goodIn_of _ (by decide +kernel)) ggL_count_X3_count
theorem dL_count_0 : decode cL_count 0 = .ok (.aload_n 2, 1) := by decide +kernel
theorem dL_count_1 : decode cL_count 1 = .ok (.iconst 0, 1) := by decide +kernel
theorem dL_count_2 : decode cL_count 2 = .ok (.aload_n 0, 1) := by decide +kernel
theorem dL_count_3 : decode cL_count 3 = .ok (.iload_n 1, 1) := by decide +kernel
theorem dL_count_4 : decode cL_count 4 = .ok (.invokevirtual 39, 3) := by decide +kernel
theorem dL_count_7 : decode cL_count 7 = .ok (.i2l, 1) := by decide +kernel
theorem dL_count_8 : decode cL_count 8 = .ok (.lastore, 1) := by decide +kernel
theorem dL_count_9 : decode cL_count 9 = .ok (.goto 6, 3) := by decide +kernel
theorem dL_count_12 : decode cL_count 12 = .ok (.astore_n 3, 1) := by decide +kernel
theorem dL_count_13 : decode cL_count 13 = .ok (.iconst 1, 1) := by decide +kernel
theorem dL_count_14 : decode cL_count 14 = .ok (.ireturn, 1) := by decide +kernel
theorem dL_count_15 : decode cL_count 15 = .ok (.iconst 0, 1) := by decide +kernel
theorem dL_count_16 : decode cL_count 16 = .ok (.ireturn, 1) := by decide +kernel
set_option maxRecDepth 20000 in
theorem ggL_reach_X3_reach : GoodIn wsL_reach wsX3_reach := goodIn_ca (goodIn_r _ [6, 7, 8, 9, 10, 11, 12, 13, 14, 15, 16, 17, 18, 19, 20, 21, 22, 23, 24, 25, 26, 27, 28, 29, 30, 31, 32, 33, 34, 35, 36, 37, 38, 39, 40, 41, 42, 43, 44, 45, 46, 47, 48] (by decide +kernel) (by decide +kernel)) (goodIn_sub (fun _ h => List.mem_cons_of_mem _ (List.mem_append_right _ h)) (by decide +kernel))
set_option maxRecDepth 20000 in
theorem gL_reach_X3_reach : GoodIn wsL_reach (wsV RL 43 RX3 yX3_reach wsX3_reach) := goodIn_app (goodIn_of _ (by decide +kernel)) ggL_reach_X3_reach
theorem dL_reach_0 : decode cL_reach 0 = .ok (.aload_n 2, 1) := by decide +kernel
theorem dL_reach_1 : decode cL_reach 1 = .ok (.iconst 0, 1) := by decide +kernel
theorem dL_reach_2 : decode cL_reach 2 = .ok (.aload_n 0, 1) := by decide +kernel
theorem dL_reach_3 : decode cL_reach 3 = .ok (.iload_n 1, 1) := by decide +kernel
theorem dL_reach_4 : decode cL_reach 4 = .ok (.invokevirtual 43, 3) := by decide +kernel
theorem dL_reach_7 : decode cL_reach 7 = .ok (.i2l, 1) := by decide +kernel
theorem dL_reach_8 : decode cL_reach 8 = .ok (.lastore, 1) := by decide +kernel
theorem dL_reach_9 : decode cL_reach 9 = .ok (.goto 6, 3) := by decide +kernel
theorem dL_reach_12 : decode cL_reach 12 = .ok (.astore_n 3, 1) := by decide +kernel
theorem dL_reach_13 : decode cL_reach 13 = .ok (.iconst 1, 1) := by decide +kernel
theorem dL_reach_14 : decode cL_reach 14 = .ok (.ireturn, 1) := by decide +kernel
theorem dL_reach_15 : decode cL_reach 15 = .ok (.iconst 0, 1) := by decide +kernel
theorem dL_reach_16 : decode cL_reach 16 = .ok (.ireturn, 1) := by decide +kernel
set_option maxRecDepth 20000 in
theorem ggL_pass_X3_pass : GoodIn wsL_pass wsX3_pass := goodIn_ca (goodIn_r _ [6, 7, 8, 9, 10, 11, 5, 12, 13, 14, 15, 16, 17, 18, 19, 20, 21, 22, 23, 24, 25, 26, 27, 28, 29, 30, 31, 32, 33, 34, 35, 36, 37, 38, 39, 40, 41, 42, 43, 44, 45, 46, 47, 48, 49, 50, 51, 52, 53, 54, 55, 56, 57, 58, 59, 60, 61, 62, 63, 64, 65, 66, 67, 68, 69, 70, 71, 72, 73, 74, 75, 76, 77, 78, 79, 80, 81, 82, 83, 84, 85, 86, 87, 88, 89, 90, 91, 92, 93, 94, 95, 96, 97, 98, 99, 100, 101, 102, 103, 104, 105, 106, 107, 108, 109, 110, 111, 112, 113, 114, 115, 116, 117, 118, 119, 120, 121, 122, 123, 124, 125, 126, 127, 128, 129, 130, 131, 132, 133, 134, 135, 136, 137, 138, 139, 140, 141, 142, 143, 144, 145, 146, 147, 148, 149, 150, 151, 152, 153, 154, 155, 156, 157, 158, 159, 160, 161] (by decide +kernel) (by decide +kernel)) (goodIn_sub (fun _ h => List.mem_cons_of_mem _ (List.mem_append_right _ h)) (by decide +kernel))
set_option maxRecDepth 20000 in
theorem gL_pass_X3_pass : GoodIn wsL_pass (wsV RL 46 RX3 yX3_pass wsX3_pass) := goodIn_app (goodIn_of _ (by decide +kernel)) ggL_pass_X3_pass
theorem dL_pass_0 : decode cL_pass 0 = .ok (.aload_n 2, 1) := by decide +kernel
theorem dL_pass_1 : decode cL_pass 1 = .ok (.iconst 0, 1) := by decide +kernel
theorem dL_pass_2 : decode cL_pass 2 = .ok (.aload_n 0, 1) := by decide +kernel
theorem dL_pass_3 : decode cL_pass 3 = .ok (.iload_n 1, 1) := by decide +kernel
theorem dL_pass_4 : decode cL_pass 4 = .ok (.invokevirtual 46, 3) := by decide +kernel
theorem dL_pass_7 : decode cL_pass 7 = .ok (.i2l, 1) := by decide +kernel
theorem dL_pass_8 : decode cL_pass 8 = .ok (.lastore, 1) := by decide +kernel
theorem dL_pass_9 : decode cL_pass 9 = .ok (.goto 6, 3) := by decide +kernel
theorem dL_pass_12 : decode cL_pass 12 = .ok (.astore_n 3, 1) := by decide +kernel
theorem dL_pass_13 : decode cL_pass 13 = .ok (.iconst 1, 1) := by decide +kernel
theorem dL_pass_14 : decode cL_pass 14 = .ok (.ireturn, 1) := by decide +kernel
theorem dL_pass_15 : decode cL_pass 15 = .ok (.iconst 0, 1) := by decide +kernel
theorem dL_pass_16 : decode cL_pass 16 = .ok (.ireturn, 1) := by decide +kernel
set_option maxRecDepth 20000 in
theorem ggL_opens_X3_opens : GoodIn wsL_opens wsX3_opens := goodIn_ca (goodIn_r _ [6, 7, 8, 9, 10, 11, 12, 13, 14, 15, 16, 17, 18, 19, 20, 21, 22, 23, 24, 25, 26, 27, 28, 29, 30, 31, 32, 33, 34, 35, 36, 37, 38, 39, 40, 41, 42, 43, 44, 45, 46, 47, 48, 49, 50, 51, 52, 53, 54, 55, 56, 57, 58, 59, 60, 61, 62, 63, 64, 65, 66, 67, 68, 69, 70, 71, 72, 73, 74, 75, 76, 77, 78, 79, 80, 81, 82, 83, 84, 85, 86, 87, 88, 89, 90, 91, 92, 93, 94, 95, 96, 97, 98, 99, 100, 101, 102, 103, 104, 105, 106, 107, 108, 109, 110, 111, 112, 113, 114, 115, 116, 117, 118, 119, 120, 121, 122, 123, 124, 125, 126, 127, 128, 129, 130, 131, 132, 133, 134, 135, 136, 137, 138, 139, 140, 141, 142, 143, 144, 145, 146, 147, 148, 149, 150, 151, 152, 153, 154, 155, 156, 157, 158, 159, 160, 161, 162, 163, 164, 165, 166, 167, 168, 169, 170, 171, 172, 173, 174, 175, 176, 177, 178, 179, 180, 181] (by decide +kernel) (by decide +kernel)) (goodIn_sub (fun _ h => List.mem_cons_of_mem _ (List.mem_append_right _ h)) (by decide +kernel))
set_option maxRecDepth 20000 in
theorem gL_opens_X3_opens : GoodIn wsL_opens (wsV RL 49 RX3 yX3_opens wsX3_opens) := goodIn_app (goodIn_of _ (by decide +kernel)) ggL_opens_X3_opens
theorem dL_opens_0 : decode cL_opens 0 = .ok (.aload_n 2, 1) := by decide +kernel
theorem dL_opens_1 : decode cL_opens 1 = .ok (.iconst 0, 1) := by decide +kernel
theorem dL_opens_2 : decode cL_opens 2 = .ok (.aload_n 0, 1) := by decide +kernel
theorem dL_opens_3 : decode cL_opens 3 = .ok (.iload_n 1, 1) := by decide +kernel
theorem dL_opens_4 : decode cL_opens 4 = .ok (.invokevirtual 49, 3) := by decide +kernel
theorem dL_opens_7 : decode cL_opens 7 = .ok (.i2l, 1) := by decide +kernel
theorem dL_opens_8 : decode cL_opens 8 = .ok (.lastore, 1) := by decide +kernel
theorem dL_opens_9 : decode cL_opens 9 = .ok (.goto 6, 3) := by decide +kernel
theorem dL_opens_12 : decode cL_opens 12 = .ok (.astore_n 3, 1) := by decide +kernel
theorem dL_opens_13 : decode cL_opens 13 = .ok (.iconst 1, 1) := by decide +kernel
theorem dL_opens_14 : decode cL_opens 14 = .ok (.ireturn, 1) := by decide +kernel
theorem dL_opens_15 : decode cL_opens 15 = .ok (.iconst 0, 1) := by decide +kernel
theorem dL_opens_16 : decode cL_opens 16 = .ok (.ireturn, 1) := by decide +kernel
set_option maxRecDepth 20000 in
theorem ggL_would_X3_would : GoodIn wsL_would wsX3_would := goodIn_ca (goodIn_ca (goodIn_r _ [7, 8, 9, 10, 11, 12, 13, 14, 15, 16, 17, 18, 19, 20, 6, 21, 22, 23, 24, 25, 26, 27, 28, 29, 30, 31, 32, 33, 34, 35, 36, 37, 38, 39, 40, 41, 42, 43, 44, 45, 46, 47, 48, 49, 50, 51, 52, 53, 54, 55, 56, 57, 58, 59, 60, 61, 62, 63, 64, 65, 66, 67, 68, 69, 70, 71, 72, 73, 74, 75, 76, 77, 78, 79, 80, 81, 82, 83, 84, 85, 86, 87, 88, 89, 90, 91, 92, 93, 94, 95, 96, 97, 98, 99, 100, 101, 102, 103, 104, 105, 106, 107, 108, 109, 110, 111, 112, 113, 114, 115, 116, 117, 118, 119, 120, 121, 122, 123, 124, 125, 126, 127, 128, 129, 130, 131, 132, 133, 134, 135, 136, 137, 138, 139, 140, 141, 142, 143, 144, 145, 146, 147, 148, 149, 150, 151, 152, 153, 154, 155, 156, 157, 158, 159, 160, 161, 162, 163, 164, 165, 166, 167, 168, 169, 170, 171, 172, 173, 174, 175, 176, 177, 178, 179, 180, 181, 182, 183, 184, 185, 186, 187, 188, 189, 190, 191, 192, 193, 194, 195, 196, 197, 198, 199, 200, 201] (by decide +kernel) (by decide +kernel)) (goodIn_sub (fun _ h => List.mem_cons_of_mem _ (List.mem_append_left _ (List.mem_append_right _ h))) (by decide +kernel))) (goodIn_sub (fun _ h => List.mem_cons_of_mem _ (List.mem_append_right _ h)) (by decide +kernel))
set_option maxRecDepth 20000 in
theorem gL_would_X3_would : GoodIn wsL_would (wsV RL 52 RX3 yX3_would wsX3_would) := goodIn_app (goodIn_of _ (by decide +kernel)) ggL_would_X3_would
theorem dL_would_0 : decode cL_would 0 = .ok (.aload_n 3, 1) := by decide +kernel
theorem dL_would_1 : decode cL_would 1 = .ok (.iconst 0, 1) := by decide +kernel
theorem dL_would_2 : decode cL_would 2 = .ok (.aload_n 0, 1) := by decide +kernel
theorem dL_would_3 : decode cL_would 3 = .ok (.iload_n 1, 1) := by decide +kernel
theorem dL_would_4 : decode cL_would 4 = .ok (.iload_n 2, 1) := by decide +kernel
theorem dL_would_5 : decode cL_would 5 = .ok (.invokevirtual 52, 3) := by decide +kernel
theorem dL_would_8 : decode cL_would 8 = .ok (.i2l, 1) := by decide +kernel
theorem dL_would_9 : decode cL_would 9 = .ok (.lastore, 1) := by decide +kernel
theorem dL_would_10 : decode cL_would 10 = .ok (.goto 11, 3) := by decide +kernel
theorem dL_would_13 : decode cL_would 13 = .ok (.astore 4, 2) := by decide +kernel
theorem dL_would_15 : decode cL_would 15 = .ok (.iconst 1, 1) := by decide +kernel
theorem dL_would_16 : decode cL_would 16 = .ok (.ireturn, 1) := by decide +kernel
theorem dL_would_17 : decode cL_would 17 = .ok (.astore 4, 2) := by decide +kernel
theorem dL_would_19 : decode cL_would 19 = .ok (.iconst 2, 1) := by decide +kernel
theorem dL_would_20 : decode cL_would 20 = .ok (.ireturn, 1) := by decide +kernel
theorem dL_would_21 : decode cL_would 21 = .ok (.iconst 0, 1) := by decide +kernel
theorem dL_would_22 : decode cL_would 22 = .ok (.ireturn, 1) := by decide +kernel
set_option maxRecDepth 20000 in
theorem ggL_best_X3_best : GoodIn wsL_best wsX3_best := goodIn_ca (goodIn_r _ [6, 7, 8, 9, 10, 11, 12, 5, 13, 14, 15, 16, 17, 18, 19, 20, 21, 22, 23, 24, 25, 26, 27, 28, 29, 30, 31, 32, 33, 34, 35, 36, 37, 38, 39, 40, 41, 42, 43, 44, 45, 46, 47, 48, 49, 50, 51, 52, 53, 54, 55, 56, 57, 58, 59, 60, 61, 62, 63, 64, 65, 66, 67, 68, 69, 70, 71, 72, 73, 74, 75, 76, 77, 78, 79, 80, 81, 82, 83, 84, 85, 86, 87, 88, 89, 90, 91, 92, 93, 94, 95, 96, 97, 98, 99, 100, 101, 102, 103, 104, 105, 106, 107, 108, 109, 110, 111, 112, 113, 114, 115, 116, 117, 118, 119, 120, 121, 122, 123, 124, 125, 126, 127, 128, 129, 130, 131, 132, 133, 134, 135, 136, 137, 138, 139, 140, 141, 142, 143, 144, 145, 146, 147, 148, 149, 150, 151, 152, 153, 154, 155, 156, 157, 158, 159, 160, 161, 162, 163, 164, 165, 166, 167, 168, 169, 170, 171, 172, 173, 174, 175, 176, 177, 178, 179, 180, 181, 182, 183, 184, 185, 186, 187, 188, 189, 190, 191, 192, 193, 194, 195, 196, 197, 198, 199, 200, 201, 202, 203, 204, 205] (by decide +kernel) (by decide +kernel)) (goodIn_sub (fun _ h => List.mem_cons_of_mem _ (List.mem_append_right _ h)) (by decide +kernel))
set_option maxRecDepth 20000 in
theorem gL_best_X3_best : GoodIn wsL_best (wsV RL 55 RX3 yX3_best wsX3_best) := goodIn_app (goodIn_of _ (by decide +kernel)) ggL_best_X3_best
theorem dL_best_0 : decode cL_best 0 = .ok (.aload_n 2, 1) := by decide +kernel
theorem dL_best_1 : decode cL_best 1 = .ok (.iconst 0, 1) := by decide +kernel
theorem dL_best_2 : decode cL_best 2 = .ok (.aload_n 0, 1) := by decide +kernel
theorem dL_best_3 : decode cL_best 3 = .ok (.iload_n 1, 1) := by decide +kernel
theorem dL_best_4 : decode cL_best 4 = .ok (.invokevirtual 55, 3) := by decide +kernel
theorem dL_best_7 : decode cL_best 7 = .ok (.i2l, 1) := by decide +kernel
theorem dL_best_8 : decode cL_best 8 = .ok (.lastore, 1) := by decide +kernel
theorem dL_best_9 : decode cL_best 9 = .ok (.goto 6, 3) := by decide +kernel
theorem dL_best_12 : decode cL_best 12 = .ok (.astore_n 3, 1) := by decide +kernel
theorem dL_best_13 : decode cL_best 13 = .ok (.iconst 1, 1) := by decide +kernel
theorem dL_best_14 : decode cL_best 14 = .ok (.ireturn, 1) := by decide +kernel
theorem dL_best_15 : decode cL_best 15 = .ok (.iconst 0, 1) := by decide +kernel
theorem dL_best_16 : decode cL_best 16 = .ok (.ireturn, 1) := by decide +kernel
set_option maxRecDepth 20000 in
theorem ggL_law_X3_init : GoodIn wsL_law wsX3_init := goodIn_r _ [9, 10, 11, 12, 13, 14, 15, 16, 17, 18, 19, 20, 21, 22, 23, 24, 25, 26, 27, 28, 29, 30, 31, 32, 33, 34, 35, 36, 37, 38, 39, 40, 41, 42, 43, 44, 45, 46, 47, 569, 570, 571, 572, 573, 559, 560, 574, 575, 576, 577, 578, 579, 580, 581, 582, 583, 584, 585, 586, 587, 588, 589, 590, 591, 592, 593, 594] (by decide +kernel) (by decide +kernel)
set_option maxRecDepth 20000 in
theorem gL_law_X3_init : GoodIn wsL_law (wsX3_init) := ggL_law_X3_init
set_option maxRecDepth 20000 in
theorem ggL_law_X4_init : GoodIn wsL_law wsX4_init := goodIn_r _ [50, 51, 11, 12, 34, 52, 53, 54, 55, 56, 57, 561, 562, 563, 564, 565, 566, 567, 568] (by decide +kernel) (by decide +kernel)
set_option maxRecDepth 20000 in
theorem gL_law_X4_init : GoodIn wsL_law (wsX4_init) := ggL_law_X4_init
set_option maxRecDepth 20000 in
theorem ggL_law_L_build : GoodIn wsL_law wsL_build := goodIn_ca (goodIn_ca (goodIn_r _ [61, 62, 63, 64, 65, 66, 2, 67, 68, 69, 70, 71, 16, 72, 73, 74, 75, 76, 77, 78, 79, 80, 81, 82, 83, 84, 15, 85, 86, 23, 87, 88, 89, 559, 560, 569, 570, 571, 572, 573, 581, 582, 583, 584, 585, 586, 587, 588, 589, 590, 591, 592, 593, 594] (by decide +kernel) (by decide +kernel)) (goodIn_sub (fun _ h => List.mem_append_left _ (List.mem_append_left _ (List.mem_append_right _ h))) (by decide +kernel))) (goodIn_sub (fun _ h => List.mem_append_left _ (List.mem_append_right _ h)) (by decide +kernel))
set_option maxRecDepth 20000 in
theorem gL_law_L_build : GoodIn wsL_law (va_wsS RL 62 yL_build wsL_build) := goodIn_app (goodIn_of _ (by decide +kernel)) ggL_law_L_build
set_option maxRecDepth 20000 in
theorem ggL_law_X4_build : GoodIn wsL_law wsX4_build := goodIn_r _ [93, 94, 95, 34, 52, 96, 97, 98, 99, 100, 101, 5, 102, 103, 104, 105, 106, 561, 562, 563, 564, 565, 566, 567, 568] (by decide +kernel) (by decide +kernel)
set_option maxRecDepth 20000 in
theorem gL_law_X4_build : GoodIn wsL_law (wsV RL 67 RX4 yX4_build wsX4_build) := goodIn_app (goodIn_of _ (by decide +kernel)) ggL_law_X4_build
set_option maxRecDepth 20000 in
theorem ggL_law_X4_thrown : GoodIn wsL_law wsX4_thrown := goodIn_r _ [110, 94, 561, 562, 563, 564, 565, 566, 567, 568] (by decide +kernel) (by decide +kernel)
set_option maxRecDepth 20000 in
theorem gL_law_X4_thrown : GoodIn wsL_law (wsV RL 68 RX4 yX4_thrown wsX4_thrown) := goodIn_app (goodIn_of _ (by decide +kernel)) ggL_law_X4_thrown
set_option maxRecDepth 20000 in
theorem ggL_law_L_ask : GoodIn wsL_law wsL_ask := goodIn_ca (goodIn_ca (goodIn_ca (goodIn_r _ [113, 114, 62, 63, 115, 116, 117, 2, 118, 119, 120, 68, 69, 70, 71, 16, 121, 122, 123, 124, 125, 126, 15, 127, 86, 73, 74, 75, 128, 129, 130, 30, 131, 132, 43, 133, 134, 135, 136, 44, 45, 559, 560, 569, 570, 571, 572, 573, 581, 582, 583, 584, 585, 586, 587, 588, 589, 590, 591, 592, 593, 594] (by decide +kernel) (by decide +kernel)) (goodIn_sub (fun _ h => List.mem_append_right _ h) (by decide +kernel))) (goodIn_sub (fun _ h => List.mem_append_left _ (List.mem_append_left _ (List.mem_append_right _ h))) (by decide +kernel))) (goodIn_sub (fun _ h => List.mem_append_left _ (List.mem_append_right _ h)) (by decide +kernel))
set_option maxRecDepth 20000 in
theorem gL_law_L_ask : GoodIn wsL_law (va_wsS RL 72 yL_ask wsL_ask) := goodIn_app (goodIn_of _ (by decide +kernel)) ggL_law_L_ask
set_option maxRecDepth 20000 in
theorem ggL_law_X4_ask : GoodIn wsL_law wsX4_ask := goodIn_r _ [140, 94, 141, 142, 143, 5, 144, 95, 100, 101, 102, 103, 104, 105, 106, 145, 146, 147, 148, 52, 149, 150, 151, 152, 153, 154, 155, 156, 53, 157, 158, 159, 160, 161, 162, 163, 164, 561, 562, 563, 564, 565, 566, 567, 568] (by decide +kernel) (by decide +kernel)
set_option maxRecDepth 20000 in
theorem gL_law_X4_ask : GoodIn wsL_law (wsV RL 74 RX4 yX4_ask wsX4_ask) := goodIn_app (goodIn_of _ (by decide +kernel)) ggL_law_X4_ask
set_option maxRecDepth 20000 in
theorem ggL_law_L_set : GoodIn wsL_law wsL_set := goodIn_ca (goodIn_ca (goodIn_r _ [167, 114, 62, 168, 169, 170, 2, 171, 119, 120, 68, 69, 16, 121, 172, 173, 124, 125, 126, 15, 127, 86, 79, 80, 81, 73, 74, 75, 76, 77, 78, 559, 560, 569, 570, 571, 572, 573, 581, 582, 583, 584, 585, 586, 587, 588, 589, 590, 591, 592, 593, 594] (by decide +kernel) (by decide +kernel)) (goodIn_sub (fun _ h => List.mem_append_right _ h) (by decide +kernel))) (goodIn_sub (fun _ h => List.mem_append_left _ (List.mem_append_left _ (List.mem_append_right _ h))) (by decide +kernel))
set_option maxRecDepth 20000 in
theorem gL_law_L_set : GoodIn wsL_law (va_wsS RL 75 yL_set wsL_set) := goodIn_app (goodIn_of _ (by decide +kernel)) ggL_law_L_set
set_option maxRecDepth 20000 in
theorem ggL_law_X4_set : GoodIn wsL_law wsX4_set := goodIn_r _ [177, 94, 141, 142, 143, 5, 144, 95, 100, 101, 102, 103, 104, 105, 106, 145, 146, 147, 148, 52, 161, 162, 163, 164, 561, 562, 563, 564, 565, 566, 567, 568] (by decide +kernel) (by decide +kernel)
set_option maxRecDepth 20000 in
theorem gL_law_X4_set : GoodIn wsL_law (wsV RL 77 RX4 yX4_set wsX4_set) := goodIn_app (goodIn_of _ (by decide +kernel)) ggL_law_X4_set
set_option maxRecDepth 20000 in
theorem ggL_law_L_whisper : GoodIn wsL_law wsL_whisper := goodIn_ca (goodIn_ca (goodIn_r _ [180, 114, 62, 181, 182, 183, 2, 184, 119, 120, 68, 69, 16, 124, 125, 126, 15, 127, 86, 73, 74, 75, 185, 186, 187, 188, 23, 189, 87, 190, 191, 192, 193, 30, 194, 195, 196, 197, 198, 199, 200, 201, 202, 27, 203, 204, 205, 206, 207, 208, 209, 210, 211, 212, 26, 213, 214, 215, 35, 36, 37, 38, 39, 559, 560, 569, 570, 571, 572, 573, 581, 582, 583, 584, 585, 586, 587, 588, 589, 590, 591, 592, 593, 594, 574, 575, 576, 577, 578, 579, 580] (by decide +kernel) (by decide +kernel)) (goodIn_sub (fun _ h => List.mem_append_right _ h) (by decide +kernel))) (goodIn_sub (fun _ h => List.mem_append_left _ (List.mem_append_left _ (List.mem_append_right _ h))) (by decide +kernel))
set_option maxRecDepth 20000 in
theorem gL_law_L_whisper : GoodIn wsL_law (va_wsS RL 78 yL_whisper wsL_whisper) := goodIn_app (goodIn_of _ (by decide +kernel)) ggL_law_L_whisper
set_option maxRecDepth 20000 in
theorem ggL_law_X4_whisper : GoodIn wsL_law wsX4_whisper := goodIn_r _ [219, 94, 141, 142, 143, 5, 144, 95, 100, 101, 102, 145, 146, 147, 148, 52, 220, 221, 222, 223, 224, 225, 226, 227, 161, 162, 163, 164, 157, 158, 159, 160, 53, 153, 154, 155, 156, 228, 229, 230, 231, 56, 55, 232, 233, 234, 235, 561, 562, 563, 564, 565, 566, 567, 568] (by decide +kernel) (by decide +kernel)
set_option maxRecDepth 20000 in
theorem gL_law_X4_whisper : GoodIn wsL_law (wsV RL 81 RX4 yX4_whisper wsX4_whisper) := goodIn_app (goodIn_of _ (by decide +kernel)) ggL_law_X4_whisper
set_option maxRecDepth 20000 in
theorem ggL_law_L_door : GoodIn wsL_law wsL_door := goodIn_ca (goodIn_r _ [238, 114, 239, 240, 241, 2, 242, 119, 120, 16, 121, 124, 125, 126, 15, 127, 86, 73, 74, 75, 243, 244, 245, 30, 246, 195, 196, 247, 132, 248, 249, 197, 250, 251, 252, 253, 45, 559, 560, 569, 570, 571, 572, 573, 581, 582, 583, 584, 585, 586, 587, 588, 589, 590, 591, 592, 593, 594] (by decide +kernel) (by decide +kernel)) (goodIn_sub (fun _ h => List.mem_append_right _ h) (by decide +kernel))
set_option maxRecDepth 20000 in
theorem gL_law_L_door : GoodIn wsL_law (va_wsS RL 82 yL_door wsL_door) := goodIn_app (goodIn_of _ (by decide +kernel)) ggL_law_L_door
set_option maxRecDepth 20000 in
theorem ggL_law_X4_door : GoodIn wsL_law wsX4_door := goodIn_r _ [257, 94, 141, 142, 143, 5, 144, 95, 100, 101, 102, 258, 259, 260, 261, 145, 146, 147, 148, 52, 262, 263, 264, 265, 153, 154, 155, 156, 53, 103, 104, 105, 106, 561, 562, 563, 564, 565, 566, 567, 568] (by decide +kernel) (by decide +kernel)
set_option maxRecDepth 20000 in
theorem gL_law_X4_door : GoodIn wsL_law (wsV RL 84 RX4 yX4_door wsX4_door) := goodIn_app (goodIn_of _ (by decide +kernel)) ggL_law_X4_door
set_option maxRecDepth 20000 in
theorem ggL_law_L_asks : GoodIn wsL_law wsL_asks := goodIn_ca (goodIn_r _ [268, 114, 269, 270, 271, 2, 272, 119, 120, 16, 121, 123, 124, 125, 126, 15, 127, 86, 73, 74, 75, 273, 274, 275, 30, 276, 132, 43, 44, 45, 559, 560, 569, 570, 571, 572, 573, 581, 582, 583, 584, 585, 586, 587, 588, 589, 590, 591, 592, 593, 594] (by decide +kernel) (by decide +kernel)) (goodIn_sub (fun _ h => List.mem_append_right _ h) (by decide +kernel))
set_option maxRecDepth 20000 in
theorem gL_law_L_asks : GoodIn wsL_law (va_wsS RL 85 yL_asks wsL_asks) := goodIn_app (goodIn_of _ (by decide +kernel)) ggL_law_L_asks
set_option maxRecDepth 20000 in
theorem ggL_law_X4_asks : GoodIn wsL_law wsX4_asks := goodIn_r _ [280, 94, 141, 142, 143, 5, 144, 95, 100, 101, 102, 145, 146, 147, 148, 52, 281, 282, 283, 284, 153, 154, 155, 156, 53, 103, 104, 105, 106, 561, 562, 563, 564, 565, 566, 567, 568] (by decide +kernel) (by decide +kernel)
set_option maxRecDepth 20000 in
theorem gL_law_X4_asks : GoodIn wsL_law (wsV RL 87 RX4 yX4_asks wsX4_asks) := goodIn_app (goodIn_of _ (by decide +kernel)) ggL_law_X4_asks
set_option maxRecDepth 20000 in
theorem ggL_law_L_voice : GoodIn wsL_law wsL_voice := goodIn_ca (goodIn_r _ [287, 114, 288, 289, 290, 2, 291, 119, 120, 16, 292, 293, 73, 74, 75, 294, 295, 296, 26, 297, 214, 35, 36, 37, 38, 559, 560, 569, 570, 571, 572, 573, 574, 575, 576, 577, 578, 579, 580] (by decide +kernel) (by decide +kernel)) (goodIn_sub (fun _ h => List.mem_append_right _ h) (by decide +kernel))
set_option maxRecDepth 20000 in
theorem gL_law_L_voice : GoodIn wsL_law (va_wsS RL 88 yL_voice wsL_voice) := goodIn_app (goodIn_of _ (by decide +kernel)) ggL_law_L_voice
set_option maxRecDepth 20000 in
theorem ggL_law_X4_voice : GoodIn wsL_law wsX4_voice := goodIn_r _ [301, 94, 56, 55, 100, 101, 5, 102, 103, 104, 105, 106, 561, 562, 563, 564, 565, 566, 567, 568] (by decide +kernel) (by decide +kernel)
set_option maxRecDepth 20000 in
theorem gL_law_X4_voice : GoodIn wsL_law (wsV RL 90 RX4 yX4_voice wsX4_voice) := goodIn_app (goodIn_of _ (by decide +kernel)) ggL_law_X4_voice
set_option maxRecDepth 20000 in
theorem ggL_law_L_count : GoodIn wsL_law wsL_count := goodIn_ca (goodIn_r _ [304, 114, 305, 306, 307, 2, 308, 119, 120, 16, 73, 74, 75, 309, 310, 311, 15, 312, 313, 86, 27, 314, 315, 316, 317, 318, 319, 23, 189, 320, 321, 322, 323, 559, 560, 569, 570, 571, 572, 573, 574, 575, 576, 577, 578, 579, 580, 581, 582, 583, 584, 585, 586, 587, 588, 589, 590, 591, 592, 593, 594] (by decide +kernel) (by decide +kernel)) (goodIn_sub (fun _ h => List.mem_append_right _ h) (by decide +kernel))
set_option maxRecDepth 20000 in
theorem gL_law_L_count : GoodIn wsL_law (va_wsS RL 91 yL_count wsL_count) := goodIn_app (goodIn_of _ (by decide +kernel)) ggL_law_L_count
set_option maxRecDepth 20000 in
theorem ggL_law_X4_count : GoodIn wsL_law wsX4_count := goodIn_r _ [327, 94, 100, 101, 5, 102, 328, 329, 330, 331, 56, 95, 145, 146, 147, 148, 52, 332, 333, 334, 335, 103, 104, 105, 106, 561, 562, 563, 564, 565, 566, 567, 568] (by decide +kernel) (by decide +kernel)
set_option maxRecDepth 20000 in
theorem gL_law_X4_count : GoodIn wsL_law (wsV RL 94 RX4 yX4_count wsX4_count) := goodIn_app (goodIn_of _ (by decide +kernel)) ggL_law_X4_count
