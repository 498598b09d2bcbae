set_option maxRecDepth 20000 in
theorem gX0_askedFact_X3_isIn_n78 : GoodIn wsX0_askedFact (wsX3_isIn) := ggX0_askedFact_X3_isIn
set_option maxRecDepth 20000 in
theorem ggX1_init_X2_init : GoodIn wsX1_init wsX2_init := goodIn_r _ [14, 15, 2, 3, 16, 17, 18, 19, 20, 21, 35, 36, 37, 38, 39, 40, 41] (by decide +kernel) (by decide +kernel)
set_option maxRecDepth 20000 in
theorem gX1_init_X2_init_n19 : GoodIn wsX1_init (wsX2_init) := ggX1_init_X2_init
set_option maxRecDepth 20000 in
theorem ggX1_init_X0_init : GoodIn wsX1_init wsX0_init := goodIn_r _ [23, 24, 2, 3, 16, 25, 26, 27, 28, 29, 42, 43, 44, 45, 46, 47, 48, 49, 50, 51, 52, 53, 54, 55] (by decide +kernel) (by decide +kernel)
set_option maxRecDepth 20000 in
theorem gX1_init_X0_init_n27 : GoodIn wsX1_init (wsX0_init) := ggX1_init_X0_init
theorem dX1_init_0 : decode cX1_init 0 = .ok (.aload_n 0, 1) := by decide +kernel
theorem dX1_init_1 : decode cX1_init 1 = .ok (.invokespecial 3, 3) := by decide +kernel
theorem dX1_init_4 : decode cX1_init 4 = .ok (.aload_n 0, 1) := by decide +kernel
theorem dX1_init_5 : decode cX1_init 5 = .ok (.bipush 10, 2) := by decide +kernel
theorem dX1_init_7 : decode cX1_init 7 = .ok (.anewarray 9, 3) := by decide +kernel
theorem dX1_init_10 : decode cX1_init 10 = .ok (.putfield 11, 3) := by decide +kernel
theorem dX1_init_13 : decode cX1_init 13 = .ok (.aload_n 0, 1) := by decide +kernel
theorem dX1_init_14 : decode cX1_init 14 = .ok (.new 17, 3) := by decide +kernel
theorem dX1_init_17 : decode cX1_init 17 = .ok (.dup, 1) := by decide +kernel
theorem dX1_init_18 : decode cX1_init 18 = .ok (.invokespecial 19, 3) := by decide +kernel
theorem dX1_init_21 : decode cX1_init 21 = .ok (.putfield 20, 3) := by decide +kernel
theorem dX1_init_24 : decode cX1_init 24 = .ok (.aload_n 0, 1) := by decide +kernel
theorem dX1_init_25 : decode cX1_init 25 = .ok (.new 17, 3) := by decide +kernel
theorem dX1_init_28 : decode cX1_init 28 = .ok (.dup, 1) := by decide +kernel
theorem dX1_init_29 : decode cX1_init 29 = .ok (.invokespecial 19, 3) := by decide +kernel
theorem dX1_init_32 : decode cX1_init 32 = .ok (.putfield 24, 3) := by decide +kernel
theorem dX1_init_35 : decode cX1_init 35 = .ok (.iconst 0, 1) := by decide +kernel
theorem dX1_init_36 : decode cX1_init 36 = .ok (.istore_n 1, 1) := by decide +kernel
theorem dX1_init_37 : decode cX1_init 37 = .ok (.iload_n 1, 1) := by decide +kernel
theorem dX1_init_38 : decode cX1_init 38 = .ok (.bipush 10, 2) := by decide +kernel
theorem dX1_init_40 : decode cX1_init 40 = .ok (.if_icmp .ge 22, 3) := by decide +kernel
theorem dX1_init_43 : decode cX1_init 43 = .ok (.aload_n 0, 1) := by decide +kernel
theorem dX1_init_44 : decode cX1_init 44 = .ok (.getfield 11, 3) := by decide +kernel
theorem dX1_init_47 : decode cX1_init 47 = .ok (.iload_n 1, 1) := by decide +kernel
theorem dX1_init_48 : decode cX1_init 48 = .ok (.new 9, 3) := by decide +kernel
theorem dX1_init_51 : decode cX1_init 51 = .ok (.dup, 1) := by decide +kernel
theorem dX1_init_52 : decode cX1_init 52 = .ok (.invokespecial 27, 3) := by decide +kernel
theorem dX1_init_55 : decode cX1_init 55 = .ok (.aastore, 1) := by decide +kernel
theorem dX1_init_56 : decode cX1_init 56 = .ok (.iinc 1 1, 3) := by decide +kernel
theorem dX1_init_59 : decode cX1_init 59 = .ok (.goto (-22), 3) := by decide +kernel
theorem dX1_init_62 : decode cX1_init 62 = .ok (.return_, 1) := by decide +kernel
set_option maxRecDepth 20000 in
theorem ggX1_copyFrom_X0_copyFrom : GoodIn wsX1_copyFrom wsX0_copyFrom := goodIn_r _ [9, 10, 11, 12, 13, 14, 15, 16, 17, 18, 19, 20, 21, 22, 23, 24, 25, 26, 27, 46, 47, 48, 49, 50, 51, 52, 53, 54, 55, 56, 57, 58, 59] (by decide +kernel) (by decide +kernel)
set_option maxRecDepth 20000 in
theorem gX1_copyFrom_X0_copyFrom : GoodIn wsX1_copyFrom (wsV RX1 35 RX0 yX0_copyFrom wsX0_copyFrom) := goodIn_app (goodIn_of _ (by decide +kernel)) ggX1_copyFrom_X0_copyFrom
set_option maxRecDepth 20000 in
theorem ggX1_copyFrom_X2_copyFrom : GoodIn wsX1_copyFrom wsX2_copyFrom := goodIn_r _ [32, 33, 34, 35, 36, 20, 21, 22, 37, 38, 39, 40, 60, 61, 62, 63, 64, 65, 66] (by decide +kernel) (by decide +kernel)
set_option maxRecDepth 20000 in
theorem gX1_copyFrom_X2_copyFrom : GoodIn wsX1_copyFrom (wsV RX1 39 RX2 yX2_copyFrom wsX2_copyFrom) := goodIn_app (goodIn_of _ (by decide +kernel)) ggX1_copyFrom_X2_copyFrom
theorem dX1_isDoor_0 : decode cX1_isDoor 0 = .ok (.iload_n 1, 1) := by decide +kernel
theorem dX1_isDoor_1 : decode cX1_isDoor 1 = .ok (.ifCond .lt 15, 3) := by decide +kernel
theorem dX1_isDoor_4 : decode cX1_isDoor 4 = .ok (.iload_n 1, 1) := by decide +kernel
theorem dX1_isDoor_5 : decode cX1_isDoor 5 = .ok (.aload_n 0, 1) := by decide +kernel
theorem dX1_isDoor_6 : decode cX1_isDoor 6 = .ok (.getfield 32, 3) := by decide +kernel
theorem dX1_isDoor_9 : decode cX1_isDoor 9 = .ok (.if_icmp .ge 7, 3) := by decide +kernel
theorem dX1_isDoor_12 : decode cX1_isDoor 12 = .ok (.iconst 1, 1) := by decide +kernel
theorem dX1_isDoor_13 : decode cX1_isDoor 13 = .ok (.goto 4, 3) := by decide +kernel
theorem dX1_isDoor_16 : decode cX1_isDoor 16 = .ok (.iconst 0, 1) := by decide +kernel
theorem dX1_isDoor_17 : decode cX1_isDoor 17 = .ok (.ireturn, 1) := by decide +kernel
theorem dX1_addDoor_0 : decode cX1_addDoor 0 = .ok (.aload_n 0, 1) := by decide +kernel
theorem dX1_addDoor_1 : decode cX1_addDoor 1 = .ok (.getfield 32, 3) := by decide +kernel
theorem dX1_addDoor_4 : decode cX1_addDoor 4 = .ok (.istore 4, 2) := by decide +kernel
theorem dX1_addDoor_6 : decode cX1_addDoor 6 = .ok (.iload 4, 2) := by decide +kernel
theorem dX1_addDoor_8 : decode cX1_addDoor 8 = .ok (.bipush 10, 2) := by decide +kernel
theorem dX1_addDoor_10 : decode cX1_addDoor 10 = .ok (.if_icmp .ge 46, 3) := by decide +kernel
theorem dX1_addDoor_13 : decode cX1_addDoor 13 = .ok (.aload_n 0, 1) := by decide +kernel
theorem dX1_addDoor_14 : decode cX1_addDoor 14 = .ok (.getfield 11, 3) := by decide +kernel
theorem dX1_addDoor_17 : decode cX1_addDoor 17 = .ok (.iload 4, 2) := by decide +kernel
theorem dX1_addDoor_19 : decode cX1_addDoor 19 = .ok (.aaload, 1) := by decide +kernel
theorem dX1_addDoor_20 : decode cX1_addDoor 20 = .ok (.iload_n 1, 1) := by decide +kernel
theorem dX1_addDoor_21 : decode cX1_addDoor 21 = .ok (.putfield 42, 3) := by decide +kernel
theorem dX1_addDoor_24 : decode cX1_addDoor 24 = .ok (.aload_n 0, 1) := by decide +kernel
theorem dX1_addDoor_25 : decode cX1_addDoor 25 = .ok (.getfield 11, 3) := by decide +kernel
theorem dX1_addDoor_28 : decode cX1_addDoor 28 = .ok (.iload 4, 2) := by decide +kernel
theorem dX1_addDoor_30 : decode cX1_addDoor 30 = .ok (.aaload, 1) := by decide +kernel
theorem dX1_addDoor_31 : decode cX1_addDoor 31 = .ok (.iload_n 2, 1) := by decide +kernel
theorem dX1_addDoor_32 : decode cX1_addDoor 32 = .ok (.putfield 45, 3) := by decide +kernel
theorem dX1_addDoor_35 : decode cX1_addDoor 35 = .ok (.aload_n 0, 1) := by decide +kernel
theorem dX1_addDoor_36 : decode cX1_addDoor 36 = .ok (.getfield 11, 3) := by decide +kernel
theorem dX1_addDoor_39 : decode cX1_addDoor 39 = .ok (.iload 4, 2) := by decide +kernel
theorem dX1_addDoor_41 : decode cX1_addDoor 41 = .ok (.aaload, 1) := by decide +kernel
theorem dX1_addDoor_42 : decode cX1_addDoor 42 = .ok (.iload_n 3, 1) := by decide +kernel
theorem dX1_addDoor_43 : decode cX1_addDoor 43 = .ok (.putfield 48, 3) := by decide +kernel
theorem dX1_addDoor_46 : decode cX1_addDoor 46 = .ok (.aload_n 0, 1) := by decide +kernel
theorem dX1_addDoor_47 : decode cX1_addDoor 47 = .ok (.dup, 1) := by decide +kernel
theorem dX1_addDoor_48 : decode cX1_addDoor 48 = .ok (.getfield 32, 3) := by decide +kernel
theorem dX1_addDoor_51 : decode cX1_addDoor 51 = .ok (.iconst 1, 1) := by decide +kernel
theorem dX1_addDoor_52 : decode cX1_addDoor 52 = .ok (.iadd, 1) := by decide +kernel
theorem dX1_addDoor_53 : decode cX1_addDoor 53 = .ok (.putfield 32, 3) := by decide +kernel
theorem dX1_addDoor_56 : decode cX1_addDoor 56 = .ok (.iload 4, 2) := by decide +kernel
theorem dX1_addDoor_58 : decode cX1_addDoor 58 = .ok (.ireturn, 1) := by decide +kernel
set_option maxRecDepth 20000 in
theorem ggX1_hearToken_X1_isDoor : GoodIn wsX1_hearToken wsX1_isDoor := goodIn_r _ [8, 9, 43, 44, 45, 46, 47] (by decide +kernel) (by decide +kernel)
set_option maxRecDepth 20000 in
theorem gX1_hearToken_X1_isDoor : GoodIn wsX1_hearToken (wsV RX1 51 RX1 yX1_isDoor wsX1_isDoor) := goodIn_app (goodIn_of _ (by decide +kernel)) ggX1_hearToken_X1_isDoor
set_option maxRecDepth 20000 in
theorem ggX1_hearToken_X0_bar : GoodIn wsX1_hearToken wsX0_bar := goodIn_r _ [14, 15, 16, 17, 48, 49, 50, 51, 52, 53, 54, 55, 56, 57, 58, 59, 60, 61] (by decide +kernel) (by decide +kernel)
set_option maxRecDepth 20000 in
theorem gX1_hearToken_X0_bar : GoodIn wsX1_hearToken (wsV RX1 58 RX0 yX0_bar wsX0_bar) := goodIn_app (goodIn_of _ (by decide +kernel)) ggX1_hearToken_X0_bar
set_option maxRecDepth 20000 in
theorem ggX1_hearToken_X1_wake : GoodIn wsX1_hearToken wsX1_wake := goodIn_r _ [21, 1, 22, 23, 24, 25, 26, 27, 28, 13, 29, 15, 30, 16, 31, 32, 33, 34, 35, 36, 37, 38, 39, 40, 41, 42, 43, 44, 45, 46, 47, 48, 49, 50, 51, 52, 53, 54, 55, 56, 57, 58, 59, 60, 61, 62, 63, 64, 65, 66, 67, 68] (by decide +kernel) (by decide +kernel)
set_option maxRecDepth 20000 in
theorem gX1_hearToken_X1_wake : GoodIn wsX1_hearToken (wsV RX1 61 RX1 yX1_wake wsX1_wake) := goodIn_app (goodIn_of _ (by decide +kernel)) ggX1_hearToken_X1_wake
set_option maxRecDepth 20000 in
theorem ggX1_tickOn_X0_spendTime : GoodIn wsX1_tickOn wsX0_spendTime := goodIn_r _ [16, 17, 18, 130, 131, 132, 133, 134, 135, 136, 137, 138, 139, 140, 141, 142, 143] (by decide +kernel) (by decide +kernel)
set_option maxRecDepth 20000 in
theorem gX1_tickOn_X0_spendTime : GoodIn wsX1_tickOn (wsV RX1 65 RX0 yX0_spendTime wsX0_spendTime) := goodIn_app (goodIn_of _ (by decide +kernel)) ggX1_tickOn_X0_spendTime
set_option maxRecDepth 20000 in
theorem ggX1_tickOn_X2_moveOn : GoodIn wsX1_tickOn wsX2_moveOn := goodIn_r _ [23, 24, 25, 26, 27, 28, 29, 30, 31, 32, 22, 33, 34, 35, 36, 37, 38, 123, 124, 125, 126, 127, 128, 129] (by decide +kernel) (by decide +kernel)
set_option maxRecDepth 20000 in
theorem gX1_tickOn_X2_moveOn : GoodIn wsX1_tickOn (wsV RX1 68 RX2 yX2_moveOn wsX2_moveOn) := goodIn_app (goodIn_of _ (by decide +kernel)) ggX1_tickOn_X2_moveOn
set_option maxRecDepth 20000 in
theorem ggX1_tickOn_X1_hear : GoodIn wsX1_tickOn wsX1_hear := goodIn_r _ [43, 2, 10, 3, 44, 45, 46, 42, 47, 1, 48, 49, 50, 15, 51, 17, 52, 53, 54, 55, 56, 57, 58, 59, 31, 32, 22, 33, 24, 34, 26, 27, 28, 25, 29, 60, 61, 62, 63, 64, 65, 66, 67, 68, 69, 70, 71, 18, 72, 73, 74, 75, 76, 77, 78, 118, 119, 120, 121, 122, 130, 131, 132, 133, 134, 135, 136, 137, 138, 139, 140, 141, 142, 143, 123, 124, 125, 126, 127, 128, 129] (by decide +kernel) (by decide +kernel)
set_option maxRecDepth 20000 in
theorem gX1_tickOn_X1_hear : GoodIn wsX1_tickOn (wsV RX1 87 RX1 yX1_hear wsX1_hear) := goodIn_app (goodIn_of _ (by decide +kernel)) ggX1_tickOn_X1_hear
set_option maxRecDepth 20000 in
theorem ggX1_tickOn_X1_waitOn : GoodIn wsX1_tickOn wsX1_waitOn := goodIn_r _ [82, 2, 83, 10, 84, 3, 85, 86, 87, 88, 89, 15, 90, 18, 57, 91, 92, 93, 94, 52, 95, 96, 97, 98, 99, 100, 101, 102, 103, 104, 105, 106, 107, 17, 108, 109, 110, 111, 112, 113, 59, 31, 32, 22, 33, 24, 34, 26, 27, 28, 25, 29, 114, 115, 116, 117, 76, 118, 119, 120, 121, 122, 130, 131, 132, 133, 134, 135, 136, 137, 138, 139, 140, 141, 142, 143, 123, 124, 125, 126, 127, 128, 129] (by decide +kernel) (by decide +kernel)
set_option maxRecDepth 20000 in
theorem gX1_tickOn_X1_waitOn : GoodIn wsX1_tickOn (wsV RX1 91 RX1 yX1_waitOn wsX1_waitOn) := goodIn_app (goodIn_of _ (by decide +kernel)) ggX1_tickOn_X1_waitOn
theorem dX1_tickOn_0 : decode cX1_tickOn 0 = .ok (.iconst 0, 1) := by decide +kernel
theorem dX1_tickOn_1 : decode cX1_tickOn 1 = .ok (.istore_n 1, 1) := by decide +kernel
theorem dX1_tickOn_2 : decode cX1_tickOn 2 = .ok (.iload_n 1, 1) := by decide +kernel
theorem dX1_tickOn_3 : decode cX1_tickOn 3 = .ok (.aload_n 0, 1) := by decide +kernel
theorem dX1_tickOn_4 : decode cX1_tickOn 4 = .ok (.getfield 32, 3) := by decide +kernel
theorem dX1_tickOn_7 : decode cX1_tickOn 7 = .ok (.if_icmp .ge 18, 3) := by decide +kernel
theorem dX1_tickOn_10 : decode cX1_tickOn 10 = .ok (.aload_n 0, 1) := by decide +kernel
theorem dX1_tickOn_11 : decode cX1_tickOn 11 = .ok (.getfield 11, 3) := by decide +kernel
theorem dX1_tickOn_14 : decode cX1_tickOn 14 = .ok (.iload_n 1, 1) := by decide +kernel
theorem dX1_tickOn_15 : decode cX1_tickOn 15 = .ok (.aaload, 1) := by decide +kernel
theorem dX1_tickOn_16 : decode cX1_tickOn 16 = .ok (.invokevirtual 65, 3) := by decide +kernel
theorem dX1_tickOn_19 : decode cX1_tickOn 19 = .ok (.iinc 1 1, 3) := by decide +kernel
theorem dX1_tickOn_22 : decode cX1_tickOn 22 = .ok (.goto (-20), 3) := by decide +kernel
theorem dX1_tickOn_25 : decode cX1_tickOn 25 = .ok (.aload_n 0, 1) := by decide +kernel
theorem dX1_tickOn_26 : decode cX1_tickOn 26 = .ok (.getfield 20, 3) := by decide +kernel
theorem dX1_tickOn_29 : decode cX1_tickOn 29 = .ok (.aload_n 0, 1) := by decide +kernel
theorem dX1_tickOn_30 : decode cX1_tickOn 30 = .ok (.getfield 24, 3) := by decide +kernel
theorem dX1_tickOn_33 : decode cX1_tickOn 33 = .ok (.invokevirtual 68, 3) := by decide +kernel
theorem dX1_tickOn_36 : decode cX1_tickOn 36 = .ok (.iconst 0, 1) := by decide +kernel
theorem dX1_tickOn_37 : decode cX1_tickOn 37 = .ok (.istore_n 1, 1) := by decide +kernel
theorem dX1_tickOn_38 : decode cX1_tickOn 38 = .ok (.iload_n 1, 1) := by decide +kernel
theorem dX1_tickOn_39 : decode cX1_tickOn 39 = .ok (.aload_n 0, 1) := by decide +kernel
theorem dX1_tickOn_40 : decode cX1_tickOn 40 = .ok (.getfield 24, 3) := by decide +kernel
theorem dX1_tickOn_43 : decode cX1_tickOn 43 = .ok (.getfield 71, 3) := by decide +kernel
theorem dX1_tickOn_46 : decode cX1_tickOn 46 = .ok (.if_icmp .ge 49, 3) := by decide +kernel
theorem dX1_tickOn_49 : decode cX1_tickOn 49 = .ok (.aload_n 0, 1) := by decide +kernel
theorem dX1_tickOn_50 : decode cX1_tickOn 50 = .ok (.aload_n 0, 1) := by decide +kernel
theorem dX1_tickOn_51 : decode cX1_tickOn 51 = .ok (.getfield 24, 3) := by decide +kernel
theorem dX1_tickOn_54 : decode cX1_tickOn 54 = .ok (.getfield 74, 3) := by decide +kernel
theorem dX1_tickOn_57 : decode cX1_tickOn 57 = .ok (.iload_n 1, 1) := by decide +kernel
theorem dX1_tickOn_58 : decode cX1_tickOn 58 = .ok (.iaload, 1) := by decide +kernel
theorem dX1_tickOn_59 : decode cX1_tickOn 59 = .ok (.aload_n 0, 1) := by decide +kernel
theorem dX1_tickOn_60 : decode cX1_tickOn 60 = .ok (.getfield 24, 3) := by decide +kernel
theorem dX1_tickOn_63 : decode cX1_tickOn 63 = .ok (.getfield 78, 3) := by decide +kernel
theorem dX1_tickOn_66 : decode cX1_tickOn 66 = .ok (.iload_n 1, 1) := by decide +kernel
theorem dX1_tickOn_67 : decode cX1_tickOn 67 = .ok (.iaload, 1) := by decide +kernel
theorem dX1_tickOn_68 : decode cX1_tickOn 68 = .ok (.aload_n 0, 1) := by decide +kernel
theorem dX1_tickOn_69 : decode cX1_tickOn 69 = .ok (.getfield 24, 3) := by decide +kernel
theorem dX1_tickOn_72 : decode cX1_tickOn 72 = .ok (.getfield 81, 3) := by decide +kernel
theorem dX1_tickOn_75 : decode cX1_tickOn 75 = .ok (.iload_n 1, 1) := by decide +kernel
theorem dX1_tickOn_76 : decode cX1_tickOn 76 = .ok (.iaload, 1) := by decide +kernel
theorem dX1_tickOn_77 : decode cX1_tickOn 77 = .ok (.aload_n 0, 1) := by decide +kernel
theorem dX1_tickOn_78 : decode cX1_tickOn 78 = .ok (.getfield 24, 3) := by decide +kernel
theorem dX1_tickOn_81 : decode cX1_tickOn 81 = .ok (.getfield 84, 3) := by decide +kernel
theorem dX1_tickOn_84 : decode cX1_tickOn 84 = .ok (.iload_n 1, 1) := by decide +kernel
theorem dX1_tickOn_85 : decode cX1_tickOn 85 = .ok (.iaload, 1) := by decide +kernel
theorem dX1_tickOn_86 : decode cX1_tickOn 86 = .ok (.invokevirtual 87, 3) := by decide +kernel
theorem dX1_tickOn_89 : decode cX1_tickOn 89 = .ok (.iinc 1 1, 3) := by decide +kernel
theorem dX1_tickOn_92 : decode cX1_tickOn 92 = .ok (.goto (-54), 3) := by decide +kernel
theorem dX1_tickOn_95 : decode cX1_tickOn 95 = .ok (.iconst 0, 1) := by decide +kernel
theorem dX1_tickOn_96 : decode cX1_tickOn 96 = .ok (.istore_n 1, 1) := by decide +kernel
theorem dX1_tickOn_97 : decode cX1_tickOn 97 = .ok (.iconst 0, 1) := by decide +kernel
theorem dX1_tickOn_98 : decode cX1_tickOn 98 = .ok (.istore_n 2, 1) := by decide +kernel
theorem dX1_tickOn_99 : decode cX1_tickOn 99 = .ok (.iload_n 2, 1) := by decide +kernel
theorem dX1_tickOn_100 : decode cX1_tickOn 100 = .ok (.aload_n 0, 1) := by decide +kernel
theorem dX1_tickOn_101 : decode cX1_tickOn 101 = .ok (.getfield 32, 3) := by decide +kernel
theorem dX1_tickOn_104 : decode cX1_tickOn 104 = .ok (.if_icmp .ge 33, 3) := by decide +kernel
theorem dX1_tickOn_107 : decode cX1_tickOn 107 = .ok (.aload_n 0, 1) := by decide +kernel
theorem dX1_tickOn_108 : decode cX1_tickOn 108 = .ok (.getfield 11, 3) := by decide +kernel
theorem dX1_tickOn_111 : decode cX1_tickOn 111 = .ok (.iload_n 2, 1) := by decide +kernel
theorem dX1_tickOn_112 : decode cX1_tickOn 112 = .ok (.aaload, 1) := by decide +kernel
theorem dX1_tickOn_113 : decode cX1_tickOn 113 = .ok (.getfield 55, 3) := by decide +kernel
theorem dX1_tickOn_116 : decode cX1_tickOn 116 = .ok (.iconst 1, 1) := by decide +kernel
theorem dX1_tickOn_117 : decode cX1_tickOn 117 = .ok (.if_icmp .ne 14, 3) := by decide +kernel
theorem dX1_tickOn_120 : decode cX1_tickOn 120 = .ok (.aload_n 0, 1) := by decide +kernel
theorem dX1_tickOn_121 : decode cX1_tickOn 121 = .ok (.iload_n 2, 1) := by decide +kernel
theorem dX1_tickOn_122 : decode cX1_tickOn 122 = .ok (.invokevirtual 91, 3) := by decide +kernel
theorem dX1_tickOn_125 : decode cX1_tickOn 125 = .ok (.ifCond .eq 6, 3) := by decide +kernel
theorem dX1_tickOn_128 : decode cX1_tickOn 128 = .ok (.iinc 1 1, 3) := by decide +kernel
theorem dX1_tickOn_131 : decode cX1_tickOn 131 = .ok (.iinc 2 1, 3) := by decide +kernel
theorem dX1_tickOn_134 : decode cX1_tickOn 134 = .ok (.goto (-35), 3) := by decide +kernel
theorem dX1_tickOn_137 : decode cX1_tickOn 137 = .ok (.aload_n 0, 1) := by decide +kernel
theorem dX1_tickOn_138 : decode cX1_tickOn 138 = .ok (.dup, 1) := by decide +kernel
theorem dX1_tickOn_139 : decode cX1_tickOn 139 = .ok (.getfield 28, 3) := by decide +kernel
theorem dX1_tickOn_142 : decode cX1_tickOn 142 = .ok (.iconst 1, 1) := by decide +kernel
theorem dX1_tickOn_143 : decode cX1_tickOn 143 = .ok (.iadd, 1) := by decide +kernel
theorem dX1_tickOn_144 : decode cX1_tickOn 144 = .ok (.putfield 28, 3) := by decide +kernel
theorem dX1_tickOn_147 : decode cX1_tickOn 147 = .ok (.iload_n 1, 1) := by decide +kernel
theorem dX1_tickOn_148 : decode cX1_tickOn 148 = .ok (.ireturn, 1) := by decide +kernel
set_option maxRecDepth 20000 in
theorem ggX1_hear_X1_isDoor : GoodIn wsX1_hear wsX1_isDoor := goodIn_r _ [8, 9, 55, 56, 57, 58, 59] (by decide +kernel) (by decide +kernel)
set_option maxRecDepth 20000 in
theorem gX1_hear_X1_isDoor : GoodIn wsX1_hear (wsV RX1 51 RX1 yX1_isDoor wsX1_isDoor) := goodIn_app (goodIn_of _ (by decide +kernel)) ggX1_hear_X1_isDoor
set_option maxRecDepth 20000 in
theorem ggX1_hear_X0_takeAnswer : GoodIn wsX1_hear wsX0_takeAnswer := goodIn_r _ [14, 15, 16, 17, 18, 19, 13, 20, 21, 22, 60, 61, 62, 63, 64, 65, 66, 67, 68, 69, 70, 71, 72, 73] (by decide +kernel) (by decide +kernel)
set_option maxRecDepth 20000 in
theorem gX1_hear_X0_takeAnswer : GoodIn wsX1_hear (wsV RX1 94 RX0 yX0_takeAnswer wsX0_takeAnswer) := goodIn_app (goodIn_of _ (by decide +kernel)) ggX1_hear_X0_takeAnswer
set_option maxRecDepth 20000 in
theorem ggX1_hear_X2_add : GoodIn wsX1_hear wsX2_add := goodIn_r _ [27, 28, 29, 30, 31, 32, 33, 34, 74, 75, 76, 77, 78, 79, 80] (by decide +kernel) (by decide +kernel)
set_option maxRecDepth 20000 in
theorem gX1_hear_X2_add : GoodIn wsX1_hear (wsV RX1 98 RX2 yX2_add wsX2_add) := goodIn_app (goodIn_of _ (by decide +kernel)) ggX1_hear_X2_add
set_option maxRecDepth 20000 in
theorem ggX1_hear_X1_wake : GoodIn wsX1_hear wsX1_wake := goodIn_r _ [38, 1, 39, 3, 40, 41, 42, 43, 44, 13, 45, 15, 46, 47, 23, 24, 25, 26, 27, 28, 29, 30, 31, 32, 33, 34, 55, 56, 57, 58, 59, 60, 61, 62, 63, 64, 65, 66, 67, 68, 69, 70, 71, 72, 73, 74, 75, 76, 77, 78, 79, 80] (by decide +kernel) (by decide +kernel)
set_option maxRecDepth 20000 in
theorem gX1_hear_X1_wake : GoodIn wsX1_hear (wsV RX1 61 RX1 yX1_wake wsX1_wake) := goodIn_app (goodIn_of _ (by decide +kernel)) ggX1_hear_X1_wake
set_option maxRecDepth 20000 in
theorem ggX1_hear_X0_remember : GoodIn wsX1_hear wsX0_remember := goodIn_r _ [51, 52, 53, 54, 60, 61, 62, 63, 64, 65, 66, 67, 68, 69, 70, 71, 72, 73] (by decide +kernel) (by decide +kernel)
set_option maxRecDepth 20000 in
theorem gX1_hear_X0_remember : GoodIn wsX1_hear (wsV RX1 101 RX0 yX0_remember wsX0_remember) := goodIn_app (goodIn_of _ (by decide +kernel)) ggX1_hear_X0_remember
set_option maxRecDepth 20000 in
theorem ggX1_wake_X0_startWaiting : GoodIn wsX1_wake wsX0_startWaiting := goodIn_r _ [10, 11, 12, 13, 31, 32, 33, 34, 35, 36, 37, 38, 39, 40, 41, 42, 43, 44] (by decide +kernel) (by decide +kernel)
set_option maxRecDepth 20000 in
theorem gX1_wake_X0_startWaiting : GoodIn wsX1_wake (wsV RX1 104 RX0 yX0_startWaiting wsX0_startWaiting) := goodIn_app (goodIn_of _ (by decide +kernel)) ggX1_wake_X0_startWaiting
set_option maxRecDepth 20000 in
theorem ggX1_wake_X2_add : GoodIn wsX1_wake wsX2_add := goodIn_r _ [18, 19, 20, 21, 22, 23, 24, 25, 45, 46, 47, 48, 49, 50, 51] (by decide +kernel) (by decide +kernel)
set_option maxRecDepth 20000 in
theorem gX1_wake_X2_add : GoodIn wsX1_wake (wsV RX1 98 RX2 yX2_add wsX2_add) := goodIn_app (goodIn_of _ (by decide +kernel)) ggX1_wake_X2_add
set_option maxRecDepth 20000 in
theorem ggX1_waitOn_X0_isReadyToDecide : GoodIn wsX1_waitOn wsX0_isReadyToDecide := goodIn_r _ [12, 13, 14, 15, 16, 17, 11, 18, 19, 62, 63, 64, 65, 66, 67, 68, 69, 70, 71, 72, 73, 74, 75] (by decide +kernel) (by decide +kernel)
set_option maxRecDepth 20000 in
theorem gX1_waitOn_X0_isReadyToDecide : GoodIn wsX1_waitOn (wsV RX1 117 RX0 yX0_isReadyToDecide wsX0_isReadyToDecide) := goodIn_app (goodIn_of _ (by decide +kernel)) ggX1_waitOn_X0_isReadyToDecide
set_option maxRecDepth 20000 in
theorem ggX1_waitOn_X0_decide : GoodIn wsX1_waitOn wsX0_decide := goodIn_r _ [23, 15, 16, 17, 11, 18, 14, 19, 24, 25, 26, 27, 28, 29, 30, 31, 32, 33, 13, 34, 35, 36, 37, 38, 39, 62, 63, 64, 65, 66, 67, 68, 69, 70, 71, 72, 73, 74, 75] (by decide +kernel) (by decide +kernel)
set_option maxRecDepth 20000 in
theorem gX1_waitOn_X0_decide : GoodIn wsX1_waitOn (wsV RX1 121 RX0 yX0_decide wsX0_decide) := goodIn_app (goodIn_of _ (by decide +kernel)) ggX1_waitOn_X0_decide
set_option maxRecDepth 20000 in
theorem ggX1_waitOn_X2_add : GoodIn wsX1_waitOn wsX2_add := goodIn_r _ [44, 45, 46, 47, 48, 49, 50, 51, 76, 77, 78, 79, 80, 81, 82] (by decide +kernel) (by decide +kernel)
set_option maxRecDepth 20000 in
theorem gX1_waitOn_X2_add : GoodIn wsX1_waitOn (wsV RX1 98 RX2 yX2_add wsX2_add) := goodIn_app (goodIn_of _ (by decide +kernel)) ggX1_waitOn_X2_add
set_option maxRecDepth 20000 in
theorem ggX1_waitOn_X0_forget : GoodIn wsX1_waitOn wsX0_forget := goodIn_r _ [55, 56, 14, 19, 62, 63, 64, 65, 66, 67, 68, 69, 70, 71, 72, 73, 74, 75] (by decide +kernel) (by decide +kernel)
set_option maxRecDepth 20000 in
theorem gX1_waitOn_X0_forget : GoodIn wsX1_waitOn (wsV RX1 133 RX0 yX0_forget wsX0_forget) := goodIn_app (goodIn_of _ (by decide +kernel)) ggX1_waitOn_X0_forget
theorem dX1_openDoors_0 : decode cX1_openDoors 0 = .ok (.iconst 0, 1) := by decide +kernel
theorem dX1_openDoors_1 : decode cX1_openDoors 1 = .ok (.istore_n 1, 1) := by decide +kernel
theorem dX1_openDoors_2 : decode cX1_openDoors 2 = .ok (.iconst 0, 1) := by decide +kernel
theorem dX1_openDoors_3 : decode cX1_openDoors 3 = .ok (.istore_n 2, 1) := by decide +kernel
theorem dX1_openDoors_4 : decode cX1_openDoors 4 = .ok (.iload_n 2, 1) := by decide +kernel
theorem dX1_openDoors_5 : decode cX1_openDoors 5 = .ok (.aload_n 0, 1) := by decide +kernel
theorem dX1_openDoors_6 : decode cX1_openDoors 6 = .ok (.getfield 32, 3) := by decide +kernel
theorem dX1_openDoors_9 : decode cX1_openDoors 9 = .ok (.if_icmp .ge 28, 3) := by decide +kernel
theorem dX1_openDoors_12 : decode cX1_openDoors 12 = .ok (.aload_n 0, 1) := by decide +kernel
theorem dX1_openDoors_13 : decode cX1_openDoors 13 = .ok (.getfield 11, 3) := by decide +kernel
theorem dX1_openDoors_16 : decode cX1_openDoors 16 = .ok (.iload_n 2, 1) := by decide +kernel
theorem dX1_openDoors_17 : decode cX1_openDoors 17 = .ok (.aaload, 1) := by decide +kernel
theorem dX1_openDoors_18 : decode cX1_openDoors 18 = .ok (.getfield 55, 3) := by decide +kernel
theorem dX1_openDoors_21 : decode cX1_openDoors 21 = .ok (.iconst 2, 1) := by decide +kernel
theorem dX1_openDoors_22 : decode cX1_openDoors 22 = .ok (.if_icmp .ne 9, 3) := by decide +kernel
theorem dX1_openDoors_25 : decode cX1_openDoors 25 = .ok (.iload_n 1, 1) := by decide +kernel
theorem dX1_openDoors_26 : decode cX1_openDoors 26 = .ok (.iconst 1, 1) := by decide +kernel
theorem dX1_openDoors_27 : decode cX1_openDoors 27 = .ok (.iload_n 2, 1) := by decide +kernel
theorem dX1_openDoors_28 : decode cX1_openDoors 28 = .ok (.ishl, 1) := by decide +kernel
theorem dX1_openDoors_29 : decode cX1_openDoors 29 = .ok (.ior, 1) := by decide +kernel
theorem dX1_openDoors_30 : decode cX1_openDoors 30 = .ok (.istore_n 1, 1) := by decide +kernel
theorem dX1_openDoors_31 : decode cX1_openDoors 31 = .ok (.iinc 2 1, 3) := by decide +kernel
theorem dX1_openDoors_34 : decode cX1_openDoors 34 = .ok (.goto (-30), 3) := by decide +kernel
theorem dX1_openDoors_37 : decode cX1_openDoors 37 = .ok (.iload_n 1, 1) := by decide +kernel
theorem dX1_openDoors_38 : decode cX1_openDoors 38 = .ok (.ireturn, 1) := by decide +kernel
theorem dX1_doorsThat_0 : decode cX1_doorsThat 0 = .ok (.iconst 0, 1) := by decide +kernel
theorem dX1_doorsThat_1 : decode cX1_doorsThat 1 = .ok (.istore_n 2, 1) := by decide +kernel
theorem dX1_doorsThat_2 : decode cX1_doorsThat 2 = .ok (.iconst 0, 1) := by decide +kernel
theorem dX1_doorsThat_3 : decode cX1_doorsThat 3 = .ok (.istore_n 3, 1) := by decide +kernel
theorem dX1_doorsThat_4 : decode cX1_doorsThat 4 = .ok (.iload_n 3, 1) := by decide +kernel
theorem dX1_doorsThat_5 : decode cX1_doorsThat 5 = .ok (.aload_n 0, 1) := by decide +kernel
theorem dX1_doorsThat_6 : decode cX1_doorsThat 6 = .ok (.getfield 32, 3) := by decide +kernel
theorem dX1_doorsThat_9 : decode cX1_doorsThat 9 = .ok (.if_icmp .ge 25, 3) := by decide +kernel
theorem dX1_doorsThat_12 : decode cX1_doorsThat 12 = .ok (.aload_n 0, 1) := by decide +kernel
theorem dX1_doorsThat_13 : decode cX1_doorsThat 13 = .ok (.getfield 11, 3) := by decide +kernel
theorem dX1_doorsThat_16 : decode cX1_doorsThat 16 = .ok (.iload_n 3, 1) := by decide +kernel
theorem dX1_doorsThat_17 : decode cX1_doorsThat 17 = .ok (.aaload, 1) := by decide +kernel
theorem dX1_doorsThat_18 : decode cX1_doorsThat 18 = .ok (.getfield 55, 3) := by decide +kernel
theorem dX1_doorsThat_21 : decode cX1_doorsThat 21 = .ok (.iload_n 1, 1) := by decide +kernel
theorem dX1_doorsThat_22 : decode cX1_doorsThat 22 = .ok (.if_icmp .ne 6, 3) := by decide +kernel
theorem dX1_doorsThat_25 : decode cX1_doorsThat 25 = .ok (.iinc 2 1, 3) := by decide +kernel
theorem dX1_doorsThat_28 : decode cX1_doorsThat 28 = .ok (.iinc 3 1, 3) := by decide +kernel
theorem dX1_doorsThat_31 : decode cX1_doorsThat 31 = .ok (.goto (-27), 3) := by decide +kernel
theorem dX1_doorsThat_34 : decode cX1_doorsThat 34 = .ok (.iload_n 2, 1) := by decide +kernel
theorem dX1_doorsThat_35 : decode cX1_doorsThat 35 = .ok (.ireturn, 1) := by decide +kernel
set_option maxRecDepth 20000 in
theorem ggX1_fact_X1_doorsThat : GoodIn wsX1_fact wsX1_doorsThat := goodIn_r _ [10, 2, 11, 12, 17, 18, 19, 20, 21, 29, 30, 31, 32, 33, 34, 35, 36, 37, 38, 39, 40, 41, 42] (by decide +kernel) (by decide +kernel)
set_option maxRecDepth 20000 in
theorem gX1_fact_X1_doorsThat : GoodIn wsX1_fact (wsV RX1 136 RX1 yX1_doorsThat wsX1_doorsThat) := goodIn_app (goodIn_of _ (by decide +kernel)) ggX1_fact_X1_doorsThat
set_option maxRecDepth 20000 in
theorem ggX1_fact_X1_openDoors : GoodIn wsX1_fact wsX1_openDoors := goodIn_r _ [16, 2, 11, 12, 17, 18, 19, 20, 21, 29, 30, 31, 32, 33, 34, 35, 36, 37, 38, 39, 40, 41, 42] (by decide +kernel) (by decide +kernel)
set_option maxRecDepth 20000 in
theorem gX1_fact_X1_openDoors : GoodIn wsX1_fact (wsV RX1 143 RX1 yX1_openDoors wsX1_openDoors) := goodIn_app (goodIn_of _ (by decide +kernel)) ggX1_fact_X1_openDoors
theorem dX1_fact_0 : decode cX1_fact 0 = .ok (.iload_n 1, 1) := by decide +kernel
theorem dX1_fact_1 : decode cX1_fact 1 = .ok (.tableswitch 97 0 7 #[47, 52, 57, 63, 69, 75, 81, 89], 47) := by decide +kernel
theorem dX1_fact_48 : decode cX1_fact 48 = .ok (.aload_n 0, 1) := by decide +kernel
theorem dX1_fact_49 : decode cX1_fact 49 = .ok (.getfield 28, 3) := by decide +kernel
theorem dX1_fact_52 : decode cX1_fact 52 = .ok (.ireturn, 1) := by decide +kernel
theorem dX1_fact_53 : decode cX1_fact 53 = .ok (.aload_n 0, 1) := by decide +kernel
theorem dX1_fact_54 : decode cX1_fact 54 = .ok (.getfield 32, 3) := by decide +kernel
theorem dX1_fact_57 : decode cX1_fact 57 = .ok (.ireturn, 1) := by decide +kernel
theorem dX1_fact_58 : decode cX1_fact 58 = .ok (.aload_n 0, 1) := by decide +kernel
theorem dX1_fact_59 : decode cX1_fact 59 = .ok (.iconst 0, 1) := by decide +kernel
theorem dX1_fact_60 : decode cX1_fact 60 = .ok (.invokevirtual 136, 3) := by decide +kernel
theorem dX1_fact_63 : decode cX1_fact 63 = .ok (.ireturn, 1) := by decide +kernel
theorem dX1_fact_64 : decode cX1_fact 64 = .ok (.aload_n 0, 1) := by decide +kernel
theorem dX1_fact_65 : decode cX1_fact 65 = .ok (.iconst 1, 1) := by decide +kernel
theorem dX1_fact_66 : decode cX1_fact 66 = .ok (.invokevirtual 136, 3) := by decide +kernel
theorem dX1_fact_69 : decode cX1_fact 69 = .ok (.ireturn, 1) := by decide +kernel
theorem dX1_fact_70 : decode cX1_fact 70 = .ok (.aload_n 0, 1) := by decide +kernel
theorem dX1_fact_71 : decode cX1_fact 71 = .ok (.iconst 2, 1) := by decide +kernel
theorem dX1_fact_72 : decode cX1_fact 72 = .ok (.invokevirtual 136, 3) := by decide +kernel
theorem dX1_fact_75 : decode cX1_fact 75 = .ok (.ireturn, 1) := by decide +kernel
theorem dX1_fact_76 : decode cX1_fact 76 = .ok (.aload_n 0, 1) := by decide +kernel
theorem dX1_fact_77 : decode cX1_fact 77 = .ok (.iconst 3, 1) := by decide +kernel
theorem dX1_fact_78 : decode cX1_fact 78 = .ok (.invokevirtual 136, 3) := by decide +kernel
theorem dX1_fact_81 : decode cX1_fact 81 = .ok (.ireturn, 1) := by decide +kernel
theorem dX1_fact_82 : decode cX1_fact 82 = .ok (.aload_n 0, 1) := by decide +kernel
theorem dX1_fact_83 : decode cX1_fact 83 = .ok (.getfield 20, 3) := by decide +kernel
theorem dX1_fact_86 : decode cX1_fact 86 = .ok (.getfield 71, 3) := by decide +kernel
theorem dX1_fact_89 : decode cX1_fact 89 = .ok (.ireturn, 1) := by decide +kernel
theorem dX1_fact_90 : decode cX1_fact 90 = .ok (.aload_n 0, 1) := by decide +kernel
theorem dX1_fact_91 : decode cX1_fact 91 = .ok (.getfield 20, 3) := by decide +kernel
theorem dX1_fact_94 : decode cX1_fact 94 = .ok (.getfield 140, 3) := by decide +kernel
theorem dX1_fact_97 : decode cX1_fact 97 = .ok (.ireturn, 1) := by decide +kernel
theorem dX1_fact_98 : decode cX1_fact 98 = .ok (.aload_n 0, 1) := by decide +kernel
theorem dX1_fact_99 : decode cX1_fact 99 = .ok (.invokevirtual 143, 3) := by decide +kernel
theorem dX1_fact_102 : decode cX1_fact 102 = .ok (.ireturn, 1) := by decide +kernel
set_option maxRecDepth 20000 in
theorem ggX1_reachedFrom_X1_askedBy : GoodIn wsX1_reachedFrom wsX1_askedBy := goodIn_r _ [6, 7, 8, 9, 10, 11, 12, 5, 13, 1, 14, 15, 16, 17, 18, 19, 20, 21, 22, 23, 24, 25, 26, 27, 28, 29, 30, 31, 32] (by decide +kernel) (by decide +kernel)
set_option maxRecDepth 20000 in
theorem gX1_reachedFrom_X1_askedBy : GoodIn wsX1_reachedFrom (wsV RX1 147 RX1 yX1_askedBy wsX1_askedBy) := goodIn_app (goodIn_of _ (by decide +kernel)) ggX1_reachedFrom_X1_askedBy
set_option maxRecDepth 20000 in
theorem ggX1_askedBy_X1_isDoor : GoodIn wsX1_askedBy wsX1_isDoor := goodIn_r _ [8, 9, 10, 11, 12, 13, 14] (by decide +kernel) (by decide +kernel)
set_option maxRecDepth 20000 in
theorem gX1_askedBy_X1_isDoor : GoodIn wsX1_askedBy (wsV RX1 51 RX1 yX1_isDoor wsX1_isDoor) := goodIn_app (goodIn_of _ (by decide +kernel)) ggX1_askedBy_X1_isDoor
theorem dX2_init_0 : decode cX2_init 0 = .ok (.aload_n 0, 1) := by decide +kernel
theorem dX2_init_1 : decode cX2_init 1 = .ok (.invokespecial 3, 3) := by decide +kernel
theorem dX2_init_4 : decode cX2_init 4 = .ok (.aload_n 0, 1) := by decide +kernel
theorem dX2_init_5 : decode cX2_init 5 = .ok (.bipush 60, 2) := by decide +kernel
theorem dX2_init_7 : decode cX2_init 7 = .ok (.newarray .int, 2) := by decide +kernel
theorem dX2_init_9 : decode cX2_init 9 = .ok (.putfield 9, 3) := by decide +kernel
theorem dX2_init_12 : decode cX2_init 12 = .ok (.aload_n 0, 1) := by decide +kernel
theorem dX2_init_13 : decode cX2_init 13 = .ok (.bipush 60, 2) := by decide +kernel
theorem dX2_init_15 : decode cX2_init 15 = .ok (.newarray .int, 2) := by decide +kernel
theorem dX2_init_17 : decode cX2_init 17 = .ok (.putfield 15, 3) := by decide +kernel
theorem dX2_init_20 : decode cX2_init 20 = .ok (.aload_n 0, 1) := by decide +kernel
theorem dX2_init_21 : decode cX2_init 21 = .ok (.bipush 60, 2) := by decide +kernel
theorem dX2_init_23 : decode cX2_init 23 = .ok (.newarray .int, 2) := by decide +kernel
theorem dX2_init_25 : decode cX2_init 25 = .ok (.putfield 18, 3) := by decide +kernel
theorem dX2_init_28 : decode cX2_init 28 = .ok (.aload_n 0, 1) := by decide +kernel
theorem dX2_init_29 : decode cX2_init 29 = .ok (.bipush 60, 2) := by decide +kernel
theorem dX2_init_31 : decode cX2_init 31 = .ok (.newarray .int, 2) := by decide +kernel
theorem dX2_init_33 : decode cX2_init 33 = .ok (.putfield 21, 3) := by decide +kernel
theorem dX2_init_36 : decode cX2_init 36 = .ok (.aload_n 0, 1) := by decide +kernel
theorem dX2_init_37 : decode cX2_init 37 = .ok (.bipush 60, 2) := by decide +kernel
theorem dX2_init_39 : decode cX2_init 39 = .ok (.newarray .int, 2) := by decide +kernel
theorem dX2_init_41 : decode cX2_init 41 = .ok (.putfield 24, 3) := by decide +kernel
theorem dX2_init_44 : decode cX2_init 44 = .ok (.return_, 1) := by decide +kernel
set_option maxRecDepth 20000 in
theorem ggX2_moveOn_X2_add : GoodIn wsX2_moveOn wsX2_add := goodIn_r _ [11, 1, 12, 3, 4, 5, 2, 6, 17, 18, 19, 20, 21, 22, 23] (by decide +kernel) (by decide +kernel)
set_option maxRecDepth 20000 in
theorem gX2_moveOn_X2_add : GoodIn wsX2_moveOn (wsV RX2 40 RX2 yX2_add wsX2_add) := goodIn_app (goodIn_of _ (by decide +kernel)) ggX2_moveOn_X2_add
set_option maxRecDepth 20000 in
theorem ggX2_moveOn_X2_moveUp : GoodIn wsX2_moveOn wsX2_moveUp := goodIn_r _ [16, 3, 4, 5, 2, 6, 17, 18, 19, 20, 21, 22, 23] (by decide +kernel) (by decide +kernel)
set_option maxRecDepth 20000 in
theorem gX2_moveOn_X2_moveUp : GoodIn wsX2_moveOn (wsV RX2 44 RX2 yX2_moveUp wsX2_moveUp) := goodIn_app (goodIn_of _ (by decide +kernel)) ggX2_moveOn_X2_moveUp
theorem dX2_moveOn_0 : decode cX2_moveOn 0 = .ok (.aload_n 1, 1) := by decide +kernel
theorem dX2_moveOn_1 : decode cX2_moveOn 1 = .ok (.iconst 0, 1) := by decide +kernel
theorem dX2_moveOn_2 : decode cX2_moveOn 2 = .ok (.putfield 27, 3) := by decide +kernel
theorem dX2_moveOn_5 : decode cX2_moveOn 5 = .ok (.iconst 0, 1) := by decide +kernel
theorem dX2_moveOn_6 : decode cX2_moveOn 6 = .ok (.istore_n 2, 1) := by decide +kernel
theorem dX2_moveOn_7 : decode cX2_moveOn 7 = .ok (.iconst 0, 1) := by decide +kernel
theorem dX2_moveOn_8 : decode cX2_moveOn 8 = .ok (.istore_n 3, 1) := by decide +kernel
theorem dX2_moveOn_9 : decode cX2_moveOn 9 = .ok (.iload_n 3, 1) := by decide +kernel
theorem dX2_moveOn_10 : decode cX2_moveOn 10 = .ok (.aload_n 0, 1) := by decide +kernel
theorem dX2_moveOn_11 : decode cX2_moveOn 11 = .ok (.getfield 27, 3) := by decide +kernel
theorem dX2_moveOn_14 : decode cX2_moveOn 14 = .ok (.if_icmp .ge 68, 3) := by decide +kernel
theorem dX2_moveOn_17 : decode cX2_moveOn 17 = .ok (.aload_n 0, 1) := by decide +kernel
theorem dX2_moveOn_18 : decode cX2_moveOn 18 = .ok (.getfield 21, 3) := by decide +kernel
theorem dX2_moveOn_21 : decode cX2_moveOn 21 = .ok (.iload_n 3, 1) := by decide +kernel
theorem dX2_moveOn_22 : decode cX2_moveOn 22 = .ok (.dup2, 1) := by decide +kernel
theorem dX2_moveOn_23 : decode cX2_moveOn 23 = .ok (.iaload, 1) := by decide +kernel
theorem dX2_moveOn_24 : decode cX2_moveOn 24 = .ok (.iconst 1, 1) := by decide +kernel
theorem dX2_moveOn_25 : decode cX2_moveOn 25 = .ok (.isub, 1) := by decide +kernel
theorem dX2_moveOn_26 : decode cX2_moveOn 26 = .ok (.iastore, 1) := by decide +kernel
theorem dX2_moveOn_27 : decode cX2_moveOn 27 = .ok (.aload_n 0, 1) := by decide +kernel
theorem dX2_moveOn_28 : decode cX2_moveOn 28 = .ok (.getfield 21, 3) := by decide +kernel
theorem dX2_moveOn_31 : decode cX2_moveOn 31 = .ok (.iload_n 3, 1) := by decide +kernel
theorem dX2_moveOn_32 : decode cX2_moveOn 32 = .ok (.iaload, 1) := by decide +kernel
theorem dX2_moveOn_33 : decode cX2_moveOn 33 = .ok (.ifCond .gt 34, 3) := by decide +kernel
theorem dX2_moveOn_36 : decode cX2_moveOn 36 = .ok (.aload_n 1, 1) := by decide +kernel
theorem dX2_moveOn_37 : decode cX2_moveOn 37 = .ok (.aload_n 0, 1) := by decide +kernel
theorem dX2_moveOn_38 : decode cX2_moveOn 38 = .ok (.getfield 9, 3) := by decide +kernel
theorem dX2_moveOn_41 : decode cX2_moveOn 41 = .ok (.iload_n 3, 1) := by decide +kernel
theorem dX2_moveOn_42 : decode cX2_moveOn 42 = .ok (.iaload, 1) := by decide +kernel
theorem dX2_moveOn_43 : decode cX2_moveOn 43 = .ok (.aload_n 0, 1) := by decide +kernel
theorem dX2_moveOn_44 : decode cX2_moveOn 44 = .ok (.getfield 15, 3) := by decide +kernel
theorem dX2_moveOn_47 : decode cX2_moveOn 47 = .ok (.iload_n 3, 1) := by decide +kernel
theorem dX2_moveOn_48 : decode cX2_moveOn 48 = .ok (.iaload, 1) := by decide +kernel
theorem dX2_moveOn_49 : decode cX2_moveOn 49 = .ok (.aload_n 0, 1) := by decide +kernel
theorem dX2_moveOn_50 : decode cX2_moveOn 50 = .ok (.getfield 18, 3) := by decide +kernel
theorem dX2_moveOn_53 : decode cX2_moveOn 53 = .ok (.iload_n 3, 1) := by decide +kernel
theorem dX2_moveOn_54 : decode cX2_moveOn 54 = .ok (.iaload, 1) := by decide +kernel
theorem dX2_moveOn_55 : decode cX2_moveOn 55 = .ok (.aload_n 0, 1) := by decide +kernel
theorem dX2_moveOn_56 : decode cX2_moveOn 56 = .ok (.getfield 24, 3) := by decide +kernel
theorem dX2_moveOn_59 : decode cX2_moveOn 59 = .ok (.iload_n 3, 1) := by decide +kernel
theorem dX2_moveOn_60 : decode cX2_moveOn 60 = .ok (.iaload, 1) := by decide +kernel
theorem dX2_moveOn_61 : decode cX2_moveOn 61 = .ok (.invokevirtual 40, 3) := by decide +kernel
theorem dX2_moveOn_64 : decode cX2_moveOn 64 = .ok (.goto 12, 3) := by decide +kernel
theorem dX2_moveOn_67 : decode cX2_moveOn 67 = .ok (.aload_n 0, 1) := by decide +kernel
theorem dX2_moveOn_68 : decode cX2_moveOn 68 = .ok (.iload_n 3, 1) := by decide +kernel
theorem dX2_moveOn_69 : decode cX2_moveOn 69 = .ok (.iload_n 2, 1) := by decide +kernel
theorem dX2_moveOn_70 : decode cX2_moveOn 70 = .ok (.invokevirtual 44, 3) := by decide +kernel
theorem dX2_moveOn_73 : decode cX2_moveOn 73 = .ok (.iinc 2 1, 3) := by decide +kernel
theorem dX2_moveOn_76 : decode cX2_moveOn 76 = .ok (.iinc 3 1, 3) := by decide +kernel
theorem dX2_moveOn_79 : decode cX2_moveOn 79 = .ok (.goto (-70), 3) := by decide +kernel
theorem dX2_moveOn_82 : decode cX2_moveOn 82 = .ok (.aload_n 0, 1) := by decide +kernel
theorem dX2_moveOn_83 : decode cX2_moveOn 83 = .ok (.iload_n 2, 1) := by decide +kernel
theorem dX2_moveOn_84 : decode cX2_moveOn 84 = .ok (.putfield 27, 3) := by decide +kernel
theorem dX2_moveOn_87 : decode cX2_moveOn 87 = .ok (.return_, 1) := by decide +kernel
set_option maxRecDepth 20000 in
theorem ggX2_fact_X3_isIn : GoodIn wsX2_fact wsX3_isIn := goodIn_r _ [8] (by decide +kernel) (by decide +kernel)
set_option maxRecDepth 20000 in
theorem gX2_fact_X3_isIn_n48 : GoodIn wsX2_fact (wsX3_isIn) := ggX2_fact_X3_isIn
set_option maxRecDepth 20000 in
theorem ggX3_init_X1_init : GoodIn wsX3_init wsX1_init := goodIn_r _ [11, 12, 2, 3, 13, 14, 15, 16, 17, 18, 19, 20, 21, 22, 23, 24, 25, 26, 27, 28, 29, 30, 31, 32, 33, 34, 35, 36, 37, 38, 39, 40, 41, 42, 43, 46, 47, 48, 49, 50, 51, 52, 53, 54, 55, 56, 57, 58, 59, 60, 61, 62, 63, 64, 65, 66] (by decide +kernel) (by decide +kernel)
set_option maxRecDepth 20000 in
theorem gX3_init_X1_init : GoodIn wsX3_init (wsX1_init) := ggX3_init_X1_init
theorem dX3_init_0 : decode cX3_init 0 = .ok (.aload_n 0, 1) := by decide +kernel
theorem dX3_init_1 : decode cX3_init 1 = .ok (.invokespecial 1, 3) := by decide +kernel
theorem dX3_init_4 : decode cX3_init 4 = .ok (.aload_n 0, 1) := by decide +kernel
theorem dX3_init_5 : decode cX3_init 5 = .ok (.new 7, 3) := by decide +kernel
theorem dX3_init_8 : decode cX3_init 8 = .ok (.dup, 1) := by decide +kernel
theorem dX3_init_9 : decode cX3_init 9 = .ok (.invokespecial 9, 3) := by decide +kernel
theorem dX3_init_12 : decode cX3_init 12 = .ok (.putfield 10, 3) := by decide +kernel
theorem dX3_init_15 : decode cX3_init 15 = .ok (.aload_n 0, 1) := by decide +kernel
theorem dX3_init_16 : decode cX3_init 16 = .ok (.new 7, 3) := by decide +kernel
theorem dX3_init_19 : decode cX3_init 19 = .ok (.dup, 1) := by decide +kernel
theorem dX3_init_20 : decode cX3_init 20 = .ok (.invokespecial 9, 3) := by decide +kernel
theorem dX3_init_23 : decode cX3_init 23 = .ok (.putfield 16, 3) := by decide +kernel
theorem dX3_init_26 : decode cX3_init 26 = .ok (.return_, 1) := by decide +kernel
set_option maxRecDepth 20000 in
theorem ggX3_build_X3_isIn : GoodIn wsX3_build wsX3_isIn := goodIn_r _ [10] (by decide +kernel) (by decide +kernel)
set_option maxRecDepth 20000 in
theorem gX3_build_X3_isIn : GoodIn wsX3_build (va_wsS RX3 19 yX3_isIn wsX3_isIn) := goodIn_app (goodIn_of _ (by decide +kernel)) ggX3_build_X3_isIn
set_option maxRecDepth 20000 in
theorem ggX3_build_X3_isPatience : GoodIn wsX3_build wsX3_isPatience := goodIn_r _ [13, 7, 8, 9, 10] (by decide +kernel) (by decide +kernel)
set_option maxRecDepth 20000 in
theorem gX3_build_X3_isPatience : GoodIn wsX3_build (va_wsS RX3 30 yX3_isPatience wsX3_isPatience) := goodIn_app (goodIn_of _ (by decide +kernel)) ggX3_build_X3_isPatience
set_option maxRecDepth 20000 in
theorem ggX3_build_X3_isRule : GoodIn wsX3_build wsX3_isRule := goodIn_r _ [16, 7, 8, 9, 10] (by decide +kernel) (by decide +kernel)
set_option maxRecDepth 20000 in
theorem gX3_build_X3_isRule : GoodIn wsX3_build (va_wsS RX3 34 yX3_isRule wsX3_isRule) := goodIn_app (goodIn_of _ (by decide +kernel)) ggX3_build_X3_isRule
set_option maxRecDepth 20000 in
theorem ggX3_build_X1_addDoor : GoodIn wsX3_build wsX1_addDoor := goodIn_r _ [21, 22, 23, 24, 25, 26, 29, 30, 31, 32, 33, 34, 35, 36, 37, 38, 39, 40, 41, 42, 43, 44, 45, 46, 47] (by decide +kernel) (by decide +kernel)
set_option maxRecDepth 20000 in
theorem gX3_build_X1_addDoor : GoodIn wsX3_build (wsV RX3 48 RX1 yX1_addDoor wsX1_addDoor) := goodIn_app (goodIn_of _ (by decide +kernel)) ggX3_build_X1_addDoor
theorem dX3_build_0 : decode cX3_build 0 = .ok (.iload_n 1, 1) := by decide +kernel
theorem dX3_build_1 : decode cX3_build 1 = .ok (.iconst 0, 1) := by decide +kernel
theorem dX3_build_2 : decode cX3_build 2 = .ok (.bipush 99, 2) := by decide +kernel
theorem dX3_build_4 : decode cX3_build 4 = .ok (.invokestatic 19, 3) := by decide +kernel
theorem dX3_build_7 : decode cX3_build 7 = .ok (.ifCond .ne 13, 3) := by decide +kernel
theorem dX3_build_10 : decode cX3_build 10 = .ok (.new 23, 3) := by decide +kernel
theorem dX3_build_13 : decode cX3_build 13 = .ok (.dup, 1) := by decide +kernel
theorem dX3_build_14 : decode cX3_build 14 = .ok (.ldc 25, 2) := by decide +kernel
theorem dX3_build_16 : decode cX3_build 16 = .ok (.invokespecial 27, 3) := by decide +kernel
theorem dX3_build_19 : decode cX3_build 19 = .ok (.athrow, 1) := by decide +kernel
theorem dX3_build_20 : decode cX3_build 20 = .ok (.iload_n 2, 1) := by decide +kernel
theorem dX3_build_21 : decode cX3_build 21 = .ok (.invokestatic 30, 3) := by decide +kernel
theorem dX3_build_24 : decode cX3_build 24 = .ok (.ifCond .eq 10, 3) := by decide +kernel
theorem dX3_build_27 : decode cX3_build 27 = .ok (.iload_n 3, 1) := by decide +kernel
theorem dX3_build_28 : decode cX3_build 28 = .ok (.invokestatic 34, 3) := by decide +kernel
theorem dX3_build_31 : decode cX3_build 31 = .ok (.ifCond .ne 13, 3) := by decide +kernel
theorem dX3_build_34 : decode cX3_build 34 = .ok (.new 23, 3) := by decide +kernel
theorem dX3_build_37 : decode cX3_build 37 = .ok (.dup, 1) := by decide +kernel
theorem dX3_build_38 : decode cX3_build 38 = .ok (.ldc 37, 2) := by decide +kernel
theorem dX3_build_40 : decode cX3_build 40 = .ok (.invokespecial 27, 3) := by decide +kernel
theorem dX3_build_43 : decode cX3_build 43 = .ok (.athrow, 1) := by decide +kernel
theorem dX3_build_44 : decode cX3_build 44 = .ok (.aload_n 0, 1) := by decide +kernel
theorem dX3_build_45 : decode cX3_build 45 = .ok (.getfield 10, 3) := by decide +kernel
theorem dX3_build_48 : decode cX3_build 48 = .ok (.getfield 39, 3) := by decide +kernel
theorem dX3_build_51 : decode cX3_build 51 = .ok (.bipush 10, 2) := by decide +kernel
theorem dX3_build_53 : decode cX3_build 53 = .ok (.if_icmp .lt 13, 3) := by decide +kernel
theorem dX3_build_56 : decode cX3_build 56 = .ok (.new 43, 3) := by decide +kernel
theorem dX3_build_59 : decode cX3_build 59 = .ok (.dup, 1) := by decide +kernel
theorem dX3_build_60 : decode cX3_build 60 = .ok (.ldc 45, 2) := by decide +kernel
theorem dX3_build_62 : decode cX3_build 62 = .ok (.invokespecial 47, 3) := by decide +kernel
theorem dX3_build_65 : decode cX3_build 65 = .ok (.athrow, 1) := by decide +kernel
theorem dX3_build_66 : decode cX3_build 66 = .ok (.aload_n 0, 1) := by decide +kernel
theorem dX3_build_67 : decode cX3_build 67 = .ok (.getfield 10, 3) := by decide +kernel
theorem dX3_build_70 : decode cX3_build 70 = .ok (.iload_n 1, 1) := by decide +kernel
theorem dX3_build_71 : decode cX3_build 71 = .ok (.iload_n 2, 1) := by decide +kernel
theorem dX3_build_72 : decode cX3_build 72 = .ok (.iload_n 3, 1) := by decide +kernel
theorem dX3_build_73 : decode cX3_build 73 = .ok (.invokevirtual 48, 3) := by decide +kernel
theorem dX3_build_76 : decode cX3_build 76 = .ok (.ireturn, 1) := by decide +kernel
set_option maxRecDepth 20000 in
theorem ggX3_ask_X1_isDoor : GoodIn wsX3_ask wsX1_isDoor := goodIn_r _ [15, 16, 36, 37, 38, 39, 40] (by decide +kernel) (by decide +kernel)
set_option maxRecDepth 20000 in
theorem gX3_ask_X1_isDoor : GoodIn wsX3_ask (wsV RX3 52 RX1 yX1_isDoor wsX1_isDoor) := goodIn_app (goodIn_of _ (by decide +kernel)) ggX3_ask_X1_isDoor
set_option maxRecDepth 20000 in
theorem ggX3_ask_X3_isIn : GoodIn wsX3_ask wsX3_isIn := goodIn_r _ [20] (by decide +kernel) (by decide +kernel)
set_option maxRecDepth 20000 in
theorem gX3_ask_X3_isIn : GoodIn wsX3_ask (va_wsS RX3 19 yX3_isIn wsX3_isIn) := goodIn_app (goodIn_of _ (by decide +kernel)) ggX3_ask_X3_isIn
set_option maxRecDepth 20000 in
theorem ggX3_ask_X0_placeOf : GoodIn wsX3_ask wsX0_placeOf := goodIn_r _ [25, 26, 27, 41, 42, 43, 44, 45, 46, 47, 48, 49, 50, 51, 52, 53, 54] (by decide +kernel) (by decide +kernel)
set_option maxRecDepth 20000 in
theorem gX3_ask_X0_placeOf : GoodIn wsX3_ask (wsV RX3 71 RX0 yX0_placeOf wsX0_placeOf) := goodIn_app (goodIn_of _ (by decide +kernel)) ggX3_ask_X0_placeOf
set_option maxRecDepth 20000 in
theorem ggX3_ask_X0_addAsked : GoodIn wsX3_ask wsX0_addAsked := goodIn_r _ [31, 26, 27, 32, 33, 41, 42, 43, 44, 45, 46, 47, 48, 49, 50, 51, 52, 53, 54] (by decide +kernel) (by decide +kernel)
set_option maxRecDepth 20000 in
theorem gX3_ask_X0_addAsked : GoodIn wsX3_ask (wsV RX3 80 RX0 yX0_addAsked wsX0_addAsked) := goodIn_app (goodIn_of _ (by decide +kernel)) ggX3_ask_X0_addAsked
theorem dX3_ask_0 : decode cX3_ask 0 = .ok (.aload_n 0, 1) := by decide +kernel
theorem dX3_ask_1 : decode cX3_ask 1 = .ok (.getfield 10, 3) := by decide +kernel
theorem dX3_ask_4 : decode cX3_ask 4 = .ok (.iload_n 1, 1) := by decide +kernel
theorem dX3_ask_5 : decode cX3_ask 5 = .ok (.invokevirtual 52, 3) := by decide +kernel
theorem dX3_ask_8 : decode cX3_ask 8 = .ok (.ifCond .eq 14, 3) := by decide +kernel
theorem dX3_ask_11 : decode cX3_ask 11 = .ok (.aload_n 0, 1) := by decide +kernel
theorem dX3_ask_12 : decode cX3_ask 12 = .ok (.getfield 10, 3) := by decide +kernel
theorem dX3_ask_15 : decode cX3_ask 15 = .ok (.iload_n 2, 1) := by decide +kernel
theorem dX3_ask_16 : decode cX3_ask 16 = .ok (.invokevirtual 52, 3) := by decide +kernel
theorem dX3_ask_19 : decode cX3_ask 19 = .ok (.ifCond .ne 13, 3) := by decide +kernel
theorem dX3_ask_22 : decode cX3_ask 22 = .ok (.new 55, 3) := by decide +kernel
theorem dX3_ask_25 : decode cX3_ask 25 = .ok (.dup, 1) := by decide +kernel
theorem dX3_ask_26 : decode cX3_ask 26 = .ok (.ldc 57, 2) := by decide +kernel
theorem dX3_ask_28 : decode cX3_ask 28 = .ok (.invokespecial 59, 3) := by decide +kernel
theorem dX3_ask_31 : decode cX3_ask 31 = .ok (.athrow, 1) := by decide +kernel
theorem dX3_ask_32 : decode cX3_ask 32 = .ok (.iload_n 1, 1) := by decide +kernel
theorem dX3_ask_33 : decode cX3_ask 33 = .ok (.iload_n 2, 1) := by decide +kernel
theorem dX3_ask_34 : decode cX3_ask 34 = .ok (.if_icmp .eq 12, 3) := by decide +kernel
theorem dX3_ask_37 : decode cX3_ask 37 = .ok (.iload_n 3, 1) := by decide +kernel
theorem dX3_ask_38 : decode cX3_ask 38 = .ok (.iconst 1, 1) := by decide +kernel
theorem dX3_ask_39 : decode cX3_ask 39 = .ok (.iconst 5, 1) := by decide +kernel
theorem dX3_ask_40 : decode cX3_ask 40 = .ok (.invokestatic 19, 3) := by decide +kernel
theorem dX3_ask_43 : decode cX3_ask 43 = .ok (.ifCond .ne 13, 3) := by decide +kernel
theorem dX3_ask_46 : decode cX3_ask 46 = .ok (.new 23, 3) := by decide +kernel
theorem dX3_ask_49 : decode cX3_ask 49 = .ok (.dup, 1) := by decide +kernel
theorem dX3_ask_50 : decode cX3_ask 50 = .ok (.ldc 60, 2) := by decide +kernel
theorem dX3_ask_52 : decode cX3_ask 52 = .ok (.invokespecial 27, 3) := by decide +kernel
theorem dX3_ask_55 : decode cX3_ask 55 = .ok (.athrow, 1) := by decide +kernel
theorem dX3_ask_56 : decode cX3_ask 56 = .ok (.aload_n 0, 1) := by decide +kernel
theorem dX3_ask_57 : decode cX3_ask 57 = .ok (.getfield 10, 3) := by decide +kernel
theorem dX3_ask_60 : decode cX3_ask 60 = .ok (.getfield 62, 3) := by decide +kernel
theorem dX3_ask_63 : decode cX3_ask 63 = .ok (.iload_n 1, 1) := by decide +kernel
theorem dX3_ask_64 : decode cX3_ask 64 = .ok (.aaload, 1) := by decide +kernel
theorem dX3_ask_65 : decode cX3_ask 65 = .ok (.astore 4, 2) := by decide +kernel
theorem dX3_ask_67 : decode cX3_ask 67 = .ok (.aload 4, 2) := by decide +kernel
theorem dX3_ask_69 : decode cX3_ask 69 = .ok (.getfield 66, 3) := by decide +kernel
theorem dX3_ask_72 : decode cX3_ask 72 = .ok (.ifCond .ne 21, 3) := by decide +kernel
theorem dX3_ask_75 : decode cX3_ask 75 = .ok (.aload 4, 2) := by decide +kernel
theorem dX3_ask_77 : decode cX3_ask 77 = .ok (.iload_n 2, 1) := by decide +kernel
theorem dX3_ask_78 : decode cX3_ask 78 = .ok (.invokevirtual 71, 3) := by decide +kernel
theorem dX3_ask_81 : decode cX3_ask 81 = .ok (.ifCond .ge 12, 3) := by decide +kernel
theorem dX3_ask_84 : decode cX3_ask 84 = .ok (.aload 4, 2) := by decide +kernel
theorem dX3_ask_86 : decode cX3_ask 86 = .ok (.getfield 75, 3) := by decide +kernel
theorem dX3_ask_89 : decode cX3_ask 89 = .ok (.iconst 4, 1) := by decide +kernel
theorem dX3_ask_90 : decode cX3_ask 90 = .ok (.if_icmp .lt 13, 3) := by decide +kernel
theorem dX3_ask_93 : decode cX3_ask 93 = .ok (.new 43, 3) := by decide +kernel
theorem dX3_ask_96 : decode cX3_ask 96 = .ok (.dup, 1) := by decide +kernel
theorem dX3_ask_97 : decode cX3_ask 97 = .ok (.ldc 78, 2) := by decide +kernel
theorem dX3_ask_99 : decode cX3_ask 99 = .ok (.invokespecial 47, 3) := by decide +kernel
theorem dX3_ask_102 : decode cX3_ask 102 = .ok (.athrow, 1) := by decide +kernel
theorem dX3_ask_103 : decode cX3_ask 103 = .ok (.aload 4, 2) := by decide +kernel
theorem dX3_ask_105 : decode cX3_ask 105 = .ok (.iload_n 2, 1) := by decide +kernel
theorem dX3_ask_106 : decode cX3_ask 106 = .ok (.iload_n 3, 1) := by decide +kernel
theorem dX3_ask_107 : decode cX3_ask 107 = .ok (.invokevirtual 80, 3) := by decide +kernel
theorem dX3_ask_110 : decode cX3_ask 110 = .ok (.aload 4, 2) := by decide +kernel
theorem dX3_ask_112 : decode cX3_ask 112 = .ok (.getfield 75, 3) := by decide +kernel
theorem dX3_ask_115 : decode cX3_ask 115 = .ok (.ireturn, 1) := by decide +kernel
set_option maxRecDepth 20000 in
theorem ggX3_set_X1_isDoor : GoodIn wsX3_set wsX1_isDoor := goodIn_r _ [13, 14, 27, 28, 29, 30, 31] (by decide +kernel) (by decide +kernel)
set_option maxRecDepth 20000 in
theorem gX3_set_X1_isDoor : GoodIn wsX3_set (wsV RX3 52 RX1 yX1_isDoor wsX1_isDoor) := goodIn_app (goodIn_of _ (by decide +kernel)) ggX3_set_X1_isDoor
set_option maxRecDepth 20000 in
theorem ggX3_set_X3_isRule : GoodIn wsX3_set wsX3_isRule := goodIn_r _ [18, 19, 20, 17, 21] (by decide +kernel) (by decide +kernel)
set_option maxRecDepth 20000 in
theorem gX3_set_X3_isRule : GoodIn wsX3_set (va_wsS RX3 34 yX3_isRule wsX3_isRule) := goodIn_app (goodIn_of _ (by decide +kernel)) ggX3_set_X3_isRule
set_option maxRecDepth 20000 in
theorem ggX3_set_X3_isPatience : GoodIn wsX3_set wsX3_isPatience := goodIn_r _ [24, 19, 20, 17, 21] (by decide +kernel) (by decide +kernel)
set_option maxRecDepth 20000 in
theorem gX3_set_X3_isPatience : GoodIn wsX3_set (va_wsS RX3 30 yX3_isPatience wsX3_isPatience) := goodIn_app (goodIn_of _ (by decide +kernel)) ggX3_set_X3_isPatience
theorem dX3_set_0 : decode cX3_set 0 = .ok (.aload_n 0, 1) := by decide +kernel
theorem dX3_set_1 : decode cX3_set 1 = .ok (.getfield 10, 3) := by decide +kernel
theorem dX3_set_4 : decode cX3_set 4 = .ok (.iload_n 1, 1) := by decide +kernel
theorem dX3_set_5 : decode cX3_set 5 = .ok (.invokevirtual 52, 3) := by decide +kernel
theorem dX3_set_8 : decode cX3_set 8 = .ok (.ifCond .ne 13, 3) := by decide +kernel
theorem dX3_set_11 : decode cX3_set 11 = .ok (.new 55, 3) := by decide +kernel
theorem dX3_set_14 : decode cX3_set 14 = .ok (.dup, 1) := by decide +kernel
theorem dX3_set_15 : decode cX3_set 15 = .ok (.ldc 57, 2) := by decide +kernel
theorem dX3_set_17 : decode cX3_set 17 = .ok (.invokespecial 59, 3) := by decide +kernel
theorem dX3_set_20 : decode cX3_set 20 = .ok (.athrow, 1) := by decide +kernel
theorem dX3_set_21 : decode cX3_set 21 = .ok (.iload_n 2, 1) := by decide +kernel
theorem dX3_set_22 : decode cX3_set 22 = .ok (.invokestatic 34, 3) := by decide +kernel
theorem dX3_set_25 : decode cX3_set 25 = .ok (.ifCond .eq 10, 3) := by decide +kernel
theorem dX3_set_28 : decode cX3_set 28 = .ok (.iload_n 3, 1) := by decide +kernel
theorem dX3_set_29 : decode cX3_set 29 = .ok (.invokestatic 30, 3) := by decide +kernel
theorem dX3_set_32 : decode cX3_set 32 = .ok (.ifCond .ne 13, 3) := by decide +kernel
theorem dX3_set_35 : decode cX3_set 35 = .ok (.new 23, 3) := by decide +kernel
theorem dX3_set_38 : decode cX3_set 38 = .ok (.dup, 1) := by decide +kernel
theorem dX3_set_39 : decode cX3_set 39 = .ok (.ldc 84, 2) := by decide +kernel
theorem dX3_set_41 : decode cX3_set 41 = .ok (.invokespecial 27, 3) := by decide +kernel
theorem dX3_set_44 : decode cX3_set 44 = .ok (.athrow, 1) := by decide +kernel
theorem dX3_set_45 : decode cX3_set 45 = .ok (.aload_n 0, 1) := by decide +kernel
theorem dX3_set_46 : decode cX3_set 46 = .ok (.getfield 10, 3) := by decide +kernel
theorem dX3_set_49 : decode cX3_set 49 = .ok (.getfield 62, 3) := by decide +kernel
theorem dX3_set_52 : decode cX3_set 52 = .ok (.iload_n 1, 1) := by decide +kernel
theorem dX3_set_53 : decode cX3_set 53 = .ok (.aaload, 1) := by decide +kernel
theorem dX3_set_54 : decode cX3_set 54 = .ok (.astore 4, 2) := by decide +kernel
theorem dX3_set_56 : decode cX3_set 56 = .ok (.bipush 100, 2) := by decide +kernel
theorem dX3_set_58 : decode cX3_set 58 = .ok (.aload 4, 2) := by decide +kernel
theorem dX3_set_60 : decode cX3_set 60 = .ok (.getfield 86, 3) := by decide +kernel
theorem dX3_set_63 : decode cX3_set 63 = .ok (.imul, 1) := by decide +kernel
theorem dX3_set_64 : decode cX3_set 64 = .ok (.aload 4, 2) := by decide +kernel
theorem dX3_set_66 : decode cX3_set 66 = .ok (.getfield 89, 3) := by decide +kernel
theorem dX3_set_69 : decode cX3_set 69 = .ok (.iadd, 1) := by decide +kernel
theorem dX3_set_70 : decode cX3_set 70 = .ok (.istore 5, 2) := by decide +kernel
theorem dX3_set_72 : decode cX3_set 72 = .ok (.aload 4, 2) := by decide +kernel
theorem dX3_set_74 : decode cX3_set 74 = .ok (.iload_n 2, 1) := by decide +kernel
theorem dX3_set_75 : decode cX3_set 75 = .ok (.putfield 86, 3) := by decide +kernel
theorem dX3_set_78 : decode cX3_set 78 = .ok (.aload 4, 2) := by decide +kernel
theorem dX3_set_80 : decode cX3_set 80 = .ok (.iload_n 3, 1) := by decide +kernel
theorem dX3_set_81 : decode cX3_set 81 = .ok (.putfield 89, 3) := by decide +kernel
theorem dX3_set_84 : decode cX3_set 84 = .ok (.iload 5, 2) := by decide +kernel
theorem dX3_set_86 : decode cX3_set 86 = .ok (.ireturn, 1) := by decide +kernel
set_option maxRecDepth 20000 in
theorem ggX3_whisper_X1_isDoor : GoodIn wsX3_whisper wsX1_isDoor := goodIn_r _ [10, 11, 59, 60, 61, 62, 63] (by decide +kernel) (by decide +kernel)
set_option maxRecDepth 20000 in
theorem gX3_whisper_X1_isDoor : GoodIn wsX3_whisper (wsV RX3 52 RX1 yX1_isDoor wsX1_isDoor) := goodIn_app (goodIn_of _ (by decide +kernel)) ggX3_whisper_X1_isDoor
set_option maxRecDepth 20000 in
theorem ggX3_whisper_X3_isIn : GoodIn wsX3_whisper wsX3_isIn := goodIn_r _ [15] (by decide +kernel) (by decide +kernel)
set_option maxRecDepth 20000 in
theorem gX3_whisper_X3_isIn : GoodIn wsX3_whisper (va_wsS RX3 19 yX3_isIn wsX3_isIn) := goodIn_app (goodIn_of _ (by decide +kernel)) ggX3_whisper_X3_isIn
set_option maxRecDepth 20000 in
theorem ggX3_whisper_X1_hearToken : GoodIn wsX3_whisper wsX1_hearToken := goodIn_r _ [19, 20, 21, 22, 23, 7, 8, 9, 10, 11, 24, 25, 26, 27, 28, 29, 30, 31, 32, 33, 34, 35, 36, 37, 38, 39, 40, 41, 42, 43, 44, 45, 46, 47, 48, 49, 50, 51, 52, 53, 54, 55, 56, 59, 60, 61, 62, 63, 64, 65, 66, 67, 68, 69, 70, 71, 72, 73, 74, 75, 76, 77, 78, 79, 80, 81, 82, 83, 84] (by decide +kernel) (by decide +kernel)
set_option maxRecDepth 20000 in
theorem gX3_whisper_X1_hearToken : GoodIn wsX3_whisper (wsV RX3 94 RX1 yX1_hearToken wsX1_hearToken) := goodIn_app (goodIn_of _ (by decide +kernel)) ggX3_whisper_X1_hearToken
theorem dX3_whisper_0 : decode cX3_whisper 0 = .ok (.aload_n 0, 1) := by decide +kernel
theorem dX3_whisper_1 : decode cX3_whisper 1 = .ok (.getfield 10, 3) := by decide +kernel
theorem dX3_whisper_4 : decode cX3_whisper 4 = .ok (.iload_n 1, 1) := by decide +kernel
theorem dX3_whisper_5 : decode cX3_whisper 5 = .ok (.invokevirtual 52, 3) := by decide +kernel
theorem dX3_whisper_8 : decode cX3_whisper 8 = .ok (.ifCond .ne 13, 3) := by decide +kernel
theorem dX3_whisper_11 : decode cX3_whisper 11 = .ok (.new 55, 3) := by decide +kernel
theorem dX3_whisper_14 : decode cX3_whisper 14 = .ok (.dup, 1) := by decide +kernel
theorem dX3_whisper_15 : decode cX3_whisper 15 = .ok (.ldc 57, 2) := by decide +kernel
theorem dX3_whisper_17 : decode cX3_whisper 17 = .ok (.invokespecial 59, 3) := by decide +kernel
theorem dX3_whisper_20 : decode cX3_whisper 20 = .ok (.athrow, 1) := by decide +kernel
theorem dX3_whisper_21 : decode cX3_whisper 21 = .ok (.iload_n 2, 1) := by decide +kernel
theorem dX3_whisper_22 : decode cX3_whisper 22 = .ok (.iconst 0, 1) := by decide +kernel
theorem dX3_whisper_23 : decode cX3_whisper 23 = .ok (.bipush 99, 2) := by decide +kernel
theorem dX3_whisper_25 : decode cX3_whisper 25 = .ok (.invokestatic 19, 3) := by decide +kernel
theorem dX3_whisper_28 : decode cX3_whisper 28 = .ok (.ifCond .ne 13, 3) := by decide +kernel
theorem dX3_whisper_31 : decode cX3_whisper 31 = .ok (.new 23, 3) := by decide +kernel
theorem dX3_whisper_34 : decode cX3_whisper 34 = .ok (.dup, 1) := by decide +kernel
theorem dX3_whisper_35 : decode cX3_whisper 35 = .ok (.ldc 92, 2) := by decide +kernel
theorem dX3_whisper_37 : decode cX3_whisper 37 = .ok (.invokespecial 27, 3) := by decide +kernel
theorem dX3_whisper_40 : decode cX3_whisper 40 = .ok (.athrow, 1) := by decide +kernel
theorem dX3_whisper_41 : decode cX3_whisper 41 = .ok (.aload_n 0, 1) := by decide +kernel
theorem dX3_whisper_42 : decode cX3_whisper 42 = .ok (.getfield 10, 3) := by decide +kernel
theorem dX3_whisper_45 : decode cX3_whisper 45 = .ok (.iload_n 1, 1) := by decide +kernel
theorem dX3_whisper_46 : decode cX3_whisper 46 = .ok (.iload_n 2, 1) := by decide +kernel
theorem dX3_whisper_47 : decode cX3_whisper 47 = .ok (.invokevirtual 94, 3) := by decide +kernel
theorem dX3_whisper_50 : decode cX3_whisper 50 = .ok (.ireturn, 1) := by decide +kernel
set_option maxRecDepth 20000 in
theorem ggX3_door_X1_isDoor : GoodIn wsX3_door wsX1_isDoor := goodIn_r _ [9, 10, 34, 35, 36, 37, 38] (by decide +kernel) (by decide +kernel)
set_option maxRecDepth 20000 in
theorem gX3_door_X1_isDoor : GoodIn wsX3_door (wsV RX3 52 RX1 yX1_isDoor wsX1_isDoor) := goodIn_app (goodIn_of _ (by decide +kernel)) ggX3_door_X1_isDoor
set_option maxRecDepth 20000 in
theorem ggX3_door_X3_isIn : GoodIn wsX3_door wsX3_isIn := goodIn_r _ [14] (by decide +kernel) (by decide +kernel)
set_option maxRecDepth 20000 in
theorem gX3_door_X3_isIn : GoodIn wsX3_door (va_wsS RX3 19 yX3_isIn wsX3_isIn) := goodIn_app (goodIn_of _ (by decide +kernel)) ggX3_door_X3_isIn
set_option maxRecDepth 20000 in
theorem ggX3_door_X0_fact : GoodIn wsX3_door wsX0_fact := goodIn_r _ [19, 20, 21, 22, 23, 24, 25, 26, 27, 28, 29, 18, 30, 31, 39, 40, 41, 42, 43, 44, 45, 46, 47, 48, 49, 50, 51, 52] (by decide +kernel) (by decide +kernel)
set_option maxRecDepth 20000 in
theorem gX3_door_X0_fact : GoodIn wsX3_door (wsV RX3 100 RX0 yX0_fact wsX0_fact) := goodIn_app (goodIn_of _ (by decide +kernel)) ggX3_door_X0_fact
theorem dX3_door_0 : decode cX3_door 0 = .ok (.aload_n 0, 1) := by decide +kernel
theorem dX3_door_1 : decode cX3_door 1 = .ok (.getfield 10, 3) := by decide +kernel
theorem dX3_door_4 : decode cX3_door 4 = .ok (.iload_n 1, 1) := by decide +kernel
theorem dX3_door_5 : decode cX3_door 5 = .ok (.invokevirtual 52, 3) := by decide +kernel
theorem dX3_door_8 : decode cX3_door 8 = .ok (.ifCond .eq 13, 3) := by decide +kernel
theorem dX3_door_11 : decode cX3_door 11 = .ok (.iload_n 2, 1) := by decide +kernel
theorem dX3_door_12 : decode cX3_door 12 = .ok (.iconst 0, 1) := by decide +kernel
theorem dX3_door_13 : decode cX3_door 13 = .ok (.bipush 8, 2) := by decide +kernel
theorem dX3_door_15 : decode cX3_door 15 = .ok (.invokestatic 19, 3) := by decide +kernel
theorem dX3_door_18 : decode cX3_door 18 = .ok (.ifCond .ne 13, 3) := by decide +kernel
theorem dX3_door_21 : decode cX3_door 21 = .ok (.new 55, 3) := by decide +kernel
theorem dX3_door_24 : decode cX3_door 24 = .ok (.dup, 1) := by decide +kernel
theorem dX3_door_25 : decode cX3_door 25 = .ok (.ldc 98, 2) := by decide +kernel
theorem dX3_door_27 : decode cX3_door 27 = .ok (.invokespecial 59, 3) := by decide +kernel
theorem dX3_door_30 : decode cX3_door 30 = .ok (.athrow, 1) := by decide +kernel
theorem dX3_door_31 : decode cX3_door 31 = .ok (.aload_n 0, 1) := by decide +kernel
theorem dX3_door_32 : decode cX3_door 32 = .ok (.getfield 10, 3) := by decide +kernel
theorem dX3_door_35 : decode cX3_door 35 = .ok (.getfield 62, 3) := by decide +kernel
theorem dX3_door_38 : decode cX3_door 38 = .ok (.iload_n 1, 1) := by decide +kernel
theorem dX3_door_39 : decode cX3_door 39 = .ok (.aaload, 1) := by decide +kernel
theorem dX3_door_40 : decode cX3_door 40 = .ok (.iload_n 2, 1) := by decide +kernel
theorem dX3_door_41 : decode cX3_door 41 = .ok (.invokevirtual 100, 3) := by decide +kernel
theorem dX3_door_44 : decode cX3_door 44 = .ok (.ireturn, 1) := by decide +kernel
set_option maxRecDepth 20000 in
theorem ggX3_asks_X1_isDoor : GoodIn wsX3_asks wsX1_isDoor := goodIn_r _ [10, 11, 27, 28, 29, 30, 31] (by decide +kernel) (by decide +kernel)
set_option maxRecDepth 20000 in
theorem gX3_asks_X1_isDoor : GoodIn wsX3_asks (wsV RX3 52 RX1 yX1_isDoor wsX1_isDoor) := goodIn_app (goodIn_of _ (by decide +kernel)) ggX3_asks_X1_isDoor
set_option maxRecDepth 20000 in
theorem ggX3_asks_X3_isIn : GoodIn wsX3_asks wsX3_isIn := goodIn_r _ [15] (by decide +kernel) (by decide +kernel)
set_option maxRecDepth 20000 in
theorem gX3_asks_X3_isIn : GoodIn wsX3_asks (va_wsS RX3 19 yX3_isIn wsX3_isIn) := goodIn_app (goodIn_of _ (by decide +kernel)) ggX3_asks_X3_isIn
set_option maxRecDepth 20000 in
theorem ggX3_asks_X0_askedFact : GoodIn wsX3_asks wsX0_askedFact := goodIn_r _ [20, 21, 22, 23, 24, 13, 14, 15, 32, 33, 34, 35, 36, 37, 38, 39, 40, 41, 42, 43, 44, 45] (by decide +kernel) (by decide +kernel)
set_option maxRecDepth 20000 in
theorem gX3_asks_X0_askedFact : GoodIn wsX3_asks (wsV RX3 107 RX0 yX0_askedFact wsX0_askedFact) := goodIn_app (goodIn_of _ (by decide +kernel)) ggX3_asks_X0_askedFact
theorem dX3_asks_0 : decode cX3_asks 0 = .ok (.aload_n 0, 1) := by decide +kernel
theorem dX3_asks_1 : decode cX3_asks 1 = .ok (.getfield 10, 3) := by decide +kernel
theorem dX3_asks_4 : decode cX3_asks 4 = .ok (.iload_n 1, 1) := by decide +kernel
theorem dX3_asks_5 : decode cX3_asks 5 = .ok (.invokevirtual 52, 3) := by decide +kernel
theorem dX3_asks_8 : decode cX3_asks 8 = .ok (.ifCond .eq 12, 3) := by decide +kernel
theorem dX3_asks_11 : decode cX3_asks 11 = .ok (.iload_n 3, 1) := by decide +kernel
theorem dX3_asks_12 : decode cX3_asks 12 = .ok (.iconst 0, 1) := by decide +kernel
theorem dX3_asks_13 : decode cX3_asks 13 = .ok (.iconst 2, 1) := by decide +kernel
theorem dX3_asks_14 : decode cX3_asks 14 = .ok (.invokestatic 19, 3) := by decide +kernel
theorem dX3_asks_17 : decode cX3_asks 17 = .ok (.ifCond .ne 13, 3) := by decide +kernel
theorem dX3_asks_20 : decode cX3_asks 20 = .ok (.new 55, 3) := by decide +kernel
theorem dX3_asks_23 : decode cX3_asks 23 = .ok (.dup, 1) := by decide +kernel
theorem dX3_asks_24 : decode cX3_asks 24 = .ok (.ldc 103, 2) := by decide +kernel
theorem dX3_asks_26 : decode cX3_asks 26 = .ok (.invokespecial 59, 3) := by decide +kernel
theorem dX3_asks_29 : decode cX3_asks 29 = .ok (.athrow, 1) := by decide +kernel
theorem dX3_asks_30 : decode cX3_asks 30 = .ok (.aload_n 0, 1) := by decide +kernel
theorem dX3_asks_31 : decode cX3_asks 31 = .ok (.getfield 10, 3) := by decide +kernel
theorem dX3_asks_34 : decode cX3_asks 34 = .ok (.getfield 62, 3) := by decide +kernel
theorem dX3_asks_37 : decode cX3_asks 37 = .ok (.iload_n 1, 1) := by decide +kernel
theorem dX3_asks_38 : decode cX3_asks 38 = .ok (.aaload, 1) := by decide +kernel
theorem dX3_asks_39 : decode cX3_asks 39 = .ok (.astore 4, 2) := by decide +kernel
theorem dX3_asks_41 : decode cX3_asks 41 = .ok (.iload_n 2, 1) := by decide +kernel
theorem dX3_asks_42 : decode cX3_asks 42 = .ok (.iconst 0, 1) := by decide +kernel
theorem dX3_asks_43 : decode cX3_asks 43 = .ok (.aload 4, 2) := by decide +kernel
theorem dX3_asks_45 : decode cX3_asks 45 = .ok (.getfield 75, 3) := by decide +kernel
theorem dX3_asks_48 : decode cX3_asks 48 = .ok (.iconst 1, 1) := by decide +kernel
theorem dX3_asks_49 : decode cX3_asks 49 = .ok (.isub, 1) := by decide +kernel
theorem dX3_asks_50 : decode cX3_asks 50 = .ok (.invokestatic 19, 3) := by decide +kernel
theorem dX3_asks_53 : decode cX3_asks 53 = .ok (.ifCond .ne 13, 3) := by decide +kernel
theorem dX3_asks_56 : decode cX3_asks 56 = .ok (.new 55, 3) := by decide +kernel
theorem dX3_asks_59 : decode cX3_asks 59 = .ok (.dup, 1) := by decide +kernel
theorem dX3_asks_60 : decode cX3_asks 60 = .ok (.ldc 105, 2) := by decide +kernel
theorem dX3_asks_62 : decode cX3_asks 62 = .ok (.invokespecial 59, 3) := by decide +kernel
theorem dX3_asks_65 : decode cX3_asks 65 = .ok (.athrow, 1) := by decide +kernel
theorem dX3_asks_66 : decode cX3_asks 66 = .ok (.aload 4, 2) := by decide +kernel
theorem dX3_asks_68 : decode cX3_asks 68 = .ok (.iload_n 2, 1) := by decide +kernel
theorem dX3_asks_69 : decode cX3_asks 69 = .ok (.iload_n 3, 1) := by decide +kernel
theorem dX3_asks_70 : decode cX3_asks 70 = .ok (.invokevirtual 107, 3) := by decide +kernel
theorem dX3_asks_73 : decode cX3_asks 73 = .ok (.ireturn, 1) := by decide +kernel
set_option maxRecDepth 20000 in
theorem ggX3_voice_X3_isIn : GoodIn wsX3_voice wsX3_isIn := goodIn_r _ [9] (by decide +kernel) (by decide +kernel)
