theorem dX1_hear_25 : decode cX1_hear 25 = .ok (.iconst 2, 1) := by decide +kernel
theorem dX1_hear_26 : decode cX1_hear 26 = .ok (.if_icmp .ne 7, 3) := by decide +kernel
theorem dX1_hear_29 : decode cX1_hear 29 = .ok (.iconst 1, 1) := by decide +kernel
theorem dX1_hear_30 : decode cX1_hear 30 = .ok (.goto 4, 3) := by decide +kernel
theorem dX1_hear_33 : decode cX1_hear 33 = .ok (.iconst 0, 1) := by decide +kernel
theorem dX1_hear_34 : decode cX1_hear 34 = .ok (.invokevirtual 94, 3) := by decide +kernel
theorem dX1_hear_37 : decode cX1_hear 37 = .ok (.goto 72, 3) := by decide +kernel
theorem dX1_hear_40 : decode cX1_hear 40 = .ok (.aload 5, 2) := by decide +kernel
theorem dX1_hear_42 : decode cX1_hear 42 = .ok (.getfield 55, 3) := by decide +kernel
theorem dX1_hear_45 : decode cX1_hear 45 = .ok (.iconst 2, 1) := by decide +kernel
theorem dX1_hear_46 : decode cX1_hear 46 = .ok (.if_icmp .ne 18, 3) := by decide +kernel
theorem dX1_hear_49 : decode cX1_hear 49 = .ok (.aload_n 0, 1) := by decide +kernel
theorem dX1_hear_50 : decode cX1_hear 50 = .ok (.getfield 20, 3) := by decide +kernel
theorem dX1_hear_53 : decode cX1_hear 53 = .ok (.iload_n 2, 1) := by decide +kernel
theorem dX1_hear_54 : decode cX1_hear 54 = .ok (.iload_n 1, 1) := by decide +kernel
theorem dX1_hear_55 : decode cX1_hear 55 = .ok (.iconst 2, 1) := by decide +kernel
theorem dX1_hear_56 : decode cX1_hear 56 = .ok (.iload 4, 2) := by decide +kernel
theorem dX1_hear_58 : decode cX1_hear 58 = .ok (.invokevirtual 98, 3) := by decide +kernel
theorem dX1_hear_61 : decode cX1_hear 61 = .ok (.goto 48, 3) := by decide +kernel
theorem dX1_hear_64 : decode cX1_hear 64 = .ok (.aload 5, 2) := by decide +kernel
theorem dX1_hear_66 : decode cX1_hear 66 = .ok (.getfield 55, 3) := by decide +kernel
theorem dX1_hear_69 : decode cX1_hear 69 = .ok (.iconst 3, 1) := by decide +kernel
theorem dX1_hear_70 : decode cX1_hear 70 = .ok (.if_icmp .ne 18, 3) := by decide +kernel
theorem dX1_hear_73 : decode cX1_hear 73 = .ok (.aload_n 0, 1) := by decide +kernel
theorem dX1_hear_74 : decode cX1_hear 74 = .ok (.getfield 20, 3) := by decide +kernel
theorem dX1_hear_77 : decode cX1_hear 77 = .ok (.iload_n 2, 1) := by decide +kernel
theorem dX1_hear_78 : decode cX1_hear 78 = .ok (.iload_n 1, 1) := by decide +kernel
theorem dX1_hear_79 : decode cX1_hear 79 = .ok (.iconst 1, 1) := by decide +kernel
theorem dX1_hear_80 : decode cX1_hear 80 = .ok (.iload 4, 2) := by decide +kernel
theorem dX1_hear_82 : decode cX1_hear 82 = .ok (.invokevirtual 98, 3) := by decide +kernel
theorem dX1_hear_85 : decode cX1_hear 85 = .ok (.goto 24, 3) := by decide +kernel
theorem dX1_hear_88 : decode cX1_hear 88 = .ok (.aload 5, 2) := by decide +kernel
theorem dX1_hear_90 : decode cX1_hear 90 = .ok (.getfield 55, 3) := by decide +kernel
theorem dX1_hear_93 : decode cX1_hear 93 = .ok (.ifCond .ne 8, 3) := by decide +kernel
theorem dX1_hear_96 : decode cX1_hear 96 = .ok (.aload_n 0, 1) := by decide +kernel
theorem dX1_hear_97 : decode cX1_hear 97 = .ok (.iload_n 2, 1) := by decide +kernel
theorem dX1_hear_98 : decode cX1_hear 98 = .ok (.invokevirtual 61, 3) := by decide +kernel
theorem dX1_hear_101 : decode cX1_hear 101 = .ok (.aload 5, 2) := by decide +kernel
theorem dX1_hear_103 : decode cX1_hear 103 = .ok (.iload_n 1, 1) := by decide +kernel
theorem dX1_hear_104 : decode cX1_hear 104 = .ok (.iload 4, 2) := by decide +kernel
theorem dX1_hear_106 : decode cX1_hear 106 = .ok (.invokevirtual 101, 3) := by decide +kernel
theorem dX1_hear_109 : decode cX1_hear 109 = .ok (.return_, 1) := by decide +kernel
set_option maxRecDepth 20000 in
theorem ggX1_wake_X0_startWaiting : GoodIn wsX1_wake wsX0_startWaiting := goodIn_r _ [10, 11, 12, 13, 31, 32, 33, 34, 35, 36, 37, 38, 39, 40, 41, 42, 43, 44] (by decide +kernel) (by decide +kernel)
set_option maxRecDepth 20000 in
theorem gX1_wake_X0_startWaiting : GoodIn wsX1_wake (wsV RX1 104 RX0 yX0_startWaiting wsX0_startWaiting) := goodIn_app (goodIn_of _ (by decide +kernel)) ggX1_wake_X0_startWaiting
set_option maxRecDepth 20000 in
theorem ggX1_wake_X2_add : GoodIn wsX1_wake wsX2_add := goodIn_r _ [18, 19, 20, 21, 22, 23, 24, 25, 45, 46, 47, 48, 49, 50, 51] (by decide +kernel) (by decide +kernel)
set_option maxRecDepth 20000 in
theorem gX1_wake_X2_add : GoodIn wsX1_wake (wsV RX1 98 RX2 yX2_add wsX2_add) := goodIn_app (goodIn_of _ (by decide +kernel)) ggX1_wake_X2_add
theorem dX1_wake_0 : decode cX1_wake 0 = .ok (.aload_n 0, 1) := by decide +kernel
theorem dX1_wake_1 : decode cX1_wake 1 = .ok (.getfield 11, 3) := by decide +kernel
theorem dX1_wake_4 : decode cX1_wake 4 = .ok (.iload_n 1, 1) := by decide +kernel
theorem dX1_wake_5 : decode cX1_wake 5 = .ok (.aaload, 1) := by decide +kernel
theorem dX1_wake_6 : decode cX1_wake 6 = .ok (.astore_n 2, 1) := by decide +kernel
theorem dX1_wake_7 : decode cX1_wake 7 = .ok (.aload_n 2, 1) := by decide +kernel
theorem dX1_wake_8 : decode cX1_wake 8 = .ok (.invokevirtual 104, 3) := by decide +kernel
theorem dX1_wake_11 : decode cX1_wake 11 = .ok (.iconst 0, 1) := by decide +kernel
theorem dX1_wake_12 : decode cX1_wake 12 = .ok (.istore_n 3, 1) := by decide +kernel
theorem dX1_wake_13 : decode cX1_wake 13 = .ok (.iload_n 3, 1) := by decide +kernel
theorem dX1_wake_14 : decode cX1_wake 14 = .ok (.aload_n 2, 1) := by decide +kernel
theorem dX1_wake_15 : decode cX1_wake 15 = .ok (.getfield 107, 3) := by decide +kernel
theorem dX1_wake_18 : decode cX1_wake 18 = .ok (.if_icmp .ge 30, 3) := by decide +kernel
theorem dX1_wake_21 : decode cX1_wake 21 = .ok (.aload_n 0, 1) := by decide +kernel
theorem dX1_wake_22 : decode cX1_wake 22 = .ok (.getfield 20, 3) := by decide +kernel
theorem dX1_wake_25 : decode cX1_wake 25 = .ok (.iload_n 1, 1) := by decide +kernel
theorem dX1_wake_26 : decode cX1_wake 26 = .ok (.aload_n 2, 1) := by decide +kernel
theorem dX1_wake_27 : decode cX1_wake 27 = .ok (.getfield 110, 3) := by decide +kernel
theorem dX1_wake_30 : decode cX1_wake 30 = .ok (.iload_n 3, 1) := by decide +kernel
theorem dX1_wake_31 : decode cX1_wake 31 = .ok (.iaload, 1) := by decide +kernel
theorem dX1_wake_32 : decode cX1_wake 32 = .ok (.iconst 0, 1) := by decide +kernel
theorem dX1_wake_33 : decode cX1_wake 33 = .ok (.aload_n 2, 1) := by decide +kernel
theorem dX1_wake_34 : decode cX1_wake 34 = .ok (.getfield 113, 3) := by decide +kernel
theorem dX1_wake_37 : decode cX1_wake 37 = .ok (.iload_n 3, 1) := by decide +kernel
theorem dX1_wake_38 : decode cX1_wake 38 = .ok (.iaload, 1) := by decide +kernel
theorem dX1_wake_39 : decode cX1_wake 39 = .ok (.invokevirtual 98, 3) := by decide +kernel
theorem dX1_wake_42 : decode cX1_wake 42 = .ok (.iinc 3 1, 3) := by decide +kernel
theorem dX1_wake_45 : decode cX1_wake 45 = .ok (.goto (-32), 3) := by decide +kernel
theorem dX1_wake_48 : decode cX1_wake 48 = .ok (.return_, 1) := by decide +kernel
set_option maxRecDepth 20000 in
theorem ggX1_waitOn_X0_isReadyToDecide : GoodIn wsX1_waitOn wsX0_isReadyToDecide := goodIn_r _ [12, 13, 14, 15, 16, 17, 11, 18, 19, 62, 63, 64, 65, 66, 67, 68, 69, 70, 71, 72, 73, 74, 75] (by decide +kernel) (by decide +kernel)
set_option maxRecDepth 20000 in
theorem gX1_waitOn_X0_isReadyToDecide : GoodIn wsX1_waitOn (wsV RX1 117 RX0 yX0_isReadyToDecide wsX0_isReadyToDecide) := goodIn_app (goodIn_of _ (by decide +kernel)) ggX1_waitOn_X0_isReadyToDecide
set_option maxRecDepth 20000 in
theorem ggX1_waitOn_X0_decide : GoodIn wsX1_waitOn wsX0_decide := goodIn_r _ [23, 15, 16, 17, 11, 18, 14, 19, 24, 25, 26, 27, 28, 29, 30, 31, 32, 33, 13, 34, 35, 36, 37, 38, 39, 62, 63, 64, 65, 66, 67, 68, 69, 70, 71, 72, 73, 74, 75] (by decide +kernel) (by decide +kernel)
set_option maxRecDepth 20000 in
theorem gX1_waitOn_X0_decide : GoodIn wsX1_waitOn (wsV RX1 121 RX0 yX0_decide wsX0_decide) := goodIn_app (goodIn_of _ (by decide +kernel)) ggX1_waitOn_X0_decide
set_option maxRecDepth 20000 in
theorem ggX1_waitOn_X2_add : GoodIn wsX1_waitOn wsX2_add := goodIn_r _ [44, 45, 46, 47, 48, 49, 50, 51, 76, 77, 78, 79, 80, 81, 82] (by decide +kernel) (by decide +kernel)
set_option maxRecDepth 20000 in
theorem gX1_waitOn_X2_add : GoodIn wsX1_waitOn (wsV RX1 98 RX2 yX2_add wsX2_add) := goodIn_app (goodIn_of _ (by decide +kernel)) ggX1_waitOn_X2_add
set_option maxRecDepth 20000 in
theorem ggX1_waitOn_X0_forget : GoodIn wsX1_waitOn wsX0_forget := goodIn_r _ [55, 56, 14, 19, 62, 63, 64, 65, 66, 67, 68, 69, 70, 71, 72, 73, 74, 75] (by decide +kernel) (by decide +kernel)
set_option maxRecDepth 20000 in
theorem gX1_waitOn_X0_forget : GoodIn wsX1_waitOn (wsV RX1 133 RX0 yX0_forget wsX0_forget) := goodIn_app (goodIn_of _ (by decide +kernel)) ggX1_waitOn_X0_forget
theorem dX1_waitOn_0 : decode cX1_waitOn 0 = .ok (.aload_n 0, 1) := by decide +kernel
theorem dX1_waitOn_1 : decode cX1_waitOn 1 = .ok (.getfield 11, 3) := by decide +kernel
theorem dX1_waitOn_4 : decode cX1_waitOn 4 = .ok (.iload_n 1, 1) := by decide +kernel
theorem dX1_waitOn_5 : decode cX1_waitOn 5 = .ok (.aaload, 1) := by decide +kernel
theorem dX1_waitOn_6 : decode cX1_waitOn 6 = .ok (.astore_n 2, 1) := by decide +kernel
theorem dX1_waitOn_7 : decode cX1_waitOn 7 = .ok (.aload_n 2, 1) := by decide +kernel
theorem dX1_waitOn_8 : decode cX1_waitOn 8 = .ok (.dup, 1) := by decide +kernel
theorem dX1_waitOn_9 : decode cX1_waitOn 9 = .ok (.getfield 114, 3) := by decide +kernel
theorem dX1_waitOn_12 : decode cX1_waitOn 12 = .ok (.iconst 1, 1) := by decide +kernel
theorem dX1_waitOn_13 : decode cX1_waitOn 13 = .ok (.isub, 1) := by decide +kernel
theorem dX1_waitOn_14 : decode cX1_waitOn 14 = .ok (.putfield 114, 3) := by decide +kernel
theorem dX1_waitOn_17 : decode cX1_waitOn 17 = .ok (.aload_n 2, 1) := by decide +kernel
theorem dX1_waitOn_18 : decode cX1_waitOn 18 = .ok (.invokevirtual 117, 3) := by decide +kernel
theorem dX1_waitOn_21 : decode cX1_waitOn 21 = .ok (.ifCond .ne 5, 3) := by decide +kernel
theorem dX1_waitOn_24 : decode cX1_waitOn 24 = .ok (.iconst 0, 1) := by decide +kernel
theorem dX1_waitOn_25 : decode cX1_waitOn 25 = .ok (.ireturn, 1) := by decide +kernel
theorem dX1_waitOn_26 : decode cX1_waitOn 26 = .ok (.aload_n 2, 1) := by decide +kernel
theorem dX1_waitOn_27 : decode cX1_waitOn 27 = .ok (.invokevirtual 121, 3) := by decide +kernel
theorem dX1_waitOn_30 : decode cX1_waitOn 30 = .ok (.aload_n 2, 1) := by decide +kernel
theorem dX1_waitOn_31 : decode cX1_waitOn 31 = .ok (.getfield 55, 3) := by decide +kernel
theorem dX1_waitOn_34 : decode cX1_waitOn 34 = .ok (.iconst 2, 1) := by decide +kernel
theorem dX1_waitOn_35 : decode cX1_waitOn 35 = .ok (.if_icmp .ne 7, 3) := by decide +kernel
theorem dX1_waitOn_38 : decode cX1_waitOn 38 = .ok (.iconst 1, 1) := by decide +kernel
theorem dX1_waitOn_39 : decode cX1_waitOn 39 = .ok (.goto 4, 3) := by decide +kernel
theorem dX1_waitOn_42 : decode cX1_waitOn 42 = .ok (.iconst 0, 1) := by decide +kernel
theorem dX1_waitOn_43 : decode cX1_waitOn 43 = .ok (.istore_n 3, 1) := by decide +kernel
theorem dX1_waitOn_44 : decode cX1_waitOn 44 = .ok (.iconst 0, 1) := by decide +kernel
theorem dX1_waitOn_45 : decode cX1_waitOn 45 = .ok (.istore 4, 2) := by decide +kernel
theorem dX1_waitOn_47 : decode cX1_waitOn 47 = .ok (.iload 4, 2) := by decide +kernel
theorem dX1_waitOn_49 : decode cX1_waitOn 49 = .ok (.aload_n 2, 1) := by decide +kernel
theorem dX1_waitOn_50 : decode cX1_waitOn 50 = .ok (.getfield 124, 3) := by decide +kernel
theorem dX1_waitOn_53 : decode cX1_waitOn 53 = .ok (.if_icmp .ge 40, 3) := by decide +kernel
theorem dX1_waitOn_56 : decode cX1_waitOn 56 = .ok (.aload_n 0, 1) := by decide +kernel
theorem dX1_waitOn_57 : decode cX1_waitOn 57 = .ok (.getfield 20, 3) := by decide +kernel
theorem dX1_waitOn_60 : decode cX1_waitOn 60 = .ok (.iload_n 1, 1) := by decide +kernel
theorem dX1_waitOn_61 : decode cX1_waitOn 61 = .ok (.aload_n 2, 1) := by decide +kernel
theorem dX1_waitOn_62 : decode cX1_waitOn 62 = .ok (.getfield 127, 3) := by decide +kernel
theorem dX1_waitOn_65 : decode cX1_waitOn 65 = .ok (.iload 4, 2) := by decide +kernel
theorem dX1_waitOn_67 : decode cX1_waitOn 67 = .ok (.iaload, 1) := by decide +kernel
theorem dX1_waitOn_68 : decode cX1_waitOn 68 = .ok (.iload_n 3, 1) := by decide +kernel
theorem dX1_waitOn_69 : decode cX1_waitOn 69 = .ok (.ifCond .eq 7, 3) := by decide +kernel
theorem dX1_waitOn_72 : decode cX1_waitOn 72 = .ok (.iconst 2, 1) := by decide +kernel
theorem dX1_waitOn_73 : decode cX1_waitOn 73 = .ok (.goto 4, 3) := by decide +kernel
theorem dX1_waitOn_76 : decode cX1_waitOn 76 = .ok (.iconst 1, 1) := by decide +kernel
theorem dX1_waitOn_77 : decode cX1_waitOn 77 = .ok (.aload_n 2, 1) := by decide +kernel
theorem dX1_waitOn_78 : decode cX1_waitOn 78 = .ok (.getfield 130, 3) := by decide +kernel
theorem dX1_waitOn_81 : decode cX1_waitOn 81 = .ok (.iload 4, 2) := by decide +kernel
theorem dX1_waitOn_83 : decode cX1_waitOn 83 = .ok (.iaload, 1) := by decide +kernel
theorem dX1_waitOn_84 : decode cX1_waitOn 84 = .ok (.invokevirtual 98, 3) := by decide +kernel
theorem dX1_waitOn_87 : decode cX1_waitOn 87 = .ok (.iinc 4 1, 3) := by decide +kernel
theorem dX1_waitOn_90 : decode cX1_waitOn 90 = .ok (.goto (-43), 3) := by decide +kernel
theorem dX1_waitOn_93 : decode cX1_waitOn 93 = .ok (.aload_n 2, 1) := by decide +kernel
theorem dX1_waitOn_94 : decode cX1_waitOn 94 = .ok (.invokevirtual 133, 3) := by decide +kernel
theorem dX1_waitOn_97 : decode cX1_waitOn 97 = .ok (.iload_n 3, 1) := by decide +kernel
theorem dX1_waitOn_98 : decode cX1_waitOn 98 = .ok (.ireturn, 1) := by decide +kernel
theorem dX1_openDoors_0 : decode cX1_openDoors 0 = .ok (.iconst 0, 1) := by decide +kernel
theorem dX1_openDoors_1 : decode cX1_openDoors 1 = .ok (.istore_n 1, 1) := by decide +kernel
theorem dX1_openDoors_2 : decode cX1_openDoors 2 = .ok (.iconst 0, 1) := by decide +kernel
theorem dX1_openDoors_3 : decode cX1_openDoors 3 = .ok (.istore_n 2, 1) := by decide +kernel
theorem dX1_openDoors_4 : decode cX1_openDoors 4 = .ok (.iload_n 2, 1) := by decide +kernel
theorem dX1_openDoors_5 : decode cX1_openDoors 5 = .ok (.aload_n 0, 1) := by decide +kernel
theorem dX1_openDoors_6 : decode cX1_openDoors 6 = .ok (.getfield 32, 3) := by decide +kernel
theorem dX1_openDoors_9 : decode cX1_openDoors 9 = .ok (.if_icmp .ge 28, 3) := by decide +kernel
theorem dX1_openDoors_12 : decode cX1_openDoors 12 = .ok (.aload_n 0, 1) := by decide +kernel
theorem dX1_openDoors_13 : decode cX1_openDoors 13 = .ok (.getfield 11, 3) := by decide +kernel
theorem dX1_openDoors_16 : decode cX1_openDoors 16 = .ok (.iload_n 2, 1) := by decide +kernel
theorem dX1_openDoors_17 : decode cX1_openDoors 17 = .ok (.aaload, 1) := by decide +kernel
theorem dX1_openDoors_18 : decode cX1_openDoors 18 = .ok (.getfield 55, 3) := by decide +kernel
theorem dX1_openDoors_21 : decode cX1_openDoors 21 = .ok (.iconst 2, 1) := by decide +kernel
theorem dX1_openDoors_22 : decode cX1_openDoors 22 = .ok (.if_icmp .ne 9, 3) := by decide +kernel
theorem dX1_openDoors_25 : decode cX1_openDoors 25 = .ok (.iload_n 1, 1) := by decide +kernel
theorem dX1_openDoors_26 : decode cX1_openDoors 26 = .ok (.iconst 1, 1) := by decide +kernel
theorem dX1_openDoors_27 : decode cX1_openDoors 27 = .ok (.iload_n 2, 1) := by decide +kernel
theorem dX1_openDoors_28 : decode cX1_openDoors 28 = .ok (.ishl, 1) := by decide +kernel
theorem dX1_openDoors_29 : decode cX1_openDoors 29 = .ok (.ior, 1) := by decide +kernel
theorem dX1_openDoors_30 : decode cX1_openDoors 30 = .ok (.istore_n 1, 1) := by decide +kernel
theorem dX1_openDoors_31 : decode cX1_openDoors 31 = .ok (.iinc 2 1, 3) := by decide +kernel
theorem dX1_openDoors_34 : decode cX1_openDoors 34 = .ok (.goto (-30), 3) := by decide +kernel
theorem dX1_openDoors_37 : decode cX1_openDoors 37 = .ok (.iload_n 1, 1) := by decide +kernel
theorem dX1_openDoors_38 : decode cX1_openDoors 38 = .ok (.ireturn, 1) := by decide +kernel
theorem dX1_doorsThat_0 : decode cX1_doorsThat 0 = .ok (.iconst 0, 1) := by decide +kernel
theorem dX1_doorsThat_1 : decode cX1_doorsThat 1 = .ok (.istore_n 2, 1) := by decide +kernel
theorem dX1_doorsThat_2 : decode cX1_doorsThat 2 = .ok (.iconst 0, 1) := by decide +kernel
theorem dX1_doorsThat_3 : decode cX1_doorsThat 3 = .ok (.istore_n 3, 1) := by decide +kernel
theorem dX1_doorsThat_4 : decode cX1_doorsThat 4 = .ok (.iload_n 3, 1) := by decide +kernel
theorem dX1_doorsThat_5 : decode cX1_doorsThat 5 = .ok (.aload_n 0, 1) := by decide +kernel
theorem dX1_doorsThat_6 : decode cX1_doorsThat 6 = .ok (.getfield 32, 3) := by decide +kernel
theorem dX1_doorsThat_9 : decode cX1_doorsThat 9 = .ok (.if_icmp .ge 25, 3) := by decide +kernel
theorem dX1_doorsThat_12 : decode cX1_doorsThat 12 = .ok (.aload_n 0, 1) := by decide +kernel
theorem dX1_doorsThat_13 : decode cX1_doorsThat 13 = .ok (.getfield 11, 3) := by decide +kernel
theorem dX1_doorsThat_16 : decode cX1_doorsThat 16 = .ok (.iload_n 3, 1) := by decide +kernel
theorem dX1_doorsThat_17 : decode cX1_doorsThat 17 = .ok (.aaload, 1) := by decide +kernel
theorem dX1_doorsThat_18 : decode cX1_doorsThat 18 = .ok (.getfield 55, 3) := by decide +kernel
theorem dX1_doorsThat_21 : decode cX1_doorsThat 21 = .ok (.iload_n 1, 1) := by decide +kernel
theorem dX1_doorsThat_22 : decode cX1_doorsThat 22 = .ok (.if_icmp .ne 6, 3) := by decide +kernel
theorem dX1_doorsThat_25 : decode cX1_doorsThat 25 = .ok (.iinc 2 1, 3) := by decide +kernel
theorem dX1_doorsThat_28 : decode cX1_doorsThat 28 = .ok (.iinc 3 1, 3) := by decide +kernel
theorem dX1_doorsThat_31 : decode cX1_doorsThat 31 = .ok (.goto (-27), 3) := by decide +kernel
theorem dX1_doorsThat_34 : decode cX1_doorsThat 34 = .ok (.iload_n 2, 1) := by decide +kernel
theorem dX1_doorsThat_35 : decode cX1_doorsThat 35 = .ok (.ireturn, 1) := by decide +kernel
set_option maxRecDepth 20000 in
theorem ggX1_fact_X1_doorsThat : GoodIn wsX1_fact wsX1_doorsThat := goodIn_r _ [10, 2, 11, 12, 17, 18, 19, 20, 21, 29, 30, 31, 32, 33, 34, 35, 36, 37, 38, 39, 40, 41, 42] (by decide +kernel) (by decide +kernel)
set_option maxRecDepth 20000 in
theorem gX1_fact_X1_doorsThat : GoodIn wsX1_fact (wsV RX1 136 RX1 yX1_doorsThat wsX1_doorsThat) := goodIn_app (goodIn_of _ (by decide +kernel)) ggX1_fact_X1_doorsThat
set_option maxRecDepth 20000 in
theorem ggX1_fact_X1_openDoors : GoodIn wsX1_fact wsX1_openDoors := goodIn_r _ [16, 2, 11, 12, 17, 18, 19, 20, 21, 29, 30, 31, 32, 33, 34, 35, 36, 37, 38, 39, 40, 41, 42] (by decide +kernel) (by decide +kernel)
set_option maxRecDepth 20000 in
theorem gX1_fact_X1_openDoors : GoodIn wsX1_fact (wsV RX1 143 RX1 yX1_openDoors wsX1_openDoors) := goodIn_app (goodIn_of _ (by decide +kernel)) ggX1_fact_X1_openDoors
theorem dX1_fact_0 : decode cX1_fact 0 = .ok (.iload_n 1, 1) := by decide +kernel
theorem dX1_fact_1 : decode cX1_fact 1 = .ok (.tableswitch 97 0 7 #[47, 52, 57, 63, 69, 75, 81, 89], 47) := by decide +kernel
theorem dX1_fact_48 : decode cX1_fact 48 = .ok (.aload_n 0, 1) := by decide +kernel
theorem dX1_fact_49 : decode cX1_fact 49 = .ok (.getfield 28, 3) := by decide +kernel
theorem dX1_fact_52 : decode cX1_fact 52 = .ok (.ireturn, 1) := by decide +kernel
theorem dX1_fact_53 : decode cX1_fact 53 = .ok (.aload_n 0, 1) := by decide +kernel
theorem dX1_fact_54 : decode cX1_fact 54 = .ok (.getfield 32, 3) := by decide +kernel
theorem dX1_fact_57 : decode cX1_fact 57 = .ok (.ireturn, 1) := by decide +kernel
theorem dX1_fact_58 : decode cX1_fact 58 = .ok (.aload_n 0, 1) := by decide +kernel
theorem dX1_fact_59 : decode cX1_fact 59 = .ok (.iconst 0, 1) := by decide +kernel
theorem dX1_fact_60 : decode cX1_fact 60 = .ok (.invokevirtual 136, 3) := by decide +kernel
theorem dX1_fact_63 : decode cX1_fact 63 = .ok (.ireturn, 1) := by decide +kernel
theorem dX1_fact_64 : decode cX1_fact 64 = .ok (.aload_n 0, 1) := by decide +kernel
theorem dX1_fact_65 : decode cX1_fact 65 = .ok (.iconst 1, 1) := by decide +kernel
theorem dX1_fact_66 : decode cX1_fact 66 = .ok (.invokevirtual 136, 3) := by decide +kernel
theorem dX1_fact_69 : decode cX1_fact 69 = .ok (.ireturn, 1) := by decide +kernel
theorem dX1_fact_70 : decode cX1_fact 70 = .ok (.aload_n 0, 1) := by decide +kernel
theorem dX1_fact_71 : decode cX1_fact 71 = .ok (.iconst 2, 1) := by decide +kernel
theorem dX1_fact_72 : decode cX1_fact 72 = .ok (.invokevirtual 136, 3) := by decide +kernel
theorem dX1_fact_75 : decode cX1_fact 75 = .ok (.ireturn, 1) := by decide +kernel
theorem dX1_fact_76 : decode cX1_fact 76 = .ok (.aload_n 0, 1) := by decide +kernel
theorem dX1_fact_77 : decode cX1_fact 77 = .ok (.iconst 3, 1) := by decide +kernel
theorem dX1_fact_78 : decode cX1_fact 78 = .ok (.invokevirtual 136, 3) := by decide +kernel
theorem dX1_fact_81 : decode cX1_fact 81 = .ok (.ireturn, 1) := by decide +kernel
theorem dX1_fact_82 : decode cX1_fact 82 = .ok (.aload_n 0, 1) := by decide +kernel
theorem dX1_fact_83 : decode cX1_fact 83 = .ok (.getfield 20, 3) := by decide +kernel
theorem dX1_fact_86 : decode cX1_fact 86 = .ok (.getfield 71, 3) := by decide +kernel
theorem dX1_fact_89 : decode cX1_fact 89 = .ok (.ireturn, 1) := by decide +kernel
theorem dX1_fact_90 : decode cX1_fact 90 = .ok (.aload_n 0, 1) := by decide +kernel
theorem dX1_fact_91 : decode cX1_fact 91 = .ok (.getfield 20, 3) := by decide +kernel
theorem dX1_fact_94 : decode cX1_fact 94 = .ok (.getfield 140, 3) := by decide +kernel
theorem dX1_fact_97 : decode cX1_fact 97 = .ok (.ireturn, 1) := by decide +kernel
theorem dX1_fact_98 : decode cX1_fact 98 = .ok (.aload_n 0, 1) := by decide +kernel
theorem dX1_fact_99 : decode cX1_fact 99 = .ok (.invokevirtual 143, 3) := by decide +kernel
theorem dX1_fact_102 : decode cX1_fact 102 = .ok (.ireturn, 1) := by decide +kernel
set_option maxRecDepth 20000 in
theorem ggX1_reachedFrom_X1_askedBy : GoodIn wsX1_reachedFrom wsX1_askedBy := goodIn_r _ [6, 7, 8, 9, 10, 11, 12, 5, 13, 1, 14, 15, 16, 17, 18, 19, 20, 21, 22, 23, 24, 25, 26, 27, 28, 29, 30, 31, 32] (by decide +kernel) (by decide +kernel)
set_option maxRecDepth 20000 in
theorem gX1_reachedFrom_X1_askedBy : GoodIn wsX1_reachedFrom (wsV RX1 147 RX1 yX1_askedBy wsX1_askedBy) := goodIn_app (goodIn_of _ (by decide +kernel)) ggX1_reachedFrom_X1_askedBy
theorem dX1_reachedFrom_0 : decode cX1_reachedFrom 0 = .ok (.aload_n 0, 1) := by decide +kernel
theorem dX1_reachedFrom_1 : decode cX1_reachedFrom 1 = .ok (.iload_n 1, 1) := by decide +kernel
theorem dX1_reachedFrom_2 : decode cX1_reachedFrom 2 = .ok (.invokevirtual 147, 3) := by decide +kernel
theorem dX1_reachedFrom_5 : decode cX1_reachedFrom 5 = .ok (.istore_n 2, 1) := by decide +kernel
theorem dX1_reachedFrom_6 : decode cX1_reachedFrom 6 = .ok (.iconst 0, 1) := by decide +kernel
theorem dX1_reachedFrom_7 : decode cX1_reachedFrom 7 = .ok (.istore_n 3, 1) := by decide +kernel
theorem dX1_reachedFrom_8 : decode cX1_reachedFrom 8 = .ok (.iload_n 3, 1) := by decide +kernel
theorem dX1_reachedFrom_9 : decode cX1_reachedFrom 9 = .ok (.aload_n 0, 1) := by decide +kernel
theorem dX1_reachedFrom_10 : decode cX1_reachedFrom 10 = .ok (.getfield 32, 3) := by decide +kernel
theorem dX1_reachedFrom_13 : decode cX1_reachedFrom 13 = .ok (.if_icmp .ge 53, 3) := by decide +kernel
theorem dX1_reachedFrom_16 : decode cX1_reachedFrom 16 = .ok (.iload_n 2, 1) := by decide +kernel
theorem dX1_reachedFrom_17 : decode cX1_reachedFrom 17 = .ok (.istore 4, 2) := by decide +kernel
theorem dX1_reachedFrom_19 : decode cX1_reachedFrom 19 = .ok (.iconst 0, 1) := by decide +kernel
theorem dX1_reachedFrom_20 : decode cX1_reachedFrom 20 = .ok (.istore 5, 2) := by decide +kernel
theorem dX1_reachedFrom_22 : decode cX1_reachedFrom 22 = .ok (.iload 5, 2) := by decide +kernel
theorem dX1_reachedFrom_24 : decode cX1_reachedFrom 24 = .ok (.aload_n 0, 1) := by decide +kernel
theorem dX1_reachedFrom_25 : decode cX1_reachedFrom 25 = .ok (.getfield 32, 3) := by decide +kernel
theorem dX1_reachedFrom_28 : decode cX1_reachedFrom 28 = .ok (.if_icmp .ge 29, 3) := by decide +kernel
theorem dX1_reachedFrom_31 : decode cX1_reachedFrom 31 = .ok (.iload_n 2, 1) := by decide +kernel
theorem dX1_reachedFrom_32 : decode cX1_reachedFrom 32 = .ok (.iconst 1, 1) := by decide +kernel
theorem dX1_reachedFrom_33 : decode cX1_reachedFrom 33 = .ok (.iload 5, 2) := by decide +kernel
theorem dX1_reachedFrom_35 : decode cX1_reachedFrom 35 = .ok (.ishl, 1) := by decide +kernel
theorem dX1_reachedFrom_36 : decode cX1_reachedFrom 36 = .ok (.iand, 1) := by decide +kernel
theorem dX1_reachedFrom_37 : decode cX1_reachedFrom 37 = .ok (.ifCond .eq 14, 3) := by decide +kernel
theorem dX1_reachedFrom_40 : decode cX1_reachedFrom 40 = .ok (.iload 4, 2) := by decide +kernel
theorem dX1_reachedFrom_42 : decode cX1_reachedFrom 42 = .ok (.aload_n 0, 1) := by decide +kernel
theorem dX1_reachedFrom_43 : decode cX1_reachedFrom 43 = .ok (.iload 5, 2) := by decide +kernel
theorem dX1_reachedFrom_45 : decode cX1_reachedFrom 45 = .ok (.invokevirtual 147, 3) := by decide +kernel
theorem dX1_reachedFrom_48 : decode cX1_reachedFrom 48 = .ok (.ior, 1) := by decide +kernel
theorem dX1_reachedFrom_49 : decode cX1_reachedFrom 49 = .ok (.istore 4, 2) := by decide +kernel
theorem dX1_reachedFrom_51 : decode cX1_reachedFrom 51 = .ok (.iinc 5 1, 3) := by decide +kernel
theorem dX1_reachedFrom_54 : decode cX1_reachedFrom 54 = .ok (.goto (-32), 3) := by decide +kernel
theorem dX1_reachedFrom_57 : decode cX1_reachedFrom 57 = .ok (.iload 4, 2) := by decide +kernel
theorem dX1_reachedFrom_59 : decode cX1_reachedFrom 59 = .ok (.istore_n 2, 1) := by decide +kernel
theorem dX1_reachedFrom_60 : decode cX1_reachedFrom 60 = .ok (.iinc 3 1, 3) := by decide +kernel
theorem dX1_reachedFrom_63 : decode cX1_reachedFrom 63 = .ok (.goto (-55), 3) := by decide +kernel
theorem dX1_reachedFrom_66 : decode cX1_reachedFrom 66 = .ok (.iload_n 2, 1) := by decide +kernel
theorem dX1_reachedFrom_67 : decode cX1_reachedFrom 67 = .ok (.ireturn, 1) := by decide +kernel
set_option maxRecDepth 20000 in
theorem ggX1_askedBy_X1_isDoor : GoodIn wsX1_askedBy wsX1_isDoor := goodIn_r _ [8, 9, 10, 11, 12, 13, 14] (by decide +kernel) (by decide +kernel)
set_option maxRecDepth 20000 in
theorem gX1_askedBy_X1_isDoor : GoodIn wsX1_askedBy (wsV RX1 51 RX1 yX1_isDoor wsX1_isDoor) := goodIn_app (goodIn_of _ (by decide +kernel)) ggX1_askedBy_X1_isDoor
theorem dX1_askedBy_0 : decode cX1_askedBy 0 = .ok (.iconst 0, 1) := by decide +kernel
theorem dX1_askedBy_1 : decode cX1_askedBy 1 = .ok (.istore_n 2, 1) := by decide +kernel
theorem dX1_askedBy_2 : decode cX1_askedBy 2 = .ok (.aload_n 0, 1) := by decide +kernel
theorem dX1_askedBy_3 : decode cX1_askedBy 3 = .ok (.iload_n 1, 1) := by decide +kernel
theorem dX1_askedBy_4 : decode cX1_askedBy 4 = .ok (.invokevirtual 51, 3) := by decide +kernel
theorem dX1_askedBy_7 : decode cX1_askedBy 7 = .ok (.ifCond .eq 40, 3) := by decide +kernel
theorem dX1_askedBy_10 : decode cX1_askedBy 10 = .ok (.aload_n 0, 1) := by decide +kernel
theorem dX1_askedBy_11 : decode cX1_askedBy 11 = .ok (.getfield 11, 3) := by decide +kernel
theorem dX1_askedBy_14 : decode cX1_askedBy 14 = .ok (.iload_n 1, 1) := by decide +kernel
theorem dX1_askedBy_15 : decode cX1_askedBy 15 = .ok (.aaload, 1) := by decide +kernel
theorem dX1_askedBy_16 : decode cX1_askedBy 16 = .ok (.astore_n 3, 1) := by decide +kernel
theorem dX1_askedBy_17 : decode cX1_askedBy 17 = .ok (.iconst 0, 1) := by decide +kernel
theorem dX1_askedBy_18 : decode cX1_askedBy 18 = .ok (.istore 4, 2) := by decide +kernel
theorem dX1_askedBy_20 : decode cX1_askedBy 20 = .ok (.iload 4, 2) := by decide +kernel
theorem dX1_askedBy_22 : decode cX1_askedBy 22 = .ok (.aload_n 3, 1) := by decide +kernel
theorem dX1_askedBy_23 : decode cX1_askedBy 23 = .ok (.getfield 107, 3) := by decide +kernel
theorem dX1_askedBy_26 : decode cX1_askedBy 26 = .ok (.if_icmp .ge 21, 3) := by decide +kernel
theorem dX1_askedBy_29 : decode cX1_askedBy 29 = .ok (.iload_n 2, 1) := by decide +kernel
theorem dX1_askedBy_30 : decode cX1_askedBy 30 = .ok (.iconst 1, 1) := by decide +kernel
theorem dX1_askedBy_31 : decode cX1_askedBy 31 = .ok (.aload_n 3, 1) := by decide +kernel
theorem dX1_askedBy_32 : decode cX1_askedBy 32 = .ok (.getfield 110, 3) := by decide +kernel
theorem dX1_askedBy_35 : decode cX1_askedBy 35 = .ok (.iload 4, 2) := by decide +kernel
theorem dX1_askedBy_37 : decode cX1_askedBy 37 = .ok (.iaload, 1) := by decide +kernel
theorem dX1_askedBy_38 : decode cX1_askedBy 38 = .ok (.ishl, 1) := by decide +kernel
theorem dX1_askedBy_39 : decode cX1_askedBy 39 = .ok (.ior, 1) := by decide +kernel
theorem dX1_askedBy_40 : decode cX1_askedBy 40 = .ok (.istore_n 2, 1) := by decide +kernel
theorem dX1_askedBy_41 : decode cX1_askedBy 41 = .ok (.iinc 4 1, 3) := by decide +kernel
theorem dX1_askedBy_44 : decode cX1_askedBy 44 = .ok (.goto (-24), 3) := by decide +kernel
theorem dX1_askedBy_47 : decode cX1_askedBy 47 = .ok (.iload_n 2, 1) := by decide +kernel
theorem dX1_askedBy_48 : decode cX1_askedBy 48 = .ok (.ireturn, 1) := by decide +kernel
theorem dX2_init_0 : decode cX2_init 0 = .ok (.aload_n 0, 1) := by decide +kernel
theorem dX2_init_1 : decode cX2_init 1 = .ok (.invokespecial 3, 3) := by decide +kernel
theorem dX2_init_4 : decode cX2_init 4 = .ok (.aload_n 0, 1) := by decide +kernel
theorem dX2_init_5 : decode cX2_init 5 = .ok (.bipush 60, 2) := by decide +kernel
theorem dX2_init_7 : decode cX2_init 7 = .ok (.newarray .int, 2) := by decide +kernel
theorem dX2_init_9 : decode cX2_init 9 = .ok (.putfield 9, 3) := by decide +kernel
theorem dX2_init_12 : decode cX2_init 12 = .ok (.aload_n 0, 1) := by decide +kernel
theorem dX2_init_13 : decode cX2_init 13 = .ok (.bipush 60, 2) := by decide +kernel
theorem dX2_init_15 : decode cX2_init 15 = .ok (.newarray .int, 2) := by decide +kernel
theorem dX2_init_17 : decode cX2_init 17 = .ok (.putfield 15, 3) := by decide +kernel
theorem dX2_init_20 : decode cX2_init 20 = .ok (.aload_n 0, 1) := by decide +kernel
theorem dX2_init_21 : decode cX2_init 21 = .ok (.bipush 60, 2) := by decide +kernel
theorem dX2_init_23 : decode cX2_init 23 = .ok (.newarray .int, 2) := by decide +kernel
theorem dX2_init_25 : decode cX2_init 25 = .ok (.putfield 18, 3) := by decide +kernel
theorem dX2_init_28 : decode cX2_init 28 = .ok (.aload_n 0, 1) := by decide +kernel
theorem dX2_init_29 : decode cX2_init 29 = .ok (.bipush 60, 2) := by decide +kernel
theorem dX2_init_31 : decode cX2_init 31 = .ok (.newarray .int, 2) := by decide +kernel
theorem dX2_init_33 : decode cX2_init 33 = .ok (.putfield 21, 3) := by decide +kernel
theorem dX2_init_36 : decode cX2_init 36 = .ok (.aload_n 0, 1) := by decide +kernel
theorem dX2_init_37 : decode cX2_init 37 = .ok (.bipush 60, 2) := by decide +kernel
theorem dX2_init_39 : decode cX2_init 39 = .ok (.newarray .int, 2) := by decide +kernel
theorem dX2_init_41 : decode cX2_init 41 = .ok (.putfield 24, 3) := by decide +kernel
theorem dX2_init_44 : decode cX2_init 44 = .ok (.return_, 1) := by decide +kernel
theorem dX2_copyFrom_0 : decode cX2_copyFrom 0 = .ok (.aload_n 0, 1) := by decide +kernel
theorem dX2_copyFrom_1 : decode cX2_copyFrom 1 = .ok (.aload_n 1, 1) := by decide +kernel
theorem dX2_copyFrom_2 : decode cX2_copyFrom 2 = .ok (.getfield 27, 3) := by decide +kernel
theorem dX2_copyFrom_5 : decode cX2_copyFrom 5 = .ok (.putfield 27, 3) := by decide +kernel
theorem dX2_copyFrom_8 : decode cX2_copyFrom 8 = .ok (.aload_n 0, 1) := by decide +kernel
theorem dX2_copyFrom_9 : decode cX2_copyFrom 9 = .ok (.aload_n 1, 1) := by decide +kernel
theorem dX2_copyFrom_10 : decode cX2_copyFrom 10 = .ok (.getfield 31, 3) := by decide +kernel
theorem dX2_copyFrom_13 : decode cX2_copyFrom 13 = .ok (.putfield 31, 3) := by decide +kernel
theorem dX2_copyFrom_16 : decode cX2_copyFrom 16 = .ok (.aload_n 1, 1) := by decide +kernel
theorem dX2_copyFrom_17 : decode cX2_copyFrom 17 = .ok (.getfield 9, 3) := by decide +kernel
theorem dX2_copyFrom_20 : decode cX2_copyFrom 20 = .ok (.iconst 0, 1) := by decide +kernel
theorem dX2_copyFrom_21 : decode cX2_copyFrom 21 = .ok (.aload_n 0, 1) := by decide +kernel
theorem dX2_copyFrom_22 : decode cX2_copyFrom 22 = .ok (.getfield 9, 3) := by decide +kernel
theorem dX2_copyFrom_25 : decode cX2_copyFrom 25 = .ok (.iconst 0, 1) := by decide +kernel
theorem dX2_copyFrom_26 : decode cX2_copyFrom 26 = .ok (.bipush 60, 2) := by decide +kernel
theorem dX2_copyFrom_28 : decode cX2_copyFrom 28 = .ok (.invokestatic 34, 3) := by decide +kernel
theorem dX2_copyFrom_31 : decode cX2_copyFrom 31 = .ok (.aload_n 1, 1) := by decide +kernel
theorem dX2_copyFrom_32 : decode cX2_copyFrom 32 = .ok (.getfield 15, 3) := by decide +kernel
theorem dX2_copyFrom_35 : decode cX2_copyFrom 35 = .ok (.iconst 0, 1) := by decide +kernel
theorem dX2_copyFrom_36 : decode cX2_copyFrom 36 = .ok (.aload_n 0, 1) := by decide +kernel
theorem dX2_copyFrom_37 : decode cX2_copyFrom 37 = .ok (.getfield 15, 3) := by decide +kernel
theorem dX2_copyFrom_40 : decode cX2_copyFrom 40 = .ok (.iconst 0, 1) := by decide +kernel
theorem dX2_copyFrom_41 : decode cX2_copyFrom 41 = .ok (.bipush 60, 2) := by decide +kernel
theorem dX2_copyFrom_43 : decode cX2_copyFrom 43 = .ok (.invokestatic 34, 3) := by decide +kernel
theorem dX2_copyFrom_46 : decode cX2_copyFrom 46 = .ok (.aload_n 1, 1) := by decide +kernel
theorem dX2_copyFrom_47 : decode cX2_copyFrom 47 = .ok (.getfield 18, 3) := by decide +kernel
theorem dX2_copyFrom_50 : decode cX2_copyFrom 50 = .ok (.iconst 0, 1) := by decide +kernel
theorem dX2_copyFrom_51 : decode cX2_copyFrom 51 = .ok (.aload_n 0, 1) := by decide +kernel
theorem dX2_copyFrom_52 : decode cX2_copyFrom 52 = .ok (.getfield 18, 3) := by decide +kernel
theorem dX2_copyFrom_55 : decode cX2_copyFrom 55 = .ok (.iconst 0, 1) := by decide +kernel
theorem dX2_copyFrom_56 : decode cX2_copyFrom 56 = .ok (.bipush 60, 2) := by decide +kernel
theorem dX2_copyFrom_58 : decode cX2_copyFrom 58 = .ok (.invokestatic 34, 3) := by decide +kernel
theorem dX2_copyFrom_61 : decode cX2_copyFrom 61 = .ok (.aload_n 1, 1) := by decide +kernel
theorem dX2_copyFrom_62 : decode cX2_copyFrom 62 = .ok (.getfield 21, 3) := by decide +kernel
theorem dX2_copyFrom_65 : decode cX2_copyFrom 65 = .ok (.iconst 0, 1) := by decide +kernel
theorem dX2_copyFrom_66 : decode cX2_copyFrom 66 = .ok (.aload_n 0, 1) := by decide +kernel
theorem dX2_copyFrom_67 : decode cX2_copyFrom 67 = .ok (.getfield 21, 3) := by decide +kernel
theorem dX2_copyFrom_70 : decode cX2_copyFrom 70 = .ok (.iconst 0, 1) := by decide +kernel
theorem dX2_copyFrom_71 : decode cX2_copyFrom 71 = .ok (.bipush 60, 2) := by decide +kernel
theorem dX2_copyFrom_73 : decode cX2_copyFrom 73 = .ok (.invokestatic 34, 3) := by decide +kernel
theorem dX2_copyFrom_76 : decode cX2_copyFrom 76 = .ok (.aload_n 1, 1) := by decide +kernel
theorem dX2_copyFrom_77 : decode cX2_copyFrom 77 = .ok (.getfield 24, 3) := by decide +kernel
theorem dX2_copyFrom_80 : decode cX2_copyFrom 80 = .ok (.iconst 0, 1) := by decide +kernel
theorem dX2_copyFrom_81 : decode cX2_copyFrom 81 = .ok (.aload_n 0, 1) := by decide +kernel
theorem dX2_copyFrom_82 : decode cX2_copyFrom 82 = .ok (.getfield 24, 3) := by decide +kernel
theorem dX2_copyFrom_85 : decode cX2_copyFrom 85 = .ok (.iconst 0, 1) := by decide +kernel
theorem dX2_copyFrom_86 : decode cX2_copyFrom 86 = .ok (.bipush 60, 2) := by decide +kernel
theorem dX2_copyFrom_88 : decode cX2_copyFrom 88 = .ok (.invokestatic 34, 3) := by decide +kernel
theorem dX2_copyFrom_91 : decode cX2_copyFrom 91 = .ok (.return_, 1) := by decide +kernel
theorem dX2_add_0 : decode cX2_add 0 = .ok (.aload_n 0, 1) := by decide +kernel
theorem dX2_add_1 : decode cX2_add 1 = .ok (.getfield 27, 3) := by decide +kernel
theorem dX2_add_4 : decode cX2_add 4 = .ok (.bipush 60, 2) := by decide +kernel
theorem dX2_add_6 : decode cX2_add 6 = .ok (.if_icmp .lt 14, 3) := by decide +kernel
theorem dX2_add_9 : decode cX2_add 9 = .ok (.aload_n 0, 1) := by decide +kernel
theorem dX2_add_10 : decode cX2_add 10 = .ok (.dup, 1) := by decide +kernel
theorem dX2_add_11 : decode cX2_add 11 = .ok (.getfield 31, 3) := by decide +kernel
theorem dX2_add_14 : decode cX2_add 14 = .ok (.iconst 1, 1) := by decide +kernel
theorem dX2_add_15 : decode cX2_add 15 = .ok (.iadd, 1) := by decide +kernel
theorem dX2_add_16 : decode cX2_add 16 = .ok (.putfield 31, 3) := by decide +kernel
theorem dX2_add_19 : decode cX2_add 19 = .ok (.return_, 1) := by decide +kernel
theorem dX2_add_20 : decode cX2_add 20 = .ok (.aload_n 0, 1) := by decide +kernel
theorem dX2_add_21 : decode cX2_add 21 = .ok (.getfield 9, 3) := by decide +kernel
theorem dX2_add_24 : decode cX2_add 24 = .ok (.aload_n 0, 1) := by decide +kernel
theorem dX2_add_25 : decode cX2_add 25 = .ok (.getfield 27, 3) := by decide +kernel
theorem dX2_add_28 : decode cX2_add 28 = .ok (.iload_n 1, 1) := by decide +kernel
theorem dX2_add_29 : decode cX2_add 29 = .ok (.iastore, 1) := by decide +kernel
theorem dX2_add_30 : decode cX2_add 30 = .ok (.aload_n 0, 1) := by decide +kernel
theorem dX2_add_31 : decode cX2_add 31 = .ok (.getfield 15, 3) := by decide +kernel
theorem dX2_add_34 : decode cX2_add 34 = .ok (.aload_n 0, 1) := by decide +kernel
theorem dX2_add_35 : decode cX2_add 35 = .ok (.getfield 27, 3) := by decide +kernel
theorem dX2_add_38 : decode cX2_add 38 = .ok (.iload_n 2, 1) := by decide +kernel
theorem dX2_add_39 : decode cX2_add 39 = .ok (.iastore, 1) := by decide +kernel
theorem dX2_add_40 : decode cX2_add 40 = .ok (.aload_n 0, 1) := by decide +kernel
theorem dX2_add_41 : decode cX2_add 41 = .ok (.getfield 18, 3) := by decide +kernel
theorem dX2_add_44 : decode cX2_add 44 = .ok (.aload_n 0, 1) := by decide +kernel
theorem dX2_add_45 : decode cX2_add 45 = .ok (.getfield 27, 3) := by decide +kernel
theorem dX2_add_48 : decode cX2_add 48 = .ok (.iload_n 3, 1) := by decide +kernel
theorem dX2_add_49 : decode cX2_add 49 = .ok (.iastore, 1) := by decide +kernel
theorem dX2_add_50 : decode cX2_add 50 = .ok (.aload_n 0, 1) := by decide +kernel
theorem dX2_add_51 : decode cX2_add 51 = .ok (.getfield 21, 3) := by decide +kernel
theorem dX2_add_54 : decode cX2_add 54 = .ok (.aload_n 0, 1) := by decide +kernel
theorem dX2_add_55 : decode cX2_add 55 = .ok (.getfield 27, 3) := by decide +kernel
theorem dX2_add_58 : decode cX2_add 58 = .ok (.iload 4, 2) := by decide +kernel
theorem dX2_add_60 : decode cX2_add 60 = .ok (.iastore, 1) := by decide +kernel
theorem dX2_add_61 : decode cX2_add 61 = .ok (.aload_n 0, 1) := by decide +kernel
theorem dX2_add_62 : decode cX2_add 62 = .ok (.getfield 24, 3) := by decide +kernel
theorem dX2_add_65 : decode cX2_add 65 = .ok (.aload_n 0, 1) := by decide +kernel
theorem dX2_add_66 : decode cX2_add 66 = .ok (.getfield 27, 3) := by decide +kernel
theorem dX2_add_69 : decode cX2_add 69 = .ok (.iload 4, 2) := by decide +kernel
theorem dX2_add_71 : decode cX2_add 71 = .ok (.iastore, 1) := by decide +kernel
theorem dX2_add_72 : decode cX2_add 72 = .ok (.aload_n 0, 1) := by decide +kernel
theorem dX2_add_73 : decode cX2_add 73 = .ok (.dup, 1) := by decide +kernel
theorem dX2_add_74 : decode cX2_add 74 = .ok (.getfield 27, 3) := by decide +kernel
theorem dX2_add_77 : decode cX2_add 77 = .ok (.iconst 1, 1) := by decide +kernel
theorem dX2_add_78 : decode cX2_add 78 = .ok (.iadd, 1) := by decide +kernel
theorem dX2_add_79 : decode cX2_add 79 = .ok (.putfield 27, 3) := by decide +kernel
theorem dX2_add_82 : decode cX2_add 82 = .ok (.return_, 1) := by decide +kernel
set_option maxRecDepth 20000 in
theorem ggX2_moveOn_X2_add : GoodIn wsX2_moveOn wsX2_add := goodIn_r _ [11, 1, 12, 3, 4, 5, 2, 6, 17, 18, 19, 20, 21, 22, 23] (by decide +kernel) (by decide +kernel)
set_option maxRecDepth 20000 in
theorem gX2_moveOn_X2_add : GoodIn wsX2_moveOn (wsV RX2 40 RX2 yX2_add wsX2_add) := goodIn_app (goodIn_of _ (by decide +kernel)) ggX2_moveOn_X2_add
set_option maxRecDepth 20000 in
theorem ggX2_moveOn_X2_moveUp : GoodIn wsX2_moveOn wsX2_moveUp := goodIn_r _ [16, 3, 4, 5, 2, 6, 17, 18, 19, 20, 21, 22, 23] (by decide +kernel) (by decide +kernel)
set_option maxRecDepth 20000 in
theorem gX2_moveOn_X2_moveUp : GoodIn wsX2_moveOn (wsV RX2 44 RX2 yX2_moveUp wsX2_moveUp) := goodIn_app (goodIn_of _ (by decide +kernel)) ggX2_moveOn_X2_moveUp
theorem dX2_moveOn_0 : decode cX2_moveOn 0 = .ok (.aload_n 1, 1) := by decide +kernel
theorem dX2_moveOn_1 : decode cX2_moveOn 1 = .ok (.iconst 0, 1) := by decide +kernel
theorem dX2_moveOn_2 : decode cX2_moveOn 2 = .ok (.putfield 27, 3) := by decide +kernel
theorem dX2_moveOn_5 : decode cX2_moveOn 5 = .ok (.iconst 0, 1) := by decide +kernel
theorem dX2_moveOn_6 : decode cX2_moveOn 6 = .ok (.istore_n 2, 1) := by decide +kernel
theorem dX2_moveOn_7 : decode cX2_moveOn 7 = .ok (.iconst 0, 1) := by decide +kernel
theorem dX2_moveOn_8 : decode cX2_moveOn 8 = .ok (.istore_n 3, 1) := by decide +kernel
theorem dX2_moveOn_9 : decode cX2_moveOn 9 = .ok (.iload_n 3, 1) := by decide +kernel
theorem dX2_moveOn_10 : decode cX2_moveOn 10 = .ok (.aload_n 0, 1) := by decide +kernel
theorem dX2_moveOn_11 : decode cX2_moveOn 11 = .ok (.getfield 27, 3) := by decide +kernel
theorem dX2_moveOn_14 : decode cX2_moveOn 14 = .ok (.if_icmp .ge 68, 3) := by decide +kernel
theorem dX2_moveOn_17 : decode cX2_moveOn 17 = .ok (.aload_n 0, 1) := by decide +kernel
theorem dX2_moveOn_18 : decode cX2_moveOn 18 = .ok (.getfield 21, 3) := by decide +kernel
theorem dX2_moveOn_21 : decode cX2_moveOn 21 = .ok (.iload_n 3, 1) := by decide +kernel
theorem dX2_moveOn_22 : decode cX2_moveOn 22 = .ok (.dup2, 1) := by decide +kernel
theorem dX2_moveOn_23 : decode cX2_moveOn 23 = .ok (.iaload, 1) := by decide +kernel
theorem dX2_moveOn_24 : decode cX2_moveOn 24 = .ok (.iconst 1, 1) := by decide +kernel
theorem dX2_moveOn_25 : decode cX2_moveOn 25 = .ok (.isub, 1) := by decide +kernel
theorem dX2_moveOn_26 : decode cX2_moveOn 26 = .ok (.iastore, 1) := by decide +kernel
theorem dX2_moveOn_27 : decode cX2_moveOn 27 = .ok (.aload_n 0, 1) := by decide +kernel
theorem dX2_moveOn_28 : decode cX2_moveOn 28 = .ok (.getfield 21, 3) := by decide +kernel
theorem dX2_moveOn_31 : decode cX2_moveOn 31 = .ok (.iload_n 3, 1) := by decide +kernel
theorem dX2_moveOn_32 : decode cX2_moveOn 32 = .ok (.iaload, 1) := by decide +kernel
theorem dX2_moveOn_33 : decode cX2_moveOn 33 = .ok (.ifCond .gt 34, 3) := by decide +kernel
theorem dX2_moveOn_36 : decode cX2_moveOn 36 = .ok (.aload_n 1, 1) := by decide +kernel
theorem dX2_moveOn_37 : decode cX2_moveOn 37 = .ok (.aload_n 0, 1) := by decide +kernel
theorem dX2_moveOn_38 : decode cX2_moveOn 38 = .ok (.getfield 9, 3) := by decide +kernel
theorem dX2_moveOn_41 : decode cX2_moveOn 41 = .ok (.iload_n 3, 1) := by decide +kernel
theorem dX2_moveOn_42 : decode cX2_moveOn 42 = .ok (.iaload, 1) := by decide +kernel
theorem dX2_moveOn_43 : decode cX2_moveOn 43 = .ok (.aload_n 0, 1) := by decide +kernel
theorem dX2_moveOn_44 : decode cX2_moveOn 44 = .ok (.getfield 15, 3) := by decide +kernel
theorem dX2_moveOn_47 : decode cX2_moveOn 47 = .ok (.iload_n 3, 1) := by decide +kernel
theorem dX2_moveOn_48 : decode cX2_moveOn 48 = .ok (.iaload, 1) := by decide +kernel
theorem dX2_moveOn_49 : decode cX2_moveOn 49 = .ok (.aload_n 0, 1) := by decide +kernel
theorem dX2_moveOn_50 : decode cX2_moveOn 50 = .ok (.getfield 18, 3) := by decide +kernel
theorem dX2_moveOn_53 : decode cX2_moveOn 53 = .ok (.iload_n 3, 1) := by decide +kernel
theorem dX2_moveOn_54 : decode cX2_moveOn 54 = .ok (.iaload, 1) := by decide +kernel
theorem dX2_moveOn_55 : decode cX2_moveOn 55 = .ok (.aload_n 0, 1) := by decide +kernel
theorem dX2_moveOn_56 : decode cX2_moveOn 56 = .ok (.getfield 24, 3) := by decide +kernel
theorem dX2_moveOn_59 : decode cX2_moveOn 59 = .ok (.iload_n 3, 1) := by decide +kernel
theorem dX2_moveOn_60 : decode cX2_moveOn 60 = .ok (.iaload, 1) := by decide +kernel
theorem dX2_moveOn_61 : decode cX2_moveOn 61 = .ok (.invokevirtual 40, 3) := by decide +kernel
theorem dX2_moveOn_64 : decode cX2_moveOn 64 = .ok (.goto 12, 3) := by decide +kernel
theorem dX2_moveOn_67 : decode cX2_moveOn 67 = .ok (.aload_n 0, 1) := by decide +kernel
theorem dX2_moveOn_68 : decode cX2_moveOn 68 = .ok (.iload_n 3, 1) := by decide +kernel
theorem dX2_moveOn_69 : decode cX2_moveOn 69 = .ok (.iload_n 2, 1) := by decide +kernel
theorem dX2_moveOn_70 : decode cX2_moveOn 70 = .ok (.invokevirtual 44, 3) := by decide +kernel
theorem dX2_moveOn_73 : decode cX2_moveOn 73 = .ok (.iinc 2 1, 3) := by decide +kernel
theorem dX2_moveOn_76 : decode cX2_moveOn 76 = .ok (.iinc 3 1, 3) := by decide +kernel
theorem dX2_moveOn_79 : decode cX2_moveOn 79 = .ok (.goto (-70), 3) := by decide +kernel
theorem dX2_moveOn_82 : decode cX2_moveOn 82 = .ok (.aload_n 0, 1) := by decide +kernel
theorem dX2_moveOn_83 : decode cX2_moveOn 83 = .ok (.iload_n 2, 1) := by decide +kernel
theorem dX2_moveOn_84 : decode cX2_moveOn 84 = .ok (.putfield 27, 3) := by decide +kernel
theorem dX2_moveOn_87 : decode cX2_moveOn 87 = .ok (.return_, 1) := by decide +kernel
theorem dX2_moveUp_0 : decode cX2_moveUp 0 = .ok (.aload_n 0, 1) := by decide +kernel
theorem dX2_moveUp_1 : decode cX2_moveUp 1 = .ok (.getfield 9, 3) := by decide +kernel
theorem dX2_moveUp_4 : decode cX2_moveUp 4 = .ok (.iload_n 2, 1) := by decide +kernel
theorem dX2_moveUp_5 : decode cX2_moveUp 5 = .ok (.aload_n 0, 1) := by decide +kernel
theorem dX2_moveUp_6 : decode cX2_moveUp 6 = .ok (.getfield 9, 3) := by decide +kernel
theorem dX2_moveUp_9 : decode cX2_moveUp 9 = .ok (.iload_n 1, 1) := by decide +kernel
theorem dX2_moveUp_10 : decode cX2_moveUp 10 = .ok (.iaload, 1) := by decide +kernel
theorem dX2_moveUp_11 : decode cX2_moveUp 11 = .ok (.iastore, 1) := by decide +kernel
theorem dX2_moveUp_12 : decode cX2_moveUp 12 = .ok (.aload_n 0, 1) := by decide +kernel
theorem dX2_moveUp_13 : decode cX2_moveUp 13 = .ok (.getfield 15, 3) := by decide +kernel
theorem dX2_moveUp_16 : decode cX2_moveUp 16 = .ok (.iload_n 2, 1) := by decide +kernel
theorem dX2_moveUp_17 : decode cX2_moveUp 17 = .ok (.aload_n 0, 1) := by decide +kernel
theorem dX2_moveUp_18 : decode cX2_moveUp 18 = .ok (.getfield 15, 3) := by decide +kernel
theorem dX2_moveUp_21 : decode cX2_moveUp 21 = .ok (.iload_n 1, 1) := by decide +kernel
theorem dX2_moveUp_22 : decode cX2_moveUp 22 = .ok (.iaload, 1) := by decide +kernel
theorem dX2_moveUp_23 : decode cX2_moveUp 23 = .ok (.iastore, 1) := by decide +kernel
theorem dX2_moveUp_24 : decode cX2_moveUp 24 = .ok (.aload_n 0, 1) := by decide +kernel
theorem dX2_moveUp_25 : decode cX2_moveUp 25 = .ok (.getfield 18, 3) := by decide +kernel
theorem dX2_moveUp_28 : decode cX2_moveUp 28 = .ok (.iload_n 2, 1) := by decide +kernel
theorem dX2_moveUp_29 : decode cX2_moveUp 29 = .ok (.aload_n 0, 1) := by decide +kernel
theorem dX2_moveUp_30 : decode cX2_moveUp 30 = .ok (.getfield 18, 3) := by decide +kernel
theorem dX2_moveUp_33 : decode cX2_moveUp 33 = .ok (.iload_n 1, 1) := by decide +kernel
theorem dX2_moveUp_34 : decode cX2_moveUp 34 = .ok (.iaload, 1) := by decide +kernel
theorem dX2_moveUp_35 : decode cX2_moveUp 35 = .ok (.iastore, 1) := by decide +kernel
theorem dX2_moveUp_36 : decode cX2_moveUp 36 = .ok (.aload_n 0, 1) := by decide +kernel
theorem dX2_moveUp_37 : decode cX2_moveUp 37 = .ok (.getfield 21, 3) := by decide +kernel
theorem dX2_moveUp_40 : decode cX2_moveUp 40 = .ok (.iload_n 2, 1) := by decide +kernel
theorem dX2_moveUp_41 : decode cX2_moveUp 41 = .ok (.aload_n 0, 1) := by decide +kernel
theorem dX2_moveUp_42 : decode cX2_moveUp 42 = .ok (.getfield 21, 3) := by decide +kernel
theorem dX2_moveUp_45 : decode cX2_moveUp 45 = .ok (.iload_n 1, 1) := by decide +kernel
theorem dX2_moveUp_46 : decode cX2_moveUp 46 = .ok (.iaload, 1) := by decide +kernel
theorem dX2_moveUp_47 : decode cX2_moveUp 47 = .ok (.iastore, 1) := by decide +kernel
theorem dX2_moveUp_48 : decode cX2_moveUp 48 = .ok (.aload_n 0, 1) := by decide +kernel
theorem dX2_moveUp_49 : decode cX2_moveUp 49 = .ok (.getfield 24, 3) := by decide +kernel
theorem dX2_moveUp_52 : decode cX2_moveUp 52 = .ok (.iload_n 2, 1) := by decide +kernel
theorem dX2_moveUp_53 : decode cX2_moveUp 53 = .ok (.aload_n 0, 1) := by decide +kernel
theorem dX2_moveUp_54 : decode cX2_moveUp 54 = .ok (.getfield 24, 3) := by decide +kernel
theorem dX2_moveUp_57 : decode cX2_moveUp 57 = .ok (.iload_n 1, 1) := by decide +kernel
theorem dX2_moveUp_58 : decode cX2_moveUp 58 = .ok (.iaload, 1) := by decide +kernel
theorem dX2_moveUp_59 : decode cX2_moveUp 59 = .ok (.iastore, 1) := by decide +kernel
theorem dX2_moveUp_60 : decode cX2_moveUp 60 = .ok (.return_, 1) := by decide +kernel
set_option maxRecDepth 20000 in
theorem ggX2_fact_X3_isIn : GoodIn wsX2_fact wsX3_isIn := goodIn_r _ [8] (by decide +kernel) (by decide +kernel)
set_option maxRecDepth 20000 in
theorem gX2_fact_X3_isIn_n48 : GoodIn wsX2_fact (wsX3_isIn) := ggX2_fact_X3_isIn
theorem dX2_fact_0 : decode cX2_fact 0 = .ok (.iload_n 1, 1) := by decide +kernel
theorem dX2_fact_1 : decode cX2_fact 1 = .ok (.iconst 0, 1) := by decide +kernel
theorem dX2_fact_2 : decode cX2_fact 2 = .ok (.aload_n 0, 1) := by decide +kernel
theorem dX2_fact_3 : decode cX2_fact 3 = .ok (.getfield 27, 3) := by decide +kernel
theorem dX2_fact_6 : decode cX2_fact 6 = .ok (.iconst 1, 1) := by decide +kernel
theorem dX2_fact_7 : decode cX2_fact 7 = .ok (.isub, 1) := by decide +kernel
theorem dX2_fact_8 : decode cX2_fact 8 = .ok (.invokestatic 48, 3) := by decide +kernel
theorem dX2_fact_11 : decode cX2_fact 11 = .ok (.ifCond .ne 5, 3) := by decide +kernel
theorem dX2_fact_14 : decode cX2_fact 14 = .ok (.iconst 0, 1) := by decide +kernel
theorem dX2_fact_15 : decode cX2_fact 15 = .ok (.ireturn, 1) := by decide +kernel
theorem dX2_fact_16 : decode cX2_fact 16 = .ok (.iload_n 2, 1) := by decide +kernel
theorem dX2_fact_17 : decode cX2_fact 17 = .ok (.tableswitch 48 0 2 #[27, 34, 41], 27) := by decide +kernel
theorem dX2_fact_44 : decode cX2_fact 44 = .ok (.aload_n 0, 1) := by decide +kernel
theorem dX2_fact_45 : decode cX2_fact 45 = .ok (.getfield 9, 3) := by decide +kernel
theorem dX2_fact_48 : decode cX2_fact 48 = .ok (.iload_n 1, 1) := by decide +kernel
theorem dX2_fact_49 : decode cX2_fact 49 = .ok (.iaload, 1) := by decide +kernel
theorem dX2_fact_50 : decode cX2_fact 50 = .ok (.ireturn, 1) := by decide +kernel
theorem dX2_fact_51 : decode cX2_fact 51 = .ok (.aload_n 0, 1) := by decide +kernel
theorem dX2_fact_52 : decode cX2_fact 52 = .ok (.getfield 15, 3) := by decide +kernel
theorem dX2_fact_55 : decode cX2_fact 55 = .ok (.iload_n 1, 1) := by decide +kernel
theorem dX2_fact_56 : decode cX2_fact 56 = .ok (.iaload, 1) := by decide +kernel
theorem dX2_fact_57 : decode cX2_fact 57 = .ok (.ireturn, 1) := by decide +kernel
theorem dX2_fact_58 : decode cX2_fact 58 = .ok (.aload_n 0, 1) := by decide +kernel
theorem dX2_fact_59 : decode cX2_fact 59 = .ok (.getfield 18, 3) := by decide +kernel
theorem dX2_fact_62 : decode cX2_fact 62 = .ok (.iload_n 1, 1) := by decide +kernel
theorem dX2_fact_63 : decode cX2_fact 63 = .ok (.iaload, 1) := by decide +kernel
theorem dX2_fact_64 : decode cX2_fact 64 = .ok (.ireturn, 1) := by decide +kernel
theorem dX2_fact_65 : decode cX2_fact 65 = .ok (.aload_n 0, 1) := by decide +kernel
theorem dX2_fact_66 : decode cX2_fact 66 = .ok (.getfield 21, 3) := by decide +kernel
theorem dX2_fact_69 : decode cX2_fact 69 = .ok (.iload_n 1, 1) := by decide +kernel
theorem dX2_fact_70 : decode cX2_fact 70 = .ok (.iaload, 1) := by decide +kernel
theorem dX2_fact_71 : decode cX2_fact 71 = .ok (.ireturn, 1) := by decide +kernel
set_option maxRecDepth 20000 in
theorem ggX3_init_X1_init : GoodIn wsX3_init wsX1_init := goodIn_r _ [11, 12, 2, 3, 13, 14, 15, 16, 17, 18, 19, 20, 21, 22, 23, 24, 25, 26, 27, 28, 29, 30, 31, 32, 33, 34, 35, 36, 37, 38, 39, 40, 41, 42, 43, 46, 47, 48, 49, 50, 51, 52, 53, 54, 55, 56, 57, 58, 59, 60, 61, 62, 63, 64, 65, 66] (by decide +kernel) (by decide +kernel)
set_option maxRecDepth 20000 in
theorem gX3_init_X1_init : GoodIn wsX3_init (wsX1_init) := ggX3_init_X1_init
theorem dX3_init_0 : decode cX3_init 0 = .ok (.aload_n 0, 1) := by decide +kernel
theorem dX3_init_1 : decode cX3_init 1 = .ok (.invokespecial 1, 3) := by decide +kernel
theorem dX3_init_4 : decode cX3_init 4 = .ok (.aload_n 0, 1) := by decide +kernel
theorem dX3_init_5 : decode cX3_init 5 = .ok (.new 7, 3) := by decide +kernel
theorem dX3_init_8 : decode cX3_init 8 = .ok (.dup, 1) := by decide +kernel
theorem dX3_init_9 : decode cX3_init 9 = .ok (.invokespecial 9, 3) := by decide +kernel
theorem dX3_init_12 : decode cX3_init 12 = .ok (.putfield 10, 3) := by decide +kernel
theorem dX3_init_15 : decode cX3_init 15 = .ok (.aload_n 0, 1) := by decide +kernel
theorem dX3_init_16 : decode cX3_init 16 = .ok (.new 7, 3) := by decide +kernel
theorem dX3_init_19 : decode cX3_init 19 = .ok (.dup, 1) := by decide +kernel
theorem dX3_init_20 : decode cX3_init 20 = .ok (.invokespecial 9, 3) := by decide +kernel
theorem dX3_init_23 : decode cX3_init 23 = .ok (.putfield 16, 3) := by decide +kernel
theorem dX3_init_26 : decode cX3_init 26 = .ok (.return_, 1) := by decide +kernel
set_option maxRecDepth 20000 in
theorem ggX3_build_X3_isIn : GoodIn wsX3_build wsX3_isIn := goodIn_r _ [10] (by decide +kernel) (by decide +kernel)
set_option maxRecDepth 20000 in
theorem gX3_build_X3_isIn : GoodIn wsX3_build (va_wsS RX3 19 yX3_isIn wsX3_isIn) := goodIn_app (goodIn_of _ (by decide +kernel)) ggX3_build_X3_isIn
set_option maxRecDepth 20000 in
theorem ggX3_build_X3_isPatience : GoodIn wsX3_build wsX3_isPatience := goodIn_r _ [13, 7, 8, 9, 10] (by decide +kernel) (by decide +kernel)
set_option maxRecDepth 20000 in
theorem gX3_build_X3_isPatience : GoodIn wsX3_build (va_wsS RX3 30 yX3_isPatience wsX3_isPatience) := goodIn_app (goodIn_of _ (by decide +kernel)) ggX3_build_X3_isPatience
set_option maxRecDepth 20000 in
theorem ggX3_build_X3_isRule : GoodIn wsX3_build wsX3_isRule := goodIn_r _ [16, 7, 8, 9, 10] (by decide +kernel) (by decide +kernel)
set_option maxRecDepth 20000 in
theorem gX3_build_X3_isRule : GoodIn wsX3_build (va_wsS RX3 34 yX3_isRule wsX3_isRule) := goodIn_app (goodIn_of _ (by decide +kernel)) ggX3_build_X3_isRule
set_option maxRecDepth 20000 in
theorem ggX3_build_X1_addDoor : GoodIn wsX3_build wsX1_addDoor := goodIn_r _ [21, 22, 23, 24, 25, 26, 29, 30, 31, 32, 33, 34, 35, 36, 37, 38, 39, 40, 41, 42, 43, 44, 45, 46, 47] (by decide +kernel) (by decide +kernel)
set_option maxRecDepth 20000 in
theorem gX3_build_X1_addDoor : GoodIn wsX3_build (wsV RX3 48 RX1 yX1_addDoor wsX1_addDoor) := goodIn_app (goodIn_of _ (by decide +kernel)) ggX3_build_X1_addDoor
theorem dX3_build_0 : decode cX3_build 0 = .ok (.iload_n 1, 1) := by decide +kernel
theorem dX3_build_1 : decode cX3_build 1 = .ok (.iconst 0, 1) := by decide +kernel
theorem dX3_build_2 : decode cX3_build 2 = .ok (.bipush 99, 2) := by decide +kernel
theorem dX3_build_4 : decode cX3_build 4 = .ok (.invokestatic 19, 3) := by decide +kernel
theorem dX3_build_7 : decode cX3_build 7 = .ok (.ifCond .ne 13, 3) := by decide +kernel
theorem dX3_build_10 : decode cX3_build 10 = .ok (.new 23, 3) := by decide +kernel
theorem dX3_build_13 : decode cX3_build 13 = .ok (.dup, 1) := by decide +kernel
theorem dX3_build_14 : decode cX3_build 14 = .ok (.ldc 25, 2) := by decide +kernel
theorem dX3_build_16 : decode cX3_build 16 = .ok (.invokespecial 27, 3) := by decide +kernel
theorem dX3_build_19 : decode cX3_build 19 = .ok (.athrow, 1) := by decide +kernel
theorem dX3_build_20 : decode cX3_build 20 = .ok (.iload_n 2, 1) := by decide +kernel
theorem dX3_build_21 : decode cX3_build 21 = .ok (.invokestatic 30, 3) := by decide +kernel
theorem dX3_build_24 : decode cX3_build 24 = .ok (.ifCond .eq 10, 3) := by decide +kernel
theorem dX3_build_27 : decode cX3_build 27 = .ok (.iload_n 3, 1) := by decide +kernel
theorem dX3_build_28 : decode cX3_build 28 = .ok (.invokestatic 34, 3) := by decide +kernel
theorem dX3_build_31 : decode cX3_build 31 = .ok (.ifCond .ne 13, 3) := by decide +kernel
theorem dX3_build_34 : decode cX3_build 34 = .ok (.new 23, 3) := by decide +kernel
theorem dX3_build_37 : decode cX3_build 37 = .ok (.dup, 1) := by decide +kernel
theorem dX3_build_38 : decode cX3_build 38 = .ok (.ldc 37, 2) := by decide +kernel
theorem dX3_build_40 : decode cX3_build 40 = .ok (.invokespecial 27, 3) := by decide +kernel
theorem dX3_build_43 : decode cX3_build 43 = .ok (.athrow, 1) := by decide +kernel
theorem dX3_build_44 : decode cX3_build 44 = .ok (.aload_n 0, 1) := by decide +kernel
theorem dX3_build_45 : decode cX3_build 45 = .ok (.getfield 10, 3) := by decide +kernel
theorem dX3_build_48 : decode cX3_build 48 = .ok (.getfield 39, 3) := by decide +kernel
theorem dX3_build_51 : decode cX3_build 51 = .ok (.bipush 10, 2) := by decide +kernel
theorem dX3_build_53 : decode cX3_build 53 = .ok (.if_icmp .lt 13, 3) := by decide +kernel
theorem dX3_build_56 : decode cX3_build 56 = .ok (.new 43, 3) := by decide +kernel
theorem dX3_build_59 : decode cX3_build 59 = .ok (.dup, 1) := by decide +kernel
theorem dX3_build_60 : decode cX3_build 60 = .ok (.ldc 45, 2) := by decide +kernel
theorem dX3_build_62 : decode cX3_build 62 = .ok (.invokespecial 47, 3) := by decide +kernel
theorem dX3_build_65 : decode cX3_build 65 = .ok (.athrow, 1) := by decide +kernel
theorem dX3_build_66 : decode cX3_build 66 = .ok (.aload_n 0, 1) := by decide +kernel
theorem dX3_build_67 : decode cX3_build 67 = .ok (.getfield 10, 3) := by decide +kernel
theorem dX3_build_70 : decode cX3_build 70 = .ok (.iload_n 1, 1) := by decide +kernel
theorem dX3_build_71 : decode cX3_build 71 = .ok (.iload_n 2, 1) := by decide +kernel
theorem dX3_build_72 : decode cX3_build 72 = .ok (.iload_n 3, 1) := by decide +kernel
theorem dX3_build_73 : decode cX3_build 73 = .ok (.invokevirtual 48, 3) := by decide +kernel
theorem dX3_build_76 : decode cX3_build 76 = .ok (.ireturn, 1) := by decide +kernel
set_option maxRecDepth 20000 in
theorem ggX3_ask_X1_isDoor : GoodIn wsX3_ask wsX1_isDoor := goodIn_r _ [15, 16, 36, 37, 38, 39, 40] (by decide +kernel) (by decide +kernel)
set_option maxRecDepth 20000 in
theorem gX3_ask_X1_isDoor : GoodIn wsX3_ask (wsV RX3 52 RX1 yX1_isDoor wsX1_isDoor) := goodIn_app (goodIn_of _ (by decide +kernel)) ggX3_ask_X1_isDoor
set_option maxRecDepth 20000 in
theorem ggX3_ask_X3_isIn : GoodIn wsX3_ask wsX3_isIn := goodIn_r _ [20] (by decide +kernel) (by decide +kernel)
set_option maxRecDepth 20000 in
theorem gX3_ask_X3_isIn : GoodIn wsX3_ask (va_wsS RX3 19 yX3_isIn wsX3_isIn) := goodIn_app (goodIn_of _ (by decide +kernel)) ggX3_ask_X3_isIn
set_option maxRecDepth 20000 in
theorem ggX3_ask_X0_placeOf : GoodIn wsX3_ask wsX0_placeOf := goodIn_r _ [25, 26, 27, 41, 42, 43, 44, 45, 46, 47, 48, 49, 50, 51, 52, 53, 54] (by decide +kernel) (by decide +kernel)
set_option maxRecDepth 20000 in
theorem gX3_ask_X0_placeOf : GoodIn wsX3_ask (wsV RX3 71 RX0 yX0_placeOf wsX0_placeOf) := goodIn_app (goodIn_of _ (by decide +kernel)) ggX3_ask_X0_placeOf
set_option maxRecDepth 20000 in
theorem ggX3_ask_X0_addAsked : GoodIn wsX3_ask wsX0_addAsked := goodIn_r _ [31, 26, 27, 32, 33, 41, 42, 43, 44, 45, 46, 47, 48, 49, 50, 51, 52, 53, 54] (by decide +kernel) (by decide +kernel)
set_option maxRecDepth 20000 in
theorem gX3_ask_X0_addAsked : GoodIn wsX3_ask (wsV RX3 80 RX0 yX0_addAsked wsX0_addAsked) := goodIn_app (goodIn_of _ (by decide +kernel)) ggX3_ask_X0_addAsked
theorem dX3_ask_0 : decode cX3_ask 0 = .ok (.aload_n 0, 1) := by decide +kernel
theorem dX3_ask_1 : decode cX3_ask 1 = .ok (.getfield 10, 3) := by decide +kernel
theorem dX3_ask_4 : decode cX3_ask 4 = .ok (.iload_n 1, 1) := by decide +kernel
theorem dX3_ask_5 : decode cX3_ask 5 = .ok (.invokevirtual 52, 3) := by decide +kernel
theorem dX3_ask_8 : decode cX3_ask 8 = .ok (.ifCond .eq 14, 3) := by decide +kernel
theorem dX3_ask_11 : decode cX3_ask 11 = .ok (.aload_n 0, 1) := by decide +kernel
theorem dX3_ask_12 : decode cX3_ask 12 = .ok (.getfield 10, 3) := by decide +kernel
theorem dX3_ask_15 : decode cX3_ask 15 = .ok (.iload_n 2, 1) := by decide +kernel
theorem dX3_ask_16 : decode cX3_ask 16 = .ok (.invokevirtual 52, 3) := by decide +kernel
theorem dX3_ask_19 : decode cX3_ask 19 = .ok (.ifCond .ne 13, 3) := by decide +kernel
theorem dX3_ask_22 : decode cX3_ask 22 = .ok (.new 55, 3) := by decide +kernel
theorem dX3_ask_25 : decode cX3_ask 25 = .ok (.dup, 1) := by decide +kernel
theorem dX3_ask_26 : decode cX3_ask 26 = .ok (.ldc 57, 2) := by decide +kernel
theorem dX3_ask_28 : decode cX3_ask 28 = .ok (.invokespecial 59, 3) := by decide +kernel
theorem dX3_ask_31 : decode cX3_ask 31 = .ok (.athrow, 1) := by decide +kernel
theorem dX3_ask_32 : decode cX3_ask 32 = .ok (.iload_n 1, 1) := by decide +kernel
theorem dX3_ask_33 : decode cX3_ask 33 = .ok (.iload_n 2, 1) := by decide +kernel
theorem dX3_ask_34 : decode cX3_ask 34 = .ok (.if_icmp .eq 12, 3) := by decide +kernel
theorem dX3_ask_37 : decode cX3_ask 37 = .ok (.iload_n 3, 1) := by decide +kernel
theorem dX3_ask_38 : decode cX3_ask 38 = .ok (.iconst 1, 1) := by decide +kernel
theorem dX3_ask_39 : decode cX3_ask 39 = .ok (.iconst 5, 1) := by decide +kernel
theorem dX3_ask_40 : decode cX3_ask 40 = .ok (.invokestatic 19, 3) := by decide +kernel
theorem dX3_ask_43 : decode cX3_ask 43 = .ok (.ifCond .ne 13, 3) := by decide +kernel
theorem dX3_ask_46 : decode cX3_ask 46 = .ok (.new 23, 3) := by decide +kernel
theorem dX3_ask_49 : decode cX3_ask 49 = .ok (.dup, 1) := by decide +kernel
theorem dX3_ask_50 : decode cX3_ask 50 = .ok (.ldc 60, 2) := by decide +kernel
theorem dX3_ask_52 : decode cX3_ask 52 = .ok (.invokespecial 27, 3) := by decide +kernel
theorem dX3_ask_55 : decode cX3_ask 55 = .ok (.athrow, 1) := by decide +kernel
theorem dX3_ask_56 : decode cX3_ask 56 = .ok (.aload_n 0, 1) := by decide +kernel
theorem dX3_ask_57 : decode cX3_ask 57 = .ok (.getfield 10, 3) := by decide +kernel
theorem dX3_ask_60 : decode cX3_ask 60 = .ok (.getfield 62, 3) := by decide +kernel
theorem dX3_ask_63 : decode cX3_ask 63 = .ok (.iload_n 1, 1) := by decide +kernel
theorem dX3_ask_64 : decode cX3_ask 64 = .ok (.aaload, 1) := by decide +kernel
theorem dX3_ask_65 : decode cX3_ask 65 = .ok (.astore 4, 2) := by decide +kernel
theorem dX3_ask_67 : decode cX3_ask 67 = .ok (.aload 4, 2) := by decide +kernel
theorem dX3_ask_69 : decode cX3_ask 69 = .ok (.getfield 66, 3) := by decide +kernel
theorem dX3_ask_72 : decode cX3_ask 72 = .ok (.ifCond .ne 21, 3) := by decide +kernel
theorem dX3_ask_75 : decode cX3_ask 75 = .ok (.aload 4, 2) := by decide +kernel
theorem dX3_ask_77 : decode cX3_ask 77 = .ok (.iload_n 2, 1) := by decide +kernel
theorem dX3_ask_78 : decode cX3_ask 78 = .ok (.invokevirtual 71, 3) := by decide +kernel
theorem dX3_ask_81 : decode cX3_ask 81 = .ok (.ifCond .ge 12, 3) := by decide +kernel
theorem dX3_ask_84 : decode cX3_ask 84 = .ok (.aload 4, 2) := by decide +kernel
theorem dX3_ask_86 : decode cX3_ask 86 = .ok (.getfield 75, 3) := by decide +kernel
theorem dX3_ask_89 : decode cX3_ask 89 = .ok (.iconst 4, 1) := by decide +kernel
theorem dX3_ask_90 : decode cX3_ask 90 = .ok (.if_icmp .lt 13, 3) := by decide +kernel
theorem dX3_ask_93 : decode cX3_ask 93 = .ok (.new 43, 3) := by decide +kernel
theorem dX3_ask_96 : decode cX3_ask 96 = .ok (.dup, 1) := by decide +kernel
theorem dX3_ask_97 : decode cX3_ask 97 = .ok (.ldc 78, 2) := by decide +kernel
theorem dX3_ask_99 : decode cX3_ask 99 = .ok (.invokespecial 47, 3) := by decide +kernel
theorem dX3_ask_102 : decode cX3_ask 102 = .ok (.athrow, 1) := by decide +kernel
theorem dX3_ask_103 : decode cX3_ask 103 = .ok (.aload 4, 2) := by decide +kernel
theorem dX3_ask_105 : decode cX3_ask 105 = .ok (.iload_n 2, 1) := by decide +kernel
theorem dX3_ask_106 : decode cX3_ask 106 = .ok (.iload_n 3, 1) := by decide +kernel
theorem dX3_ask_107 : decode cX3_ask 107 = .ok (.invokevirtual 80, 3) := by decide +kernel
theorem dX3_ask_110 : decode cX3_ask 110 = .ok (.aload 4, 2) := by decide +kernel
theorem dX3_ask_112 : decode cX3_ask 112 = .ok (.getfield 75, 3) := by decide +kernel
theorem dX3_ask_115 : decode cX3_ask 115 = .ok (.ireturn, 1) := by decide +kernel
set_option maxRecDepth 20000 in
theorem ggX3_set_X1_isDoor : GoodIn wsX3_set wsX1_isDoor := goodIn_r _ [13, 14, 27, 28, 29, 30, 31] (by decide +kernel) (by decide +kernel)
set_option maxRecDepth 20000 in
theorem gX3_set_X1_isDoor : GoodIn wsX3_set (wsV RX3 52 RX1 yX1_isDoor wsX1_isDoor) := goodIn_app (goodIn_of _ (by decide +kernel)) ggX3_set_X1_isDoor
set_option maxRecDepth 20000 in
theorem ggX3_set_X3_isRule : GoodIn wsX3_set wsX3_isRule := goodIn_r _ [18, 19, 20, 17, 21] (by decide +kernel) (by decide +kernel)
set_option maxRecDepth 20000 in
theorem gX3_set_X3_isRule : GoodIn wsX3_set (va_wsS RX3 34 yX3_isRule wsX3_isRule) := goodIn_app (goodIn_of _ (by decide +kernel)) ggX3_set_X3_isRule
set_option maxRecDepth 20000 in
theorem ggX3_set_X3_isPatience : GoodIn wsX3_set wsX3_isPatience := goodIn_r _ [24, 19, 20, 17, 21] (by decide +kernel) (by decide +kernel)
set_option maxRecDepth 20000 in
theorem gX3_set_X3_isPatience : GoodIn wsX3_set (va_wsS RX3 30 yX3_isPatience wsX3_isPatience) := goodIn_app (goodIn_of _ (by decide +kernel)) ggX3_set_X3_isPatience
theorem dX3_set_0 : decode cX3_set 0 = .ok (.aload_n 0, 1) := by decide +kernel
theorem dX3_set_1 : decode cX3_set 1 = .ok (.getfield 10, 3) := by decide +kernel
theorem dX3_set_4 : decode cX3_set 4 = .ok (.iload_n 1, 1) := by decide +kernel
theorem dX3_set_5 : decode cX3_set 5 = .ok (.invokevirtual 52, 3) := by decide +kernel
theorem dX3_set_8 : decode cX3_set 8 = .ok (.ifCond .ne 13, 3) := by decide +kernel
theorem dX3_set_11 : decode cX3_set 11 = .ok (.new 55, 3) := by decide +kernel
theorem dX3_set_14 : decode cX3_set 14 = .ok (.dup, 1) := by decide +kernel
theorem dX3_set_15 : decode cX3_set 15 = .ok (.ldc 57, 2) := by decide +kernel
theorem dX3_set_17 : decode cX3_set 17 = .ok (.invokespecial 59, 3) := by decide +kernel
theorem dX3_set_20 : decode cX3_set 20 = .ok (.athrow, 1) := by decide +kernel
theorem dX3_set_21 : decode cX3_set 21 = .ok (.iload_n 2, 1) := by decide +kernel
theorem dX3_set_22 : decode cX3_set 22 = .ok (.invokestatic 34, 3) := by decide +kernel
theorem dX3_set_25 : decode cX3_set 25 = .ok (.ifCond .eq 10, 3) := by decide +kernel
theorem dX3_set_28 : decode cX3_set 28 = .ok (.iload_n 3, 1) := by decide +kernel
theorem dX3_set_29 : decode cX3_set 29 = .ok (.invokestatic 30, 3) := by decide +kernel
theorem dX3_set_32 : decode cX3_set 32 = .ok (.ifCond .ne 13, 3) := by decide +kernel
theorem dX3_set_35 : decode cX3_set 35 = .ok (.new 23, 3) := by decide +kernel
theorem dX3_set_38 : decode cX3_set 38 = .ok (.dup, 1) := by decide +kernel
theorem dX3_set_39 : decode cX3_set 39 = .ok (.ldc 84, 2) := by decide +kernel
theorem dX3_set_41 : decode cX3_set 41 = .ok (.invokespecial 27, 3) := by decide +kernel
theorem dX3_set_44 : decode cX3_set 44 = .ok (.athrow, 1) := by decide +kernel
theorem dX3_set_45 : decode cX3_set 45 = .ok (.aload_n 0, 1) := by decide +kernel
theorem dX3_set_46 : decode cX3_set 46 = .ok (.getfield 10, 3) := by decide +kernel
theorem dX3_set_49 : decode cX3_set 49 = .ok (.getfield 62, 3) := by decide +kernel
theorem dX3_set_52 : decode cX3_set 52 = .ok (.iload_n 1, 1) := by decide +kernel
theorem dX3_set_53 : decode cX3_set 53 = .ok (.aaload, 1) := by decide +kernel
theorem dX3_set_54 : decode cX3_set 54 = .ok (.astore 4, 2) := by decide +kernel
theorem dX3_set_56 : decode cX3_set 56 = .ok (.bipush 100, 2) := by decide +kernel
theorem dX3_set_58 : decode cX3_set 58 = .ok (.aload 4, 2) := by decide +kernel
theorem dX3_set_60 : decode cX3_set 60 = .ok (.getfield 86, 3) := by decide +kernel
theorem dX3_set_63 : decode cX3_set 63 = .ok (.imul, 1) := by decide +kernel
theorem dX3_set_64 : decode cX3_set 64 = .ok (.aload 4, 2) := by decide +kernel
theorem dX3_set_66 : decode cX3_set 66 = .ok (.getfield 89, 3) := by decide +kernel
theorem dX3_set_69 : decode cX3_set 69 = .ok (.iadd, 1) := by decide +kernel
theorem dX3_set_70 : decode cX3_set 70 = .ok (.istore 5, 2) := by decide +kernel
theorem dX3_set_72 : decode cX3_set 72 = .ok (.aload 4, 2) := by decide +kernel
theorem dX3_set_74 : decode cX3_set 74 = .ok (.iload_n 2, 1) := by decide +kernel
theorem dX3_set_75 : decode cX3_set 75 = .ok (.putfield 86, 3) := by decide +kernel
theorem dX3_set_78 : decode cX3_set 78 = .ok (.aload 4, 2) := by decide +kernel
theorem dX3_set_80 : decode cX3_set 80 = .ok (.iload_n 3, 1) := by decide +kernel
theorem dX3_set_81 : decode cX3_set 81 = .ok (.putfield 89, 3) := by decide +kernel
theorem dX3_set_84 : decode cX3_set 84 = .ok (.iload 5, 2) := by decide +kernel
theorem dX3_set_86 : decode cX3_set 86 = .ok (.ireturn, 1) := by decide +kernel
set_option maxRecDepth 20000 in
theorem ggX3_whisper_X1_isDoor : GoodIn wsX3_whisper wsX1_isDoor := goodIn_r _ [10, 11, 59, 60, 61, 62, 63] (by decide +kernel) (by decide +kernel)
set_option maxRecDepth 20000 in
theorem gX3_whisper_X1_isDoor : GoodIn wsX3_whisper (wsV RX3 52 RX1 yX1_isDoor wsX1_isDoor) := goodIn_app (goodIn_of _ (by decide +kernel)) ggX3_whisper_X1_isDoor
set_option maxRecDepth 20000 in
theorem ggX3_whisper_X3_isIn : GoodIn wsX3_whisper wsX3_isIn := goodIn_r _ [15] (by decide +kernel) (by decide +kernel)
set_option maxRecDepth 20000 in
theorem gX3_whisper_X3_isIn : GoodIn wsX3_whisper (va_wsS RX3 19 yX3_isIn wsX3_isIn) := goodIn_app (goodIn_of _ (by decide +kernel)) ggX3_whisper_X3_isIn
set_option maxRecDepth 20000 in
theorem ggX3_whisper_X1_hearToken : GoodIn wsX3_whisper wsX1_hearToken := goodIn_r _ [19, 20, 21, 22, 23, 7, 8, 9, 10, 11, 24, 25, 26, 27, 28, 29, 30, 31, 32, 33, 34, 35, 36, 37, 38, 39, 40, 41, 42, 43, 44, 45, 46, 47, 48, 49, 50, 51, 52, 53, 54, 55, 56, 59, 60, 61, 62, 63, 64, 65, 66, 67, 68, 69, 70, 71, 72, 73, 74, 75, 76, 77, 78, 79, 80, 81, 82, 83, 84] (by decide +kernel) (by decide +kernel)
set_option maxRecDepth 20000 in
theorem gX3_whisper_X1_hearToken : GoodIn wsX3_whisper (wsV RX3 94 RX1 yX1_hearToken wsX1_hearToken) := goodIn_app (goodIn_of _ (by decide +kernel)) ggX3_whisper_X1_hearToken
theorem dX3_whisper_0 : decode cX3_whisper 0 = .ok (.aload_n 0, 1) := by decide +kernel
theorem dX3_whisper_1 : decode cX3_whisper 1 = .ok (.getfield 10, 3) := by decide +kernel
theorem dX3_whisper_4 : decode cX3_whisper 4 = .ok (.iload_n 1, 1) := by decide +kernel
theorem dX3_whisper_5 : decode cX3_whisper 5 = .ok (.invokevirtual 52, 3) := by decide +kernel
theorem dX3_whisper_8 : decode cX3_whisper 8 = .ok (.ifCond .ne 13, 3) := by decide +kernel
theorem dX3_whisper_11 : decode cX3_whisper 11 = .ok (.new 55, 3) := by decide +kernel
theorem dX3_whisper_14 : decode cX3_whisper 14 = .ok (.dup, 1) := by decide +kernel
theorem dX3_whisper_15 : decode cX3_whisper 15 = .ok (.ldc 57, 2) := by decide +kernel
theorem dX3_whisper_17 : decode cX3_whisper 17 = .ok (.invokespecial 59, 3) := by decide +kernel
theorem dX3_whisper_20 : decode cX3_whisper 20 = .ok (.athrow, 1) := by decide +kernel
theorem dX3_whisper_21 : decode cX3_whisper 21 = .ok (.iload_n 2, 1) := by decide +kernel
theorem dX3_whisper_22 : decode cX3_whisper 22 = .ok (.iconst 0, 1) := by decide +kernel
theorem dX3_whisper_23 : decode cX3_whisper 23 = .ok (.bipush 99, 2) := by decide +kernel
theorem dX3_whisper_25 : decode cX3_whisper 25 = .ok (.invokestatic 19, 3) := by decide +kernel
theorem dX3_whisper_28 : decode cX3_whisper 28 = .ok (.ifCond .ne 13, 3) := by decide +kernel
theorem dX3_whisper_31 : decode cX3_whisper 31 = .ok (.new 23, 3) := by decide +kernel
theorem dX3_whisper_34 : decode cX3_whisper 34 = .ok (.dup, 1) := by decide +kernel
theorem dX3_whisper_35 : decode cX3_whisper 35 = .ok (.ldc 92, 2) := by decide +kernel
theorem dX3_whisper_37 : decode cX3_whisper 37 = .ok (.invokespecial 27, 3) := by decide +kernel
theorem dX3_whisper_40 : decode cX3_whisper 40 = .ok (.athrow, 1) := by decide +kernel
theorem dX3_whisper_41 : decode cX3_whisper 41 = .ok (.aload_n 0, 1) := by decide +kernel
theorem dX3_whisper_42 : decode cX3_whisper 42 = .ok (.getfield 10, 3) := by decide +kernel
theorem dX3_whisper_45 : decode cX3_whisper 45 = .ok (.iload_n 1, 1) := by decide +kernel
theorem dX3_whisper_46 : decode cX3_whisper 46 = .ok (.iload_n 2, 1) := by decide +kernel
theorem dX3_whisper_47 : decode cX3_whisper 47 = .ok (.invokevirtual 94, 3) := by decide +kernel
theorem dX3_whisper_50 : decode cX3_whisper 50 = .ok (.ireturn, 1) := by decide +kernel
set_option maxRecDepth 20000 in
theorem ggX3_door_X1_isDoor : GoodIn wsX3_door wsX1_isDoor := goodIn_r _ [9, 10, 34, 35, 36, 37, 38] (by decide +kernel) (by decide +kernel)
set_option maxRecDepth 20000 in
theorem gX3_door_X1_isDoor : GoodIn wsX3_door (wsV RX3 52 RX1 yX1_isDoor wsX1_isDoor) := goodIn_app (goodIn_of _ (by decide +kernel)) ggX3_door_X1_isDoor
set_option maxRecDepth 20000 in
theorem ggX3_door_X3_isIn : GoodIn wsX3_door wsX3_isIn := goodIn_r _ [14] (by decide +kernel) (by decide +kernel)
set_option maxRecDepth 20000 in
theorem gX3_door_X3_isIn : GoodIn wsX3_door (va_wsS RX3 19 yX3_isIn wsX3_isIn) := goodIn_app (goodIn_of _ (by decide +kernel)) ggX3_door_X3_isIn
set_option maxRecDepth 20000 in
theorem ggX3_door_X0_fact : GoodIn wsX3_door wsX0_fact := goodIn_r _ [19, 20, 21, 22, 23, 24, 25, 26, 27, 28, 29, 18, 30, 31, 39, 40, 41, 42, 43, 44, 45, 46, 47, 48, 49, 50, 51, 52] (by decide +kernel) (by decide +kernel)
set_option maxRecDepth 20000 in
theorem gX3_door_X0_fact : GoodIn wsX3_door (wsV RX3 100 RX0 yX0_fact wsX0_fact) := goodIn_app (goodIn_of _ (by decide +kernel)) ggX3_door_X0_fact
theorem dX3_door_0 : decode cX3_door 0 = .ok (.aload_n 0, 1) := by decide +kernel
theorem dX3_door_1 : decode cX3_door 1 = .ok (.getfield 10, 3) := by decide +kernel
theorem dX3_door_4 : decode cX3_door 4 = .ok (.iload_n 1, 1) := by decide +kernel
theorem dX3_door_5 : decode cX3_door 5 = .ok (.invokevirtual 52, 3) := by decide +kernel
theorem dX3_door_8 : decode cX3_door 8 = .ok (.ifCond .eq 13, 3) := by decide +kernel
theorem dX3_door_11 : decode cX3_door 11 = .ok (.iload_n 2, 1) := by decide +kernel
theorem dX3_door_12 : decode cX3_door 12 = .ok (.iconst 0, 1) := by decide +kernel
theorem dX3_door_13 : decode cX3_door 13 = .ok (.bipush 8, 2) := by decide +kernel
theorem dX3_door_15 : decode cX3_door 15 = .ok (.invokestatic 19, 3) := by decide +kernel
theorem dX3_door_18 : decode cX3_door 18 = .ok (.ifCond .ne 13, 3) := by decide +kernel
theorem dX3_door_21 : decode cX3_door 21 = .ok (.new 55, 3) := by decide +kernel
theorem dX3_door_24 : decode cX3_door 24 = .ok (.dup, 1) := by decide +kernel
theorem dX3_door_25 : decode cX3_door 25 = .ok (.ldc 98, 2) := by decide +kernel
theorem dX3_door_27 : decode cX3_door 27 = .ok (.invokespecial 59, 3) := by decide +kernel
theorem dX3_door_30 : decode cX3_door 30 = .ok (.athrow, 1) := by decide +kernel
theorem dX3_door_31 : decode cX3_door 31 = .ok (.aload_n 0, 1) := by decide +kernel
theorem dX3_door_32 : decode cX3_door 32 = .ok (.getfield 10, 3) := by decide +kernel
theorem dX3_door_35 : decode cX3_door 35 = .ok (.getfield 62, 3) := by decide +kernel
theorem dX3_door_38 : decode cX3_door 38 = .ok (.iload_n 1, 1) := by decide +kernel
theorem dX3_door_39 : decode cX3_door 39 = .ok (.aaload, 1) := by decide +kernel
theorem dX3_door_40 : decode cX3_door 40 = .ok (.iload_n 2, 1) := by decide +kernel
theorem dX3_door_41 : decode cX3_door 41 = .ok (.invokevirtual 100, 3) := by decide +kernel
theorem dX3_door_44 : decode cX3_door 44 = .ok (.ireturn, 1) := by decide +kernel
set_option maxRecDepth 20000 in
theorem ggX3_asks_X1_isDoor : GoodIn wsX3_asks wsX1_isDoor := goodIn_r _ [10, 11, 27, 28, 29, 30, 31] (by decide +kernel) (by decide +kernel)
set_option maxRecDepth 20000 in
theorem gX3_asks_X1_isDoor : GoodIn wsX3_asks (wsV RX3 52 RX1 yX1_isDoor wsX1_isDoor) := goodIn_app (goodIn_of _ (by decide +kernel)) ggX3_asks_X1_isDoor
set_option maxRecDepth 20000 in
theorem ggX3_asks_X3_isIn : GoodIn wsX3_asks wsX3_isIn := goodIn_r _ [15] (by decide +kernel) (by decide +kernel)
set_option maxRecDepth 20000 in
theorem gX3_asks_X3_isIn : GoodIn wsX3_asks (va_wsS RX3 19 yX3_isIn wsX3_isIn) := goodIn_app (goodIn_of _ (by decide +kernel)) ggX3_asks_X3_isIn
set_option maxRecDepth 20000 in
theorem ggX3_asks_X0_askedFact : GoodIn wsX3_asks wsX0_askedFact := goodIn_r _ [20, 21, 22, 23, 24, 13, 14, 15, 32, 33, 34, 35, 36, 37, 38, 39, 40, 41, 42, 43, 44, 45] (by decide +kernel) (by decide +kernel)
set_option maxRecDepth 20000 in
theorem gX3_asks_X0_askedFact : GoodIn wsX3_asks (wsV RX3 107 RX0 yX0_askedFact wsX0_askedFact) := goodIn_app (goodIn_of _ (by decide +kernel)) ggX3_asks_X0_askedFact
theorem dX3_asks_0 : decode cX3_asks 0 = .ok (.aload_n 0, 1) := by decide +kernel
theorem dX3_asks_1 : decode cX3_asks 1 = .ok (.getfield 10, 3) := by decide +kernel
theorem dX3_asks_4 : decode cX3_asks 4 = .ok (.iload_n 1, 1) := by decide +kernel
theorem dX3_asks_5 : decode cX3_asks 5 = .ok (.invokevirtual 52, 3) := by decide +kernel
theorem dX3_asks_8 : decode cX3_asks 8 = .ok (.ifCond .eq 12, 3) := by decide +kernel
theorem dX3_asks_11 : decode cX3_asks 11 = .ok (.iload_n 3, 1) := by decide +kernel
theorem dX3_asks_12 : decode cX3_asks 12 = .ok (.iconst 0, 1) := by decide +kernel
theorem dX3_asks_13 : decode cX3_asks 13 = .ok (.iconst 2, 1) := by decide +kernel
theorem dX3_asks_14 : decode cX3_asks 14 = .ok (.invokestatic 19, 3) := by decide +kernel
theorem dX3_asks_17 : decode cX3_asks 17 = .ok (.ifCond .ne 13, 3) := by decide +kernel
theorem dX3_asks_20 : decode cX3_asks 20 = .ok (.new 55, 3) := by decide +kernel
theorem dX3_asks_23 : decode cX3_asks 23 = .ok (.dup, 1) := by decide +kernel
theorem dX3_asks_24 : decode cX3_asks 24 = .ok (.ldc 103, 2) := by decide +kernel
theorem dX3_asks_26 : decode cX3_asks 26 = .ok (.invokespecial 59, 3) := by decide +kernel
theorem dX3_asks_29 : decode cX3_asks 29 = .ok (.athrow, 1) := by decide +kernel
theorem dX3_asks_30 : decode cX3_asks 30 = .ok (.aload_n 0, 1) := by decide +kernel
theorem dX3_asks_31 : decode cX3_asks 31 = .ok (.getfield 10, 3) := by decide +kernel
theorem dX3_asks_34 : decode cX3_asks 34 = .ok (.getfield 62, 3) := by decide +kernel
theorem dX3_asks_37 : decode cX3_asks 37 = .ok (.iload_n 1, 1) := by decide +kernel
theorem dX3_asks_38 : decode cX3_asks 38 = .ok (.aaload, 1) := by decide +kernel
theorem dX3_asks_39 : decode cX3_asks 39 = .ok (.astore 4, 2) := by decide +kernel
theorem dX3_asks_41 : decode cX3_asks 41 = .ok (.iload_n 2, 1) := by decide +kernel
theorem dX3_asks_42 : decode cX3_asks 42 = .ok (.iconst 0, 1) := by decide +kernel
theorem dX3_asks_43 : decode cX3_asks 43 = .ok (.aload 4, 2) := by decide +kernel
theorem dX3_asks_45 : decode cX3_asks 45 = .ok (.getfield 75, 3) := by decide +kernel
theorem dX3_asks_48 : decode cX3_asks 48 = .ok (.iconst 1, 1) := by decide +kernel
theorem dX3_asks_49 : decode cX3_asks 49 = .ok (.isub, 1) := by decide +kernel
theorem dX3_asks_50 : decode cX3_asks 50 = .ok (.invokestatic 19, 3) := by decide +kernel
theorem dX3_asks_53 : decode cX3_asks 53 = .ok (.ifCond .ne 13, 3) := by decide +kernel
theorem dX3_asks_56 : decode cX3_asks 56 = .ok (.new 55, 3) := by decide +kernel
theorem dX3_asks_59 : decode cX3_asks 59 = .ok (.dup, 1) := by decide +kernel
theorem dX3_asks_60 : decode cX3_asks 60 = .ok (.ldc 105, 2) := by decide +kernel
theorem dX3_asks_62 : decode cX3_asks 62 = .ok (.invokespecial 59, 3) := by decide +kernel
theorem dX3_asks_65 : decode cX3_asks 65 = .ok (.athrow, 1) := by decide +kernel
theorem dX3_asks_66 : decode cX3_asks 66 = .ok (.aload 4, 2) := by decide +kernel
theorem dX3_asks_68 : decode cX3_asks 68 = .ok (.iload_n 2, 1) := by decide +kernel
theorem dX3_asks_69 : decode cX3_asks 69 = .ok (.iload_n 3, 1) := by decide +kernel
theorem dX3_asks_70 : decode cX3_asks 70 = .ok (.invokevirtual 107, 3) := by decide +kernel
theorem dX3_asks_73 : decode cX3_asks 73 = .ok (.ireturn, 1) := by decide +kernel
set_option maxRecDepth 20000 in
theorem ggX3_voice_X3_isIn : GoodIn wsX3_voice wsX3_isIn := goodIn_r _ [9] (by decide +kernel) (by decide +kernel)
set_option maxRecDepth 20000 in
theorem gX3_voice_X3_isIn : GoodIn wsX3_voice (va_wsS RX3 19 yX3_isIn wsX3_isIn) := goodIn_app (goodIn_of _ (by decide +kernel)) ggX3_voice_X3_isIn
set_option maxRecDepth 20000 in
theorem ggX3_voice_X2_fact : GoodIn wsX3_voice wsX2_fact := goodIn_r _ [14, 15, 16, 17, 18, 19, 7, 8, 9, 27, 28, 29, 30, 31, 32, 33] (by decide +kernel) (by decide +kernel)
set_option maxRecDepth 20000 in
theorem gX3_voice_X2_fact : GoodIn wsX3_voice (wsV RX3 122 RX2 yX2_fact wsX2_fact) := goodIn_app (goodIn_of _ (by decide +kernel)) ggX3_voice_X2_fact
theorem dX3_voice_0 : decode cX3_voice 0 = .ok (.iload_n 1, 1) := by decide +kernel
theorem dX3_voice_1 : decode cX3_voice 1 = .ok (.iconst 0, 1) := by decide +kernel
theorem dX3_voice_2 : decode cX3_voice 2 = .ok (.aload_n 0, 1) := by decide +kernel
theorem dX3_voice_3 : decode cX3_voice 3 = .ok (.getfield 10, 3) := by decide +kernel
theorem dX3_voice_6 : decode cX3_voice 6 = .ok (.getfield 111, 3) := by decide +kernel
theorem dX3_voice_9 : decode cX3_voice 9 = .ok (.getfield 115, 3) := by decide +kernel
theorem dX3_voice_12 : decode cX3_voice 12 = .ok (.iconst 1, 1) := by decide +kernel
theorem dX3_voice_13 : decode cX3_voice 13 = .ok (.isub, 1) := by decide +kernel
theorem dX3_voice_14 : decode cX3_voice 14 = .ok (.invokestatic 19, 3) := by decide +kernel
theorem dX3_voice_17 : decode cX3_voice 17 = .ok (.ifCond .eq 12, 3) := by decide +kernel
theorem dX3_voice_20 : decode cX3_voice 20 = .ok (.iload_n 2, 1) := by decide +kernel
theorem dX3_voice_21 : decode cX3_voice 21 = .ok (.iconst 0, 1) := by decide +kernel
theorem dX3_voice_22 : decode cX3_voice 22 = .ok (.iconst 3, 1) := by decide +kernel
theorem dX3_voice_23 : decode cX3_voice 23 = .ok (.invokestatic 19, 3) := by decide +kernel
theorem dX3_voice_26 : decode cX3_voice 26 = .ok (.ifCond .ne 13, 3) := by decide +kernel
theorem dX3_voice_29 : decode cX3_voice 29 = .ok (.new 55, 3) := by decide +kernel
theorem dX3_voice_32 : decode cX3_voice 32 = .ok (.dup, 1) := by decide +kernel
theorem dX3_voice_33 : decode cX3_voice 33 = .ok (.ldc 120, 2) := by decide +kernel
theorem dX3_voice_35 : decode cX3_voice 35 = .ok (.invokespecial 59, 3) := by decide +kernel
theorem dX3_voice_38 : decode cX3_voice 38 = .ok (.athrow, 1) := by decide +kernel
theorem dX3_voice_39 : decode cX3_voice 39 = .ok (.aload_n 0, 1) := by decide +kernel
theorem dX3_voice_40 : decode cX3_voice 40 = .ok (.getfield 10, 3) := by decide +kernel
theorem dX3_voice_43 : decode cX3_voice 43 = .ok (.getfield 111, 3) := by decide +kernel
theorem dX3_voice_46 : decode cX3_voice 46 = .ok (.iload_n 1, 1) := by decide +kernel
theorem dX3_voice_47 : decode cX3_voice 47 = .ok (.iload_n 2, 1) := by decide +kernel
theorem dX3_voice_48 : decode cX3_voice 48 = .ok (.invokevirtual 122, 3) := by decide +kernel
theorem dX3_voice_51 : decode cX3_voice 51 = .ok (.ireturn, 1) := by decide +kernel
set_option maxRecDepth 20000 in
theorem ggX3_count_X3_isIn : GoodIn wsX3_count wsX3_isIn := goodIn_r _ [7] (by decide +kernel) (by decide +kernel)
set_option maxRecDepth 20000 in
theorem gX3_count_X3_isIn : GoodIn wsX3_count (va_wsS RX3 19 yX3_isIn wsX3_isIn) := goodIn_app (goodIn_of _ (by decide +kernel)) ggX3_count_X3_isIn
set_option maxRecDepth 20000 in
theorem ggX3_count_X1_fact : GoodIn wsX3_count wsX1_fact := goodIn_r _ [12, 13, 14, 15, 16, 17, 18, 19, 20, 11, 21, 22, 23, 24, 25, 26, 27, 30, 31, 32, 33, 34, 35, 36, 37, 38, 39, 40, 41, 42, 43, 44, 45, 46, 47, 48, 49, 50, 51, 52, 53, 54, 55] (by decide +kernel) (by decide +kernel)
set_option maxRecDepth 20000 in
theorem gX3_count_X1_fact : GoodIn wsX3_count (wsV RX3 126 RX1 yX1_fact wsX1_fact) := goodIn_app (goodIn_of _ (by decide +kernel)) ggX3_count_X1_fact
theorem dX3_count_0 : decode cX3_count 0 = .ok (.iload_n 1, 1) := by decide +kernel
theorem dX3_count_1 : decode cX3_count 1 = .ok (.iconst 0, 1) := by decide +kernel
theorem dX3_count_2 : decode cX3_count 2 = .ok (.bipush 8, 2) := by decide +kernel
theorem dX3_count_4 : decode cX3_count 4 = .ok (.invokestatic 19, 3) := by decide +kernel
theorem dX3_count_7 : decode cX3_count 7 = .ok (.ifCond .ne 13, 3) := by decide +kernel
theorem dX3_count_10 : decode cX3_count 10 = .ok (.new 55, 3) := by decide +kernel
theorem dX3_count_13 : decode cX3_count 13 = .ok (.dup, 1) := by decide +kernel
theorem dX3_count_14 : decode cX3_count 14 = .ok (.ldc 124, 2) := by decide +kernel
theorem dX3_count_16 : decode cX3_count 16 = .ok (.invokespecial 59, 3) := by decide +kernel
theorem dX3_count_19 : decode cX3_count 19 = .ok (.athrow, 1) := by decide +kernel
theorem dX3_count_20 : decode cX3_count 20 = .ok (.aload_n 0, 1) := by decide +kernel
theorem dX3_count_21 : decode cX3_count 21 = .ok (.getfield 10, 3) := by decide +kernel
theorem dX3_count_24 : decode cX3_count 24 = .ok (.iload_n 1, 1) := by decide +kernel
theorem dX3_count_25 : decode cX3_count 25 = .ok (.invokevirtual 126, 3) := by decide +kernel
theorem dX3_count_28 : decode cX3_count 28 = .ok (.ireturn, 1) := by decide +kernel
set_option maxRecDepth 20000 in
theorem ggX3_reach_X1_isDoor : GoodIn wsX3_reach wsX1_isDoor := goodIn_r _ [8, 9, 24, 25, 26, 27, 28] (by decide +kernel) (by decide +kernel)
set_option maxRecDepth 20000 in
theorem gX3_reach_X1_isDoor : GoodIn wsX3_reach (wsV RX3 52 RX1 yX1_isDoor wsX1_isDoor) := goodIn_app (goodIn_of _ (by decide +kernel)) ggX3_reach_X1_isDoor
set_option maxRecDepth 20000 in
theorem ggX3_reach_X1_reachedFrom : GoodIn wsX3_reach wsX1_reachedFrom := goodIn_r _ [13, 9, 14, 15, 16, 7, 17, 18, 19, 20, 21, 5, 6, 8, 24, 25, 26, 27, 28, 29, 30, 31, 32, 33, 34, 35, 36, 37, 38, 39, 40, 41, 42] (by decide +kernel) (by decide +kernel)
set_option maxRecDepth 20000 in
theorem gX3_reach_X1_reachedFrom : GoodIn wsX3_reach (wsV RX3 127 RX1 yX1_reachedFrom wsX1_reachedFrom) := goodIn_app (goodIn_of _ (by decide +kernel)) ggX3_reach_X1_reachedFrom
theorem dX3_reach_0 : decode cX3_reach 0 = .ok (.aload_n 0, 1) := by decide +kernel
theorem dX3_reach_1 : decode cX3_reach 1 = .ok (.getfield 10, 3) := by decide +kernel
theorem dX3_reach_4 : decode cX3_reach 4 = .ok (.iload_n 1, 1) := by decide +kernel
theorem dX3_reach_5 : decode cX3_reach 5 = .ok (.invokevirtual 52, 3) := by decide +kernel
theorem dX3_reach_8 : decode cX3_reach 8 = .ok (.ifCond .ne 13, 3) := by decide +kernel
theorem dX3_reach_11 : decode cX3_reach 11 = .ok (.new 55, 3) := by decide +kernel
theorem dX3_reach_14 : decode cX3_reach 14 = .ok (.dup, 1) := by decide +kernel
theorem dX3_reach_15 : decode cX3_reach 15 = .ok (.ldc 57, 2) := by decide +kernel
theorem dX3_reach_17 : decode cX3_reach 17 = .ok (.invokespecial 59, 3) := by decide +kernel
theorem dX3_reach_20 : decode cX3_reach 20 = .ok (.athrow, 1) := by decide +kernel
theorem dX3_reach_21 : decode cX3_reach 21 = .ok (.aload_n 0, 1) := by decide +kernel
theorem dX3_reach_22 : decode cX3_reach 22 = .ok (.getfield 10, 3) := by decide +kernel
theorem dX3_reach_25 : decode cX3_reach 25 = .ok (.iload_n 1, 1) := by decide +kernel
theorem dX3_reach_26 : decode cX3_reach 26 = .ok (.invokevirtual 127, 3) := by decide +kernel
theorem dX3_reach_29 : decode cX3_reach 29 = .ok (.ireturn, 1) := by decide +kernel
set_option maxRecDepth 20000 in
theorem ggX3_pass_X3_isIn : GoodIn wsX3_pass wsX3_isIn := goodIn_r _ [7] (by decide +kernel) (by decide +kernel)
set_option maxRecDepth 20000 in
theorem gX3_pass_X3_isIn : GoodIn wsX3_pass (va_wsS RX3 19 yX3_isIn wsX3_isIn) := goodIn_app (goodIn_of _ (by decide +kernel)) ggX3_pass_X3_isIn
set_option maxRecDepth 20000 in
theorem ggX3_pass_X1_tickOn : GoodIn wsX3_pass wsX1_tickOn := goodIn_r _ [12, 13, 14, 15, 16, 17, 18, 19, 20, 21, 22, 23, 24, 25, 26, 27, 28, 29, 30, 31, 32, 33, 34, 35, 36, 37, 38, 39, 40, 41, 42, 43, 44, 45, 46, 47, 48, 49, 50, 51, 52, 53, 11, 54, 55, 56, 57, 58, 59, 60, 61, 62, 63, 64, 65, 66, 67, 68, 69, 70, 71, 72, 73, 74, 75, 76, 77, 78, 79, 80, 81, 82, 83, 84, 85, 86, 87, 88, 89, 90, 91, 92, 93, 94, 95, 96, 97, 98, 99, 100, 101, 102, 103, 104, 105, 106, 107, 108, 109, 110, 111, 112, 113, 114, 115, 116, 117, 118, 119, 120, 121, 122, 123, 124, 125, 126, 127, 128, 131, 132, 133, 134, 135, 136, 137, 138, 139, 140, 141, 142, 143, 144, 145, 146, 147, 148, 149, 150, 151, 152, 153, 154, 155, 156] (by decide +kernel) (by decide +kernel)
set_option maxRecDepth 20000 in
theorem gX3_pass_X1_tickOn : GoodIn wsX3_pass (wsV RX3 132 RX1 yX1_tickOn wsX1_tickOn) := goodIn_app (goodIn_of _ (by decide +kernel)) ggX3_pass_X1_tickOn
theorem dX3_pass_0 : decode cX3_pass 0 = .ok (.iload_n 1, 1) := by decide +kernel
theorem dX3_pass_1 : decode cX3_pass 1 = .ok (.iconst 1, 1) := by decide +kernel
theorem dX3_pass_2 : decode cX3_pass 2 = .ok (.sipush 200, 3) := by decide +kernel
theorem dX3_pass_5 : decode cX3_pass 5 = .ok (.invokestatic 19, 3) := by decide +kernel
theorem dX3_pass_8 : decode cX3_pass 8 = .ok (.ifCond .ne 13, 3) := by decide +kernel
theorem dX3_pass_11 : decode cX3_pass 11 = .ok (.new 23, 3) := by decide +kernel
theorem dX3_pass_14 : decode cX3_pass 14 = .ok (.dup, 1) := by decide +kernel
theorem dX3_pass_15 : decode cX3_pass 15 = .ok (.ldc 130, 2) := by decide +kernel
theorem dX3_pass_17 : decode cX3_pass 17 = .ok (.invokespecial 27, 3) := by decide +kernel
theorem dX3_pass_20 : decode cX3_pass 20 = .ok (.athrow, 1) := by decide +kernel
theorem dX3_pass_21 : decode cX3_pass 21 = .ok (.iconst 0, 1) := by decide +kernel
theorem dX3_pass_22 : decode cX3_pass 22 = .ok (.istore_n 2, 1) := by decide +kernel
theorem dX3_pass_23 : decode cX3_pass 23 = .ok (.iconst 0, 1) := by decide +kernel
theorem dX3_pass_24 : decode cX3_pass 24 = .ok (.istore_n 3, 1) := by decide +kernel
theorem dX3_pass_25 : decode cX3_pass 25 = .ok (.iload_n 3, 1) := by decide +kernel
theorem dX3_pass_26 : decode cX3_pass 26 = .ok (.iload_n 1, 1) := by decide +kernel
theorem dX3_pass_27 : decode cX3_pass 27 = .ok (.if_icmp .ge 19, 3) := by decide +kernel
theorem dX3_pass_30 : decode cX3_pass 30 = .ok (.iload_n 2, 1) := by decide +kernel
theorem dX3_pass_31 : decode cX3_pass 31 = .ok (.aload_n 0, 1) := by decide +kernel
theorem dX3_pass_32 : decode cX3_pass 32 = .ok (.getfield 10, 3) := by decide +kernel
theorem dX3_pass_35 : decode cX3_pass 35 = .ok (.invokevirtual 132, 3) := by decide +kernel
theorem dX3_pass_38 : decode cX3_pass 38 = .ok (.iadd, 1) := by decide +kernel
theorem dX3_pass_39 : decode cX3_pass 39 = .ok (.istore_n 2, 1) := by decide +kernel
theorem dX3_pass_40 : decode cX3_pass 40 = .ok (.iinc 3 1, 3) := by decide +kernel
theorem dX3_pass_43 : decode cX3_pass 43 = .ok (.goto (-18), 3) := by decide +kernel
theorem dX3_pass_46 : decode cX3_pass 46 = .ok (.iload_n 2, 1) := by decide +kernel
theorem dX3_pass_47 : decode cX3_pass 47 = .ok (.ireturn, 1) := by decide +kernel
set_option maxRecDepth 20000 in
theorem ggX3_opens_X1_isDoor : GoodIn wsX3_opens wsX1_isDoor := goodIn_r _ [11, 12, 150, 151, 152, 153, 154] (by decide +kernel) (by decide +kernel)
set_option maxRecDepth 20000 in
theorem gX3_opens_X1_isDoor : GoodIn wsX3_opens (wsV RX3 52 RX1 yX1_isDoor wsX1_isDoor) := goodIn_app (goodIn_of _ (by decide +kernel)) ggX3_opens_X1_isDoor
set_option maxRecDepth 20000 in
theorem ggX3_opens_X1_copyFrom : GoodIn wsX3_opens wsX1_copyFrom := goodIn_r _ [16, 17, 12, 18, 19, 20, 21, 22, 23, 24, 25, 26, 27, 28, 29, 30, 31, 32, 33, 34, 35, 36, 37, 38, 39, 40, 41, 42, 43, 44, 45, 46, 47, 48, 49, 50, 51, 52, 53, 54, 55, 150, 151, 152, 153, 154, 155, 156, 157, 158, 159, 160, 161, 162, 163, 164, 165, 166, 167, 168, 169, 170, 171, 172, 173, 174, 175] (by decide +kernel) (by decide +kernel)
set_option maxRecDepth 20000 in
theorem gX3_opens_X1_copyFrom : GoodIn wsX3_opens (wsV RX3 136 RX1 yX1_copyFrom wsX1_copyFrom) := goodIn_app (goodIn_of _ (by decide +kernel)) ggX3_opens_X1_copyFrom
set_option maxRecDepth 20000 in
theorem ggX3_opens_X1_tickOn : GoodIn wsX3_opens wsX1_tickOn := goodIn_r _ [59, 12, 18, 19, 60, 61, 62, 63, 64, 65, 66, 17, 67, 68, 69, 23, 70, 28, 29, 71, 72, 73, 46, 74, 48, 54, 50, 52, 53, 55, 75, 76, 77, 78, 49, 79, 80, 81, 82, 83, 84, 85, 10, 86, 87, 8, 9, 11, 88, 89, 90, 91, 39, 92, 93, 94, 95, 32, 33, 96, 97, 98, 99, 100, 101, 102, 103, 104, 105, 106, 107, 26, 108, 109, 110, 111, 40, 41, 42, 112, 113, 114, 115, 116, 117, 118, 119, 120, 121, 122, 123, 124, 125, 126, 127, 128, 129, 130, 131, 132, 133, 134, 135, 27, 136, 137, 138, 139, 30, 140, 141, 142, 143, 31, 144, 145, 146, 147, 150, 151, 152, 153, 154, 169, 170, 171, 172, 173, 174, 175, 155, 156, 157, 158, 159, 160, 161, 162, 163, 164, 165, 166, 167, 168] (by decide +kernel) (by decide +kernel)
set_option maxRecDepth 20000 in
theorem gX3_opens_X1_tickOn : GoodIn wsX3_opens (wsV RX3 132 RX1 yX1_tickOn wsX1_tickOn) := goodIn_app (goodIn_of _ (by decide +kernel)) ggX3_opens_X1_tickOn
theorem dX3_opens_0 : decode cX3_opens 0 = .ok (.aload_n 0, 1) := by decide +kernel
theorem dX3_opens_1 : decode cX3_opens 1 = .ok (.getfield 10, 3) := by decide +kernel
theorem dX3_opens_4 : decode cX3_opens 4 = .ok (.iload_n 1, 1) := by decide +kernel
theorem dX3_opens_5 : decode cX3_opens 5 = .ok (.invokevirtual 52, 3) := by decide +kernel
theorem dX3_opens_8 : decode cX3_opens 8 = .ok (.ifCond .ne 13, 3) := by decide +kernel
theorem dX3_opens_11 : decode cX3_opens 11 = .ok (.new 55, 3) := by decide +kernel
theorem dX3_opens_14 : decode cX3_opens 14 = .ok (.dup, 1) := by decide +kernel
theorem dX3_opens_15 : decode cX3_opens 15 = .ok (.ldc 57, 2) := by decide +kernel
theorem dX3_opens_17 : decode cX3_opens 17 = .ok (.invokespecial 59, 3) := by decide +kernel
theorem dX3_opens_20 : decode cX3_opens 20 = .ok (.athrow, 1) := by decide +kernel
theorem dX3_opens_21 : decode cX3_opens 21 = .ok (.aload_n 0, 1) := by decide +kernel
theorem dX3_opens_22 : decode cX3_opens 22 = .ok (.getfield 10, 3) := by decide +kernel
theorem dX3_opens_25 : decode cX3_opens 25 = .ok (.getfield 62, 3) := by decide +kernel
theorem dX3_opens_28 : decode cX3_opens 28 = .ok (.iload_n 1, 1) := by decide +kernel
theorem dX3_opens_29 : decode cX3_opens 29 = .ok (.aaload, 1) := by decide +kernel
theorem dX3_opens_30 : decode cX3_opens 30 = .ok (.getfield 66, 3) := by decide +kernel
theorem dX3_opens_33 : decode cX3_opens 33 = .ok (.iconst 2, 1) := by decide +kernel
theorem dX3_opens_34 : decode cX3_opens 34 = .ok (.if_icmp .ne 5, 3) := by decide +kernel
theorem dX3_opens_37 : decode cX3_opens 37 = .ok (.iconst 0, 1) := by decide +kernel
theorem dX3_opens_38 : decode cX3_opens 38 = .ok (.ireturn, 1) := by decide +kernel
theorem dX3_opens_39 : decode cX3_opens 39 = .ok (.aload_n 0, 1) := by decide +kernel
theorem dX3_opens_40 : decode cX3_opens 40 = .ok (.getfield 16, 3) := by decide +kernel
theorem dX3_opens_43 : decode cX3_opens 43 = .ok (.aload_n 0, 1) := by decide +kernel
theorem dX3_opens_44 : decode cX3_opens 44 = .ok (.getfield 10, 3) := by decide +kernel
theorem dX3_opens_47 : decode cX3_opens 47 = .ok (.invokevirtual 136, 3) := by decide +kernel
theorem dX3_opens_50 : decode cX3_opens 50 = .ok (.iconst 1, 1) := by decide +kernel
theorem dX3_opens_51 : decode cX3_opens 51 = .ok (.istore_n 2, 1) := by decide +kernel
theorem dX3_opens_52 : decode cX3_opens 52 = .ok (.iload_n 2, 1) := by decide +kernel
theorem dX3_opens_53 : decode cX3_opens 53 = .ok (.bipush 100, 2) := by decide +kernel
theorem dX3_opens_55 : decode cX3_opens 55 = .ok (.if_icmp .gt 35, 3) := by decide +kernel
theorem dX3_opens_58 : decode cX3_opens 58 = .ok (.aload_n 0, 1) := by decide +kernel
theorem dX3_opens_59 : decode cX3_opens 59 = .ok (.getfield 16, 3) := by decide +kernel
theorem dX3_opens_62 : decode cX3_opens 62 = .ok (.invokevirtual 132, 3) := by decide +kernel
theorem dX3_opens_65 : decode cX3_opens 65 = .ok (.pop, 1) := by decide +kernel
theorem dX3_opens_66 : decode cX3_opens 66 = .ok (.aload_n 0, 1) := by decide +kernel
theorem dX3_opens_67 : decode cX3_opens 67 = .ok (.getfield 16, 3) := by decide +kernel
theorem dX3_opens_70 : decode cX3_opens 70 = .ok (.getfield 62, 3) := by decide +kernel
theorem dX3_opens_73 : decode cX3_opens 73 = .ok (.iload_n 1, 1) := by decide +kernel
theorem dX3_opens_74 : decode cX3_opens 74 = .ok (.aaload, 1) := by decide +kernel
theorem dX3_opens_75 : decode cX3_opens 75 = .ok (.getfield 66, 3) := by decide +kernel
theorem dX3_opens_78 : decode cX3_opens 78 = .ok (.iconst 2, 1) := by decide +kernel
theorem dX3_opens_79 : decode cX3_opens 79 = .ok (.if_icmp .ne 5, 3) := by decide +kernel
theorem dX3_opens_82 : decode cX3_opens 82 = .ok (.iload_n 2, 1) := by decide +kernel
theorem dX3_opens_83 : decode cX3_opens 83 = .ok (.ireturn, 1) := by decide +kernel
theorem dX3_opens_84 : decode cX3_opens 84 = .ok (.iinc 2 1, 3) := by decide +kernel
theorem dX3_opens_87 : decode cX3_opens 87 = .ok (.goto (-35), 3) := by decide +kernel
theorem dX3_opens_90 : decode cX3_opens 90 = .ok (.iconst (-1), 1) := by decide +kernel
theorem dX3_opens_91 : decode cX3_opens 91 = .ok (.ireturn, 1) := by decide +kernel
set_option maxRecDepth 20000 in
theorem ggX3_would_X1_isDoor : GoodIn wsX3_would wsX1_isDoor := goodIn_r _ [10, 11, 170, 171, 172, 173, 174] (by decide +kernel) (by decide +kernel)
set_option maxRecDepth 20000 in
theorem gX3_would_X1_isDoor : GoodIn wsX3_would (wsV RX3 52 RX1 yX1_isDoor wsX1_isDoor) := goodIn_app (goodIn_of _ (by decide +kernel)) ggX3_would_X1_isDoor
set_option maxRecDepth 20000 in
theorem ggX3_would_X3_isIn : GoodIn wsX3_would wsX3_isIn := goodIn_r _ [15] (by decide +kernel) (by decide +kernel)
set_option maxRecDepth 20000 in
theorem gX3_would_X3_isIn : GoodIn wsX3_would (va_wsS RX3 19 yX3_isIn wsX3_isIn) := goodIn_app (goodIn_of _ (by decide +kernel)) ggX3_would_X3_isIn
set_option maxRecDepth 20000 in
theorem ggX3_would_X3_openedByWhisper : GoodIn wsX3_would wsX3_openedByWhisper := goodIn_r _ [19, 20, 5, 21, 22, 23, 24, 25, 9, 26, 27, 11, 28, 29, 30, 31, 32, 33, 34, 35, 36, 37, 38, 39, 40, 41, 42, 43, 44, 45, 46, 47, 48, 49, 50, 51, 52, 53, 54, 55, 56, 57, 58, 59, 60, 61, 62, 63, 64, 65, 66, 67, 68, 69, 70, 71, 72, 7, 8, 10, 73, 74, 75, 76, 77, 78, 79, 80, 81, 82, 83, 84, 85, 86, 87, 88, 89, 90, 91, 92, 93, 94, 95, 96, 97, 98, 99, 100, 101, 102, 103, 104, 105, 106, 107, 108, 109, 110, 111, 112, 113, 114, 115, 116, 117, 118, 119, 120, 121, 122, 123, 124, 125, 126, 127, 128, 129, 130, 131, 132, 133, 134, 135, 136, 137, 138, 139, 140, 141, 142, 143, 144, 145, 146, 147, 148, 149, 150, 151, 152, 153, 154, 155, 156, 157, 158, 159, 160, 161, 162, 163, 164, 165, 166, 167, 168, 169, 170, 171, 172, 173, 174, 175, 176, 177, 178, 179, 180, 181, 182, 183, 184, 185, 186, 187, 188, 189, 190, 191, 192, 193, 194, 195] (by decide +kernel) (by decide +kernel)
set_option maxRecDepth 20000 in
theorem gX3_would_X3_openedByWhisper : GoodIn wsX3_would (wsV RX3 142 RX3 yX3_openedByWhisper wsX3_openedByWhisper) := goodIn_app (goodIn_of _ (by decide +kernel)) ggX3_would_X3_openedByWhisper
theorem dX3_would_0 : decode cX3_would 0 = .ok (.aload_n 0, 1) := by decide +kernel
theorem dX3_would_1 : decode cX3_would 1 = .ok (.getfield 10, 3) := by decide +kernel
theorem dX3_would_4 : decode cX3_would 4 = .ok (.iload_n 1, 1) := by decide +kernel
theorem dX3_would_5 : decode cX3_would 5 = .ok (.invokevirtual 52, 3) := by decide +kernel
theorem dX3_would_8 : decode cX3_would 8 = .ok (.ifCond .ne 13, 3) := by decide +kernel
theorem dX3_would_11 : decode cX3_would 11 = .ok (.new 55, 3) := by decide +kernel
theorem dX3_would_14 : decode cX3_would 14 = .ok (.dup, 1) := by decide +kernel
theorem dX3_would_15 : decode cX3_would 15 = .ok (.ldc 57, 2) := by decide +kernel
theorem dX3_would_17 : decode cX3_would 17 = .ok (.invokespecial 59, 3) := by decide +kernel
theorem dX3_would_20 : decode cX3_would 20 = .ok (.athrow, 1) := by decide +kernel
theorem dX3_would_21 : decode cX3_would 21 = .ok (.iload_n 2, 1) := by decide +kernel
theorem dX3_would_22 : decode cX3_would 22 = .ok (.iconst 1, 1) := by decide +kernel
theorem dX3_would_23 : decode cX3_would 23 = .ok (.bipush 100, 2) := by decide +kernel
theorem dX3_would_25 : decode cX3_would 25 = .ok (.invokestatic 19, 3) := by decide +kernel
theorem dX3_would_28 : decode cX3_would 28 = .ok (.ifCond .ne 13, 3) := by decide +kernel
theorem dX3_would_31 : decode cX3_would 31 = .ok (.new 23, 3) := by decide +kernel
theorem dX3_would_34 : decode cX3_would 34 = .ok (.dup, 1) := by decide +kernel
theorem dX3_would_35 : decode cX3_would 35 = .ok (.ldc 140, 2) := by decide +kernel
theorem dX3_would_37 : decode cX3_would 37 = .ok (.invokespecial 27, 3) := by decide +kernel
theorem dX3_would_40 : decode cX3_would 40 = .ok (.athrow, 1) := by decide +kernel
theorem dX3_would_41 : decode cX3_would 41 = .ok (.aload_n 0, 1) := by decide +kernel
theorem dX3_would_42 : decode cX3_would 42 = .ok (.iload_n 1, 1) := by decide +kernel
theorem dX3_would_43 : decode cX3_would 43 = .ok (.iload_n 2, 1) := by decide +kernel
theorem dX3_would_44 : decode cX3_would 44 = .ok (.invokevirtual 142, 3) := by decide +kernel
theorem dX3_would_47 : decode cX3_would 47 = .ok (.ireturn, 1) := by decide +kernel
set_option maxRecDepth 20000 in
theorem ggX3_best_X3_isIn : GoodIn wsX3_best wsX3_isIn := goodIn_r _ [8] (by decide +kernel) (by decide +kernel)
set_option maxRecDepth 20000 in
theorem gX3_best_X3_isIn : GoodIn wsX3_best (va_wsS RX3 19 yX3_isIn wsX3_isIn) := goodIn_app (goodIn_of _ (by decide +kernel)) ggX3_best_X3_isIn
set_option maxRecDepth 20000 in
theorem ggX3_best_X3_openedByWhisper : GoodIn wsX3_best wsX3_openedByWhisper := goodIn_r _ [12, 13, 3, 14, 15, 16, 17, 18, 19, 20, 21, 22, 23, 24, 25, 26, 27, 28, 29, 30, 31, 32, 33, 34, 35, 36, 37, 38, 39, 40, 41, 42, 43, 44, 45, 46, 47, 48, 49, 50, 51, 52, 53, 54, 55, 56, 57, 58, 59, 60, 61, 62, 63, 64, 65, 66, 67, 68, 69, 70, 71, 72, 73, 74, 75, 76, 77, 78, 79, 80, 81, 82, 83, 84, 85, 86, 87, 88, 89, 90, 91, 92, 93, 94, 95, 96, 97, 98, 99, 100, 101, 102, 103, 104, 105, 106, 107, 108, 109, 110, 111, 112, 113, 114, 115, 116, 117, 118, 119, 120, 121, 122, 123, 124, 125, 126, 127, 128, 129, 130, 131, 132, 133, 134, 135, 136, 137, 138, 139, 140, 141, 142, 143, 144, 145, 146, 147, 148, 149, 150, 151, 152, 153, 154, 155, 156, 157, 158, 159, 160, 161, 162, 163, 164, 165, 173, 174, 175, 176, 177, 178, 179, 180, 181, 182, 183, 184, 185, 186, 187, 188, 189, 190, 191, 192, 193, 194, 195, 196, 197, 198, 199, 200] (by decide +kernel) (by decide +kernel)
set_option maxRecDepth 20000 in
theorem gX3_best_X3_openedByWhisper : GoodIn wsX3_best (wsV RX3 142 RX3 yX3_openedByWhisper wsX3_openedByWhisper) := goodIn_app (goodIn_of _ (by decide +kernel)) ggX3_best_X3_openedByWhisper
set_option maxRecDepth 20000 in
theorem ggX3_best_J6_bitCount_0f7a4 : GoodIn wsX3_best wsJ6_bitCount_0f7a4 := goodIn_r _ [169, 170, 171, 172] (by decide +kernel) (by decide +kernel)
set_option maxRecDepth 20000 in
theorem gX3_best_J6_bitCount_0f7a4 : GoodIn wsX3_best (va_wsS RX3 147 yJ6_bitCount_0f7a4 wsJ6_bitCount_0f7a4) := goodIn_app (goodIn_of _ (by decide +kernel)) ggX3_best_J6_bitCount_0f7a4
theorem dX3_best_0 : decode cX3_best 0 = .ok (.iload_n 1, 1) := by decide +kernel
theorem dX3_best_1 : decode cX3_best 1 = .ok (.iconst 1, 1) := by decide +kernel
theorem dX3_best_2 : decode cX3_best 2 = .ok (.bipush 30, 2) := by decide +kernel
theorem dX3_best_4 : decode cX3_best 4 = .ok (.invokestatic 19, 3) := by decide +kernel
theorem dX3_best_7 : decode cX3_best 7 = .ok (.ifCond .ne 13, 3) := by decide +kernel
theorem dX3_best_10 : decode cX3_best 10 = .ok (.new 23, 3) := by decide +kernel
theorem dX3_best_13 : decode cX3_best 13 = .ok (.dup, 1) := by decide +kernel
theorem dX3_best_14 : decode cX3_best 14 = .ok (.ldc 145, 2) := by decide +kernel
theorem dX3_best_16 : decode cX3_best 16 = .ok (.invokespecial 27, 3) := by decide +kernel
theorem dX3_best_19 : decode cX3_best 19 = .ok (.athrow, 1) := by decide +kernel
theorem dX3_best_20 : decode cX3_best 20 = .ok (.iconst (-1), 1) := by decide +kernel
theorem dX3_best_21 : decode cX3_best 21 = .ok (.istore_n 2, 1) := by decide +kernel
theorem dX3_best_22 : decode cX3_best 22 = .ok (.iconst (-1), 1) := by decide +kernel
theorem dX3_best_23 : decode cX3_best 23 = .ok (.istore_n 3, 1) := by decide +kernel
theorem dX3_best_24 : decode cX3_best 24 = .ok (.iconst 0, 1) := by decide +kernel
theorem dX3_best_25 : decode cX3_best 25 = .ok (.istore 4, 2) := by decide +kernel
theorem dX3_best_27 : decode cX3_best 27 = .ok (.iload 4, 2) := by decide +kernel
theorem dX3_best_29 : decode cX3_best 29 = .ok (.aload_n 0, 1) := by decide +kernel
theorem dX3_best_30 : decode cX3_best 30 = .ok (.getfield 10, 3) := by decide +kernel
theorem dX3_best_33 : decode cX3_best 33 = .ok (.getfield 39, 3) := by decide +kernel
theorem dX3_best_36 : decode cX3_best 36 = .ok (.if_icmp .ge 33, 3) := by decide +kernel
theorem dX3_best_39 : decode cX3_best 39 = .ok (.aload_n 0, 1) := by decide +kernel
theorem dX3_best_40 : decode cX3_best 40 = .ok (.iload 4, 2) := by decide +kernel
theorem dX3_best_42 : decode cX3_best 42 = .ok (.iload_n 1, 1) := by decide +kernel
theorem dX3_best_43 : decode cX3_best 43 = .ok (.invokevirtual 142, 3) := by decide +kernel
theorem dX3_best_46 : decode cX3_best 46 = .ok (.invokestatic 147, 3) := by decide +kernel
theorem dX3_best_49 : decode cX3_best 49 = .ok (.istore 5, 2) := by decide +kernel
theorem dX3_best_51 : decode cX3_best 51 = .ok (.iload 5, 2) := by decide +kernel
theorem dX3_best_53 : decode cX3_best 53 = .ok (.iload_n 3, 1) := by decide +kernel
theorem dX3_best_54 : decode cX3_best 54 = .ok (.if_icmp .le 9, 3) := by decide +kernel
theorem dX3_best_57 : decode cX3_best 57 = .ok (.iload 5, 2) := by decide +kernel
theorem dX3_best_59 : decode cX3_best 59 = .ok (.istore_n 3, 1) := by decide +kernel
theorem dX3_best_60 : decode cX3_best 60 = .ok (.iload 4, 2) := by decide +kernel
theorem dX3_best_62 : decode cX3_best 62 = .ok (.istore_n 2, 1) := by decide +kernel
theorem dX3_best_63 : decode cX3_best 63 = .ok (.iinc 4 1, 3) := by decide +kernel
theorem dX3_best_66 : decode cX3_best 66 = .ok (.goto (-39), 3) := by decide +kernel
theorem dX3_best_69 : decode cX3_best 69 = .ok (.iload_n 2, 1) := by decide +kernel
theorem dX3_best_70 : decode cX3_best 70 = .ok (.ireturn, 1) := by decide +kernel
theorem dX3_mean_0 : decode cX3_mean 0 = .ok (.iconst 0, 1) := by decide +kernel
theorem dX3_mean_1 : decode cX3_mean 1 = .ok (.istore_n 1, 1) := by decide +kernel
theorem dX3_mean_2 : decode cX3_mean 2 = .ok (.iconst 0, 1) := by decide +kernel
theorem dX3_mean_3 : decode cX3_mean 3 = .ok (.istore_n 2, 1) := by decide +kernel
theorem dX3_mean_4 : decode cX3_mean 4 = .ok (.iconst 0, 1) := by decide +kernel
theorem dX3_mean_5 : decode cX3_mean 5 = .ok (.istore_n 3, 1) := by decide +kernel
theorem dX3_mean_6 : decode cX3_mean 6 = .ok (.iload_n 3, 1) := by decide +kernel
theorem dX3_mean_7 : decode cX3_mean 7 = .ok (.aload_n 0, 1) := by decide +kernel
theorem dX3_mean_8 : decode cX3_mean 8 = .ok (.getfield 10, 3) := by decide +kernel
theorem dX3_mean_11 : decode cX3_mean 11 = .ok (.getfield 39, 3) := by decide +kernel
theorem dX3_mean_14 : decode cX3_mean 14 = .ok (.if_icmp .ge 39, 3) := by decide +kernel
theorem dX3_mean_17 : decode cX3_mean 17 = .ok (.iload_n 1, 1) := by decide +kernel
theorem dX3_mean_18 : decode cX3_mean 18 = .ok (.aload_n 0, 1) := by decide +kernel
theorem dX3_mean_19 : decode cX3_mean 19 = .ok (.getfield 10, 3) := by decide +kernel
theorem dX3_mean_22 : decode cX3_mean 22 = .ok (.getfield 62, 3) := by decide +kernel
theorem dX3_mean_25 : decode cX3_mean 25 = .ok (.iload_n 3, 1) := by decide +kernel
theorem dX3_mean_26 : decode cX3_mean 26 = .ok (.aaload, 1) := by decide +kernel
theorem dX3_mean_27 : decode cX3_mean 27 = .ok (.getfield 152, 3) := by decide +kernel
theorem dX3_mean_30 : decode cX3_mean 30 = .ok (.iadd, 1) := by decide +kernel
theorem dX3_mean_31 : decode cX3_mean 31 = .ok (.istore_n 1, 1) := by decide +kernel
theorem dX3_mean_32 : decode cX3_mean 32 = .ok (.iload_n 2, 1) := by decide +kernel
theorem dX3_mean_33 : decode cX3_mean 33 = .ok (.aload_n 0, 1) := by decide +kernel
theorem dX3_mean_34 : decode cX3_mean 34 = .ok (.getfield 10, 3) := by decide +kernel
theorem dX3_mean_37 : decode cX3_mean 37 = .ok (.getfield 62, 3) := by decide +kernel
theorem dX3_mean_40 : decode cX3_mean 40 = .ok (.iload_n 3, 1) := by decide +kernel
theorem dX3_mean_41 : decode cX3_mean 41 = .ok (.aaload, 1) := by decide +kernel
theorem dX3_mean_42 : decode cX3_mean 42 = .ok (.getfield 155, 3) := by decide +kernel
theorem dX3_mean_45 : decode cX3_mean 45 = .ok (.iadd, 1) := by decide +kernel
theorem dX3_mean_46 : decode cX3_mean 46 = .ok (.istore_n 2, 1) := by decide +kernel
theorem dX3_mean_47 : decode cX3_mean 47 = .ok (.iinc 3 1, 3) := by decide +kernel
theorem dX3_mean_50 : decode cX3_mean 50 = .ok (.goto (-44), 3) := by decide +kernel
theorem dX3_mean_53 : decode cX3_mean 53 = .ok (.iload_n 1, 1) := by decide +kernel
theorem dX3_mean_54 : decode cX3_mean 54 = .ok (.iload_n 2, 1) := by decide +kernel
theorem dX3_mean_55 : decode cX3_mean 55 = .ok (.iadd, 1) := by decide +kernel
theorem dX3_mean_56 : decode cX3_mean 56 = .ok (.istore_n 3, 1) := by decide +kernel
theorem dX3_mean_57 : decode cX3_mean 57 = .ok (.iload_n 3, 1) := by decide +kernel
theorem dX3_mean_58 : decode cX3_mean 58 = .ok (.ifCond .le 11, 3) := by decide +kernel
theorem dX3_mean_61 : decode cX3_mean 61 = .ok (.iload_n 1, 1) := by decide +kernel
theorem dX3_mean_62 : decode cX3_mean 62 = .ok (.i2d, 1) := by decide +kernel
theorem dX3_mean_63 : decode cX3_mean 63 = .ok (.iload_n 3, 1) := by decide +kernel
theorem dX3_mean_64 : decode cX3_mean 64 = .ok (.i2d, 1) := by decide +kernel
theorem dX3_mean_65 : decode cX3_mean 65 = .ok (.ddiv, 1) := by decide +kernel
theorem dX3_mean_66 : decode cX3_mean 66 = .ok (.goto 4, 3) := by decide +kernel
theorem dX3_mean_69 : decode cX3_mean 69 = .ok (.dconst 0, 1) := by decide +kernel
theorem dX3_mean_70 : decode cX3_mean 70 = .ok (.dreturn, 1) := by decide +kernel
set_option maxRecDepth 20000 in
theorem ggX3_digest_X1_fact : GoodIn wsX3_digest wsX1_fact := goodIn_r _ [12, 13, 14, 15, 16, 17, 18, 19, 20, 11, 21, 22, 23, 24, 25, 26, 27, 70, 71, 72, 73, 74, 75, 76, 77, 78, 79, 80, 81, 82, 83, 84, 85, 86, 87, 88, 89, 90, 91, 92, 93, 94, 95] (by decide +kernel) (by decide +kernel)
set_option maxRecDepth 20000 in
theorem gX3_digest_X1_fact : GoodIn wsX3_digest (wsV RX3 126 RX1 yX1_fact wsX1_fact) := goodIn_app (goodIn_of _ (by decide +kernel)) ggX3_digest_X1_fact
set_option maxRecDepth 20000 in
theorem ggX3_digest_X3_digestOfDoor : GoodIn wsX3_digest wsX3_digestOfDoor := goodIn_r _ [31, 2, 32, 33, 34, 35, 36, 37, 38, 39, 40, 41, 42, 43, 44, 45, 46, 47, 48, 49, 50, 51, 52, 53, 54, 55, 56, 30, 57, 82, 83, 84, 85, 86, 87, 88, 89, 90, 91, 92, 93, 94, 95] (by decide +kernel) (by decide +kernel)
set_option maxRecDepth 20000 in
theorem gX3_digest_X3_digestOfDoor : GoodIn wsX3_digest (va_wsS RX3 162 yX3_digestOfDoor wsX3_digestOfDoor) := goodIn_app (goodIn_of _ (by decide +kernel)) ggX3_digest_X3_digestOfDoor
set_option maxRecDepth 20000 in
theorem ggX3_digest_X2_fact : GoodIn wsX3_digest wsX2_fact := goodIn_r _ [62, 63, 64, 65, 66, 67, 56, 30, 57, 75, 76, 77, 78, 79, 80, 81] (by decide +kernel) (by decide +kernel)
set_option maxRecDepth 20000 in
theorem gX3_digest_X2_fact : GoodIn wsX3_digest (wsV RX3 122 RX2 yX2_fact wsX2_fact) := goodIn_app (goodIn_of _ (by decide +kernel)) ggX3_digest_X2_fact
theorem dX3_digest_0 : decode cX3_digest 0 = .ok (.ldc2_w 158, 3) := by decide +kernel
theorem dX3_digest_3 : decode cX3_digest 3 = .ok (.lstore_n 1, 1) := by decide +kernel
theorem dX3_digest_4 : decode cX3_digest 4 = .ok (.iconst 0, 1) := by decide +kernel
theorem dX3_digest_5 : decode cX3_digest 5 = .ok (.istore_n 3, 1) := by decide +kernel
theorem dX3_digest_6 : decode cX3_digest 6 = .ok (.iload_n 3, 1) := by decide +kernel
theorem dX3_digest_7 : decode cX3_digest 7 = .ok (.bipush 9, 2) := by decide +kernel
theorem dX3_digest_9 : decode cX3_digest 9 = .ok (.if_icmp .ge 25, 3) := by decide +kernel
theorem dX3_digest_12 : decode cX3_digest 12 = .ok (.lload_n 1, 1) := by decide +kernel
theorem dX3_digest_13 : decode cX3_digest 13 = .ok (.ldc2_w 160, 3) := by decide +kernel
theorem dX3_digest_16 : decode cX3_digest 16 = .ok (.lmul, 1) := by decide +kernel
theorem dX3_digest_17 : decode cX3_digest 17 = .ok (.aload_n 0, 1) := by decide +kernel
theorem dX3_digest_18 : decode cX3_digest 18 = .ok (.getfield 10, 3) := by decide +kernel
theorem dX3_digest_21 : decode cX3_digest 21 = .ok (.iload_n 3, 1) := by decide +kernel
theorem dX3_digest_22 : decode cX3_digest 22 = .ok (.invokevirtual 126, 3) := by decide +kernel
theorem dX3_digest_25 : decode cX3_digest 25 = .ok (.i2l, 1) := by decide +kernel
theorem dX3_digest_26 : decode cX3_digest 26 = .ok (.ladd, 1) := by decide +kernel
theorem dX3_digest_27 : decode cX3_digest 27 = .ok (.lstore_n 1, 1) := by decide +kernel
theorem dX3_digest_28 : decode cX3_digest 28 = .ok (.iinc 3 1, 3) := by decide +kernel
theorem dX3_digest_31 : decode cX3_digest 31 = .ok (.goto (-25), 3) := by decide +kernel
theorem dX3_digest_34 : decode cX3_digest 34 = .ok (.iconst 0, 1) := by decide +kernel
theorem dX3_digest_35 : decode cX3_digest 35 = .ok (.istore_n 3, 1) := by decide +kernel
theorem dX3_digest_36 : decode cX3_digest 36 = .ok (.iload_n 3, 1) := by decide +kernel
theorem dX3_digest_37 : decode cX3_digest 37 = .ok (.aload_n 0, 1) := by decide +kernel
theorem dX3_digest_38 : decode cX3_digest 38 = .ok (.getfield 10, 3) := by decide +kernel
theorem dX3_digest_41 : decode cX3_digest 41 = .ok (.getfield 39, 3) := by decide +kernel
theorem dX3_digest_44 : decode cX3_digest 44 = .ok (.if_icmp .ge 23, 3) := by decide +kernel
theorem dX3_digest_47 : decode cX3_digest 47 = .ok (.lload_n 1, 1) := by decide +kernel
theorem dX3_digest_48 : decode cX3_digest 48 = .ok (.aload_n 0, 1) := by decide +kernel
theorem dX3_digest_49 : decode cX3_digest 49 = .ok (.getfield 10, 3) := by decide +kernel
theorem dX3_digest_52 : decode cX3_digest 52 = .ok (.getfield 62, 3) := by decide +kernel
theorem dX3_digest_55 : decode cX3_digest 55 = .ok (.iload_n 3, 1) := by decide +kernel
theorem dX3_digest_56 : decode cX3_digest 56 = .ok (.aaload, 1) := by decide +kernel
theorem dX3_digest_57 : decode cX3_digest 57 = .ok (.invokestatic 162, 3) := by decide +kernel
theorem dX3_digest_60 : decode cX3_digest 60 = .ok (.lstore_n 1, 1) := by decide +kernel
theorem dX3_digest_61 : decode cX3_digest 61 = .ok (.iinc 3 1, 3) := by decide +kernel
theorem dX3_digest_64 : decode cX3_digest 64 = .ok (.goto (-28), 3) := by decide +kernel
theorem dX3_digest_67 : decode cX3_digest 67 = .ok (.iconst 0, 1) := by decide +kernel
theorem dX3_digest_68 : decode cX3_digest 68 = .ok (.istore_n 3, 1) := by decide +kernel
theorem dX3_digest_69 : decode cX3_digest 69 = .ok (.iload_n 3, 1) := by decide +kernel
theorem dX3_digest_70 : decode cX3_digest 70 = .ok (.aload_n 0, 1) := by decide +kernel
theorem dX3_digest_71 : decode cX3_digest 71 = .ok (.getfield 10, 3) := by decide +kernel
theorem dX3_digest_74 : decode cX3_digest 74 = .ok (.getfield 111, 3) := by decide +kernel
theorem dX3_digest_77 : decode cX3_digest 77 = .ok (.getfield 115, 3) := by decide +kernel
theorem dX3_digest_80 : decode cX3_digest 80 = .ok (.if_icmp .ge 45, 3) := by decide +kernel
theorem dX3_digest_83 : decode cX3_digest 83 = .ok (.iconst 0, 1) := by decide +kernel
theorem dX3_digest_84 : decode cX3_digest 84 = .ok (.istore 4, 2) := by decide +kernel
theorem dX3_digest_86 : decode cX3_digest 86 = .ok (.iload 4, 2) := by decide +kernel
theorem dX3_digest_88 : decode cX3_digest 88 = .ok (.iconst 4, 1) := by decide +kernel
theorem dX3_digest_89 : decode cX3_digest 89 = .ok (.if_icmp .ge 30, 3) := by decide +kernel
theorem dX3_digest_92 : decode cX3_digest 92 = .ok (.lload_n 1, 1) := by decide +kernel
theorem dX3_digest_93 : decode cX3_digest 93 = .ok (.ldc2_w 160, 3) := by decide +kernel
theorem dX3_digest_96 : decode cX3_digest 96 = .ok (.lmul, 1) := by decide +kernel
theorem dX3_digest_97 : decode cX3_digest 97 = .ok (.aload_n 0, 1) := by decide +kernel
theorem dX3_digest_98 : decode cX3_digest 98 = .ok (.getfield 10, 3) := by decide +kernel
theorem dX3_digest_101 : decode cX3_digest 101 = .ok (.getfield 111, 3) := by decide +kernel
theorem dX3_digest_104 : decode cX3_digest 104 = .ok (.iload_n 3, 1) := by decide +kernel
theorem dX3_digest_105 : decode cX3_digest 105 = .ok (.iload 4, 2) := by decide +kernel
theorem dX3_digest_107 : decode cX3_digest 107 = .ok (.invokevirtual 122, 3) := by decide +kernel
theorem dX3_digest_110 : decode cX3_digest 110 = .ok (.i2l, 1) := by decide +kernel
theorem dX3_digest_111 : decode cX3_digest 111 = .ok (.ladd, 1) := by decide +kernel
theorem dX3_digest_112 : decode cX3_digest 112 = .ok (.lstore_n 1, 1) := by decide +kernel
theorem dX3_digest_113 : decode cX3_digest 113 = .ok (.iinc 4 1, 3) := by decide +kernel
theorem dX3_digest_116 : decode cX3_digest 116 = .ok (.goto (-30), 3) := by decide +kernel
theorem dX3_digest_119 : decode cX3_digest 119 = .ok (.iinc 3 1, 3) := by decide +kernel
theorem dX3_digest_122 : decode cX3_digest 122 = .ok (.goto (-53), 3) := by decide +kernel
theorem dX3_digest_125 : decode cX3_digest 125 = .ok (.lload_n 1, 1) := by decide +kernel
theorem dX3_digest_126 : decode cX3_digest 126 = .ok (.lreturn, 1) := by decide +kernel
set_option maxRecDepth 20000 in
theorem ggX3_digestOfDoor_X0_fact : GoodIn wsX3_digestOfDoor wsX0_fact := goodIn_r _ [7, 8, 9, 10, 11, 12, 13, 14, 15, 16, 17, 6, 18, 19, 29, 30, 31, 32, 33, 34, 35, 36, 37, 38, 39, 40, 41, 42] (by decide +kernel) (by decide +kernel)
set_option maxRecDepth 20000 in
theorem gX3_digestOfDoor_X0_fact : GoodIn wsX3_digestOfDoor (wsV RX3 100 RX0 yX0_fact wsX0_fact) := goodIn_app (goodIn_of _ (by decide +kernel)) ggX3_digestOfDoor_X0_fact
set_option maxRecDepth 20000 in
theorem ggX3_digestOfDoor_X0_askedFact : GoodIn wsX3_digestOfDoor wsX0_askedFact := goodIn_r _ [23, 11, 24, 25, 19, 26, 27, 28, 29, 30, 31, 32, 33, 34, 35, 36, 37, 38, 39, 40, 41, 42] (by decide +kernel) (by decide +kernel)
set_option maxRecDepth 20000 in
theorem gX3_digestOfDoor_X0_askedFact : GoodIn wsX3_digestOfDoor (wsV RX3 107 RX0 yX0_askedFact wsX0_askedFact) := goodIn_app (goodIn_of _ (by decide +kernel)) ggX3_digestOfDoor_X0_askedFact
theorem dX3_digestOfDoor_0 : decode cX3_digestOfDoor 0 = .ok (.lload_n 0, 1) := by decide +kernel
theorem dX3_digestOfDoor_1 : decode cX3_digestOfDoor 1 = .ok (.lstore_n 3, 1) := by decide +kernel
theorem dX3_digestOfDoor_2 : decode cX3_digestOfDoor 2 = .ok (.iconst 0, 1) := by decide +kernel
theorem dX3_digestOfDoor_3 : decode cX3_digestOfDoor 3 = .ok (.istore 5, 2) := by decide +kernel
theorem dX3_digestOfDoor_5 : decode cX3_digestOfDoor 5 = .ok (.iload 5, 2) := by decide +kernel
theorem dX3_digestOfDoor_7 : decode cX3_digestOfDoor 7 = .ok (.bipush 9, 2) := by decide +kernel
theorem dX3_digestOfDoor_9 : decode cX3_digestOfDoor 9 = .ok (.if_icmp .ge 23, 3) := by decide +kernel
theorem dX3_digestOfDoor_12 : decode cX3_digestOfDoor 12 = .ok (.lload_n 3, 1) := by decide +kernel
theorem dX3_digestOfDoor_13 : decode cX3_digestOfDoor 13 = .ok (.ldc2_w 160, 3) := by decide +kernel
theorem dX3_digestOfDoor_16 : decode cX3_digestOfDoor 16 = .ok (.lmul, 1) := by decide +kernel
theorem dX3_digestOfDoor_17 : decode cX3_digestOfDoor 17 = .ok (.aload_n 2, 1) := by decide +kernel
theorem dX3_digestOfDoor_18 : decode cX3_digestOfDoor 18 = .ok (.iload 5, 2) := by decide +kernel
theorem dX3_digestOfDoor_20 : decode cX3_digestOfDoor 20 = .ok (.invokevirtual 100, 3) := by decide +kernel
theorem dX3_digestOfDoor_23 : decode cX3_digestOfDoor 23 = .ok (.i2l, 1) := by decide +kernel
theorem dX3_digestOfDoor_24 : decode cX3_digestOfDoor 24 = .ok (.ladd, 1) := by decide +kernel
theorem dX3_digestOfDoor_25 : decode cX3_digestOfDoor 25 = .ok (.lstore_n 3, 1) := by decide +kernel
theorem dX3_digestOfDoor_26 : decode cX3_digestOfDoor 26 = .ok (.iinc 5 1, 3) := by decide +kernel
theorem dX3_digestOfDoor_29 : decode cX3_digestOfDoor 29 = .ok (.goto (-24), 3) := by decide +kernel
theorem dX3_digestOfDoor_32 : decode cX3_digestOfDoor 32 = .ok (.iconst 0, 1) := by decide +kernel
theorem dX3_digestOfDoor_33 : decode cX3_digestOfDoor 33 = .ok (.istore 5, 2) := by decide +kernel
theorem dX3_digestOfDoor_35 : decode cX3_digestOfDoor 35 = .ok (.iload 5, 2) := by decide +kernel
theorem dX3_digestOfDoor_37 : decode cX3_digestOfDoor 37 = .ok (.aload_n 2, 1) := by decide +kernel
theorem dX3_digestOfDoor_38 : decode cX3_digestOfDoor 38 = .ok (.getfield 75, 3) := by decide +kernel
theorem dX3_digestOfDoor_41 : decode cX3_digestOfDoor 41 = .ok (.if_icmp .ge 40, 3) := by decide +kernel
theorem dX3_digestOfDoor_44 : decode cX3_digestOfDoor 44 = .ok (.iconst 0, 1) := by decide +kernel
theorem dX3_digestOfDoor_45 : decode cX3_digestOfDoor 45 = .ok (.istore 6, 2) := by decide +kernel
theorem dX3_digestOfDoor_47 : decode cX3_digestOfDoor 47 = .ok (.iload 6, 2) := by decide +kernel
theorem dX3_digestOfDoor_49 : decode cX3_digestOfDoor 49 = .ok (.iconst 3, 1) := by decide +kernel
theorem dX3_digestOfDoor_50 : decode cX3_digestOfDoor 50 = .ok (.if_icmp .ge 25, 3) := by decide +kernel
theorem dX3_digestOfDoor_53 : decode cX3_digestOfDoor 53 = .ok (.lload_n 3, 1) := by decide +kernel
theorem dX3_digestOfDoor_54 : decode cX3_digestOfDoor 54 = .ok (.ldc2_w 160, 3) := by decide +kernel
theorem dX3_digestOfDoor_57 : decode cX3_digestOfDoor 57 = .ok (.lmul, 1) := by decide +kernel
theorem dX3_digestOfDoor_58 : decode cX3_digestOfDoor 58 = .ok (.aload_n 2, 1) := by decide +kernel
theorem dX3_digestOfDoor_59 : decode cX3_digestOfDoor 59 = .ok (.iload 5, 2) := by decide +kernel
theorem dX3_digestOfDoor_61 : decode cX3_digestOfDoor 61 = .ok (.iload 6, 2) := by decide +kernel
theorem dX3_digestOfDoor_63 : decode cX3_digestOfDoor 63 = .ok (.invokevirtual 107, 3) := by decide +kernel
theorem dX3_digestOfDoor_66 : decode cX3_digestOfDoor 66 = .ok (.i2l, 1) := by decide +kernel
theorem dX3_digestOfDoor_67 : decode cX3_digestOfDoor 67 = .ok (.ladd, 1) := by decide +kernel
theorem dX3_digestOfDoor_68 : decode cX3_digestOfDoor 68 = .ok (.lstore_n 3, 1) := by decide +kernel
theorem dX3_digestOfDoor_69 : decode cX3_digestOfDoor 69 = .ok (.iinc 6 1, 3) := by decide +kernel
theorem dX3_digestOfDoor_72 : decode cX3_digestOfDoor 72 = .ok (.goto (-25), 3) := by decide +kernel
theorem dX3_digestOfDoor_75 : decode cX3_digestOfDoor 75 = .ok (.iinc 5 1, 3) := by decide +kernel
theorem dX3_digestOfDoor_78 : decode cX3_digestOfDoor 78 = .ok (.goto (-43), 3) := by decide +kernel
theorem dX3_digestOfDoor_81 : decode cX3_digestOfDoor 81 = .ok (.lload_n 3, 1) := by decide +kernel
theorem dX3_digestOfDoor_82 : decode cX3_digestOfDoor 82 = .ok (.lreturn, 1) := by decide +kernel
set_option maxRecDepth 20000 in
theorem ggX3_openedByWhisper_X1_copyFrom : GoodIn wsX3_openedByWhisper wsX1_copyFrom := goodIn_r _ [9, 10, 11, 12, 13, 14, 15, 16, 17, 18, 19, 20, 21, 22, 23, 24, 25, 26, 27, 28, 29, 30, 31, 32, 33, 34, 35, 36, 37, 38, 39, 40, 41, 42, 43, 44, 45, 46, 47, 48, 49, 157, 158, 159, 160, 161, 162, 163, 164, 165, 166, 167, 168, 169, 170, 171, 172, 173, 174, 175, 176, 177, 178, 179, 180, 181, 182] (by decide +kernel) (by decide +kernel)
set_option maxRecDepth 20000 in
theorem gX3_openedByWhisper_X1_copyFrom : GoodIn wsX3_openedByWhisper (wsV RX3 136 RX1 yX1_copyFrom wsX1_copyFrom) := goodIn_app (goodIn_of _ (by decide +kernel)) ggX3_openedByWhisper_X1_copyFrom
set_option maxRecDepth 20000 in
theorem ggX3_openedByWhisper_X1_hearToken : GoodIn wsX3_openedByWhisper wsX1_hearToken := goodIn_r _ [53, 12, 54, 55, 56, 57, 58, 8, 59, 11, 60, 61, 62, 17, 63, 22, 23, 25, 64, 65, 66, 67, 68, 13, 69, 70, 71, 72, 73, 74, 20, 75, 76, 77, 40, 78, 42, 43, 44, 46, 47, 48, 49, 157, 158, 159, 160, 161, 162, 163, 164, 165, 166, 167, 168, 169, 170, 171, 172, 173, 174, 175, 176, 177, 178, 179, 180, 181, 182] (by decide +kernel) (by decide +kernel)
set_option maxRecDepth 20000 in
theorem gX3_openedByWhisper_X1_hearToken : GoodIn wsX3_openedByWhisper (wsV RX3 94 RX1 yX1_hearToken wsX1_hearToken) := goodIn_app (goodIn_of _ (by decide +kernel)) ggX3_openedByWhisper_X1_hearToken
set_option maxRecDepth 20000 in
theorem ggX3_openedByWhisper_X1_tickOn : GoodIn wsX3_openedByWhisper wsX1_tickOn := goodIn_r _ [82, 11, 12, 13, 83, 84, 85, 86, 87, 88, 54, 10, 89, 90, 91, 17, 92, 22, 23, 93, 94, 95, 40, 96, 42, 48, 44, 46, 47, 49, 97, 76, 77, 78, 43, 98, 99, 100, 101, 102, 103, 104, 8, 105, 56, 57, 58, 59, 106, 107, 108, 109, 33, 110, 111, 112, 113, 26, 27, 75, 64, 65, 66, 67, 68, 69, 70, 71, 72, 73, 74, 20, 114, 115, 116, 117, 34, 35, 36, 118, 119, 120, 121, 122, 123, 124, 125, 126, 127, 128, 129, 130, 131, 132, 133, 134, 135, 136, 137, 138, 139, 140, 141, 21, 142, 143, 144, 145, 24, 146, 61, 62, 63, 25, 147, 148, 149, 150, 157, 158, 159, 160, 161, 176, 177, 178, 179, 180, 181, 182, 162, 163, 164, 165, 166, 167, 168, 169, 170, 171, 172, 173, 174, 175] (by decide +kernel) (by decide +kernel)
set_option maxRecDepth 20000 in
theorem gX3_openedByWhisper_X1_tickOn : GoodIn wsX3_openedByWhisper (wsV RX3 132 RX1 yX1_tickOn wsX1_tickOn) := goodIn_app (goodIn_of _ (by decide +kernel)) ggX3_openedByWhisper_X1_tickOn
set_option maxRecDepth 20000 in
theorem ggX3_openedByWhisper_X1_openDoors : GoodIn wsX3_openedByWhisper wsX1_openDoors := goodIn_r _ [154, 11, 12, 54, 157, 158, 159, 160, 161, 162, 163, 164, 165, 166, 167, 168, 169, 170, 171, 172, 173, 174, 175] (by decide +kernel) (by decide +kernel)
set_option maxRecDepth 20000 in
theorem gX3_openedByWhisper_X1_openDoors : GoodIn wsX3_openedByWhisper (wsV RX3 169 RX1 yX1_openDoors wsX1_openDoors) := goodIn_app (goodIn_of _ (by decide +kernel)) ggX3_openedByWhisper_X1_openDoors
theorem dX3_openedByWhisper_0 : decode cX3_openedByWhisper 0 = .ok (.aload_n 0, 1) := by decide +kernel
theorem dX3_openedByWhisper_1 : decode cX3_openedByWhisper 1 = .ok (.getfield 16, 3) := by decide +kernel
theorem dX3_openedByWhisper_4 : decode cX3_openedByWhisper 4 = .ok (.aload_n 0, 1) := by decide +kernel
theorem dX3_openedByWhisper_5 : decode cX3_openedByWhisper 5 = .ok (.getfield 10, 3) := by decide +kernel
theorem dX3_openedByWhisper_8 : decode cX3_openedByWhisper 8 = .ok (.invokevirtual 136, 3) := by decide +kernel
theorem dX3_openedByWhisper_11 : decode cX3_openedByWhisper 11 = .ok (.aload_n 0, 1) := by decide +kernel
theorem dX3_openedByWhisper_12 : decode cX3_openedByWhisper 12 = .ok (.getfield 16, 3) := by decide +kernel
theorem dX3_openedByWhisper_15 : decode cX3_openedByWhisper 15 = .ok (.iload_n 1, 1) := by decide +kernel
theorem dX3_openedByWhisper_16 : decode cX3_openedByWhisper 16 = .ok (.aload_n 0, 1) := by decide +kernel
theorem dX3_openedByWhisper_17 : decode cX3_openedByWhisper 17 = .ok (.getfield 16, 3) := by decide +kernel
theorem dX3_openedByWhisper_20 : decode cX3_openedByWhisper 20 = .ok (.getfield 62, 3) := by decide +kernel
theorem dX3_openedByWhisper_23 : decode cX3_openedByWhisper 23 = .ok (.iload_n 1, 1) := by decide +kernel
theorem dX3_openedByWhisper_24 : decode cX3_openedByWhisper 24 = .ok (.aaload, 1) := by decide +kernel
theorem dX3_openedByWhisper_25 : decode cX3_openedByWhisper 25 = .ok (.getfield 166, 3) := by decide +kernel
theorem dX3_openedByWhisper_28 : decode cX3_openedByWhisper 28 = .ok (.invokevirtual 94, 3) := by decide +kernel
theorem dX3_openedByWhisper_31 : decode cX3_openedByWhisper 31 = .ok (.pop, 1) := by decide +kernel
theorem dX3_openedByWhisper_32 : decode cX3_openedByWhisper 32 = .ok (.iconst 0, 1) := by decide +kernel
theorem dX3_openedByWhisper_33 : decode cX3_openedByWhisper 33 = .ok (.istore_n 3, 1) := by decide +kernel
theorem dX3_openedByWhisper_34 : decode cX3_openedByWhisper 34 = .ok (.iconst 0, 1) := by decide +kernel
theorem dX3_openedByWhisper_35 : decode cX3_openedByWhisper 35 = .ok (.istore 4, 2) := by decide +kernel
theorem dX3_openedByWhisper_37 : decode cX3_openedByWhisper 37 = .ok (.iload 4, 2) := by decide +kernel
theorem dX3_openedByWhisper_39 : decode cX3_openedByWhisper 39 = .ok (.iload_n 2, 1) := by decide +kernel
theorem dX3_openedByWhisper_40 : decode cX3_openedByWhisper 40 = .ok (.if_icmp .ge 27, 3) := by decide +kernel
theorem dX3_openedByWhisper_43 : decode cX3_openedByWhisper 43 = .ok (.aload_n 0, 1) := by decide +kernel
theorem dX3_openedByWhisper_44 : decode cX3_openedByWhisper 44 = .ok (.getfield 16, 3) := by decide +kernel
theorem dX3_openedByWhisper_47 : decode cX3_openedByWhisper 47 = .ok (.invokevirtual 132, 3) := by decide +kernel
theorem dX3_openedByWhisper_50 : decode cX3_openedByWhisper 50 = .ok (.pop, 1) := by decide +kernel
theorem dX3_openedByWhisper_51 : decode cX3_openedByWhisper 51 = .ok (.iload_n 3, 1) := by decide +kernel
theorem dX3_openedByWhisper_52 : decode cX3_openedByWhisper 52 = .ok (.aload_n 0, 1) := by decide +kernel
theorem dX3_openedByWhisper_53 : decode cX3_openedByWhisper 53 = .ok (.getfield 16, 3) := by decide +kernel
theorem dX3_openedByWhisper_56 : decode cX3_openedByWhisper 56 = .ok (.invokevirtual 169, 3) := by decide +kernel
theorem dX3_openedByWhisper_59 : decode cX3_openedByWhisper 59 = .ok (.ior, 1) := by decide +kernel
theorem dX3_openedByWhisper_60 : decode cX3_openedByWhisper 60 = .ok (.istore_n 3, 1) := by decide +kernel
theorem dX3_openedByWhisper_61 : decode cX3_openedByWhisper 61 = .ok (.iinc 4 1, 3) := by decide +kernel
theorem dX3_openedByWhisper_64 : decode cX3_openedByWhisper 64 = .ok (.goto (-27), 3) := by decide +kernel
theorem dX3_openedByWhisper_67 : decode cX3_openedByWhisper 67 = .ok (.iload_n 3, 1) := by decide +kernel
theorem dX3_openedByWhisper_68 : decode cX3_openedByWhisper 68 = .ok (.ireturn, 1) := by decide +kernel
theorem dX3_isIn_0 : decode cX3_isIn 0 = .ok (.iload_n 0, 1) := by decide +kernel
theorem dX3_isIn_1 : decode cX3_isIn 1 = .ok (.iload_n 1, 1) := by decide +kernel
theorem dX3_isIn_2 : decode cX3_isIn 2 = .ok (.if_icmp .lt 12, 3) := by decide +kernel
theorem dX3_isIn_5 : decode cX3_isIn 5 = .ok (.iload_n 0, 1) := by decide +kernel
theorem dX3_isIn_6 : decode cX3_isIn 6 = .ok (.iload_n 2, 1) := by decide +kernel
theorem dX3_isIn_7 : decode cX3_isIn 7 = .ok (.if_icmp .gt 7, 3) := by decide +kernel
theorem dX3_isIn_10 : decode cX3_isIn 10 = .ok (.iconst 1, 1) := by decide +kernel
theorem dX3_isIn_11 : decode cX3_isIn 11 = .ok (.goto 4, 3) := by decide +kernel
theorem dX3_isIn_14 : decode cX3_isIn 14 = .ok (.iconst 0, 1) := by decide +kernel
theorem dX3_isIn_15 : decode cX3_isIn 15 = .ok (.ireturn, 1) := by decide +kernel
set_option maxRecDepth 20000 in
theorem ggX3_isPatience_X3_isIn : GoodIn wsX3_isPatience wsX3_isIn := goodIn_r _ [4] (by decide +kernel) (by decide +kernel)
set_option maxRecDepth 20000 in
theorem gX3_isPatience_X3_isIn : GoodIn wsX3_isPatience (va_wsS RX3 19 yX3_isIn wsX3_isIn) := goodIn_app (goodIn_of _ (by decide +kernel)) ggX3_isPatience_X3_isIn
theorem dX3_isPatience_0 : decode cX3_isPatience 0 = .ok (.iload_n 0, 1) := by decide +kernel
theorem dX3_isPatience_1 : decode cX3_isPatience 1 = .ok (.iconst 1, 1) := by decide +kernel
theorem dX3_isPatience_2 : decode cX3_isPatience 2 = .ok (.bipush 20, 2) := by decide +kernel
theorem dX3_isPatience_4 : decode cX3_isPatience 4 = .ok (.invokestatic 19, 3) := by decide +kernel
theorem dX3_isPatience_7 : decode cX3_isPatience 7 = .ok (.ireturn, 1) := by decide +kernel
set_option maxRecDepth 20000 in
theorem ggX3_isRule_X3_isIn : GoodIn wsX3_isRule wsX3_isIn := goodIn_r _ [4] (by decide +kernel) (by decide +kernel)
set_option maxRecDepth 20000 in
theorem gX3_isRule_X3_isIn : GoodIn wsX3_isRule (va_wsS RX3 19 yX3_isIn wsX3_isIn) := goodIn_app (goodIn_of _ (by decide +kernel)) ggX3_isRule_X3_isIn
theorem dX3_isRule_0 : decode cX3_isRule 0 = .ok (.iload_n 0, 1) := by decide +kernel
theorem dX3_isRule_1 : decode cX3_isRule 1 = .ok (.iconst 0, 1) := by decide +kernel
theorem dX3_isRule_2 : decode cX3_isRule 2 = .ok (.iconst 3, 1) := by decide +kernel
theorem dX3_isRule_3 : decode cX3_isRule 3 = .ok (.invokestatic 19, 3) := by decide +kernel
theorem dX3_isRule_6 : decode cX3_isRule 6 = .ok (.ireturn, 1) := by decide +kernel
theorem dX4_init_0 : decode cX4_init 0 = .ok (.aload_n 0, 1) := by decide +kernel
theorem dX4_init_1 : decode cX4_init 1 = .ok (.invokespecial 1, 3) := by decide +kernel
theorem dX4_init_4 : decode cX4_init 4 = .ok (.aload_n 0, 1) := by decide +kernel
theorem dX4_init_5 : decode cX4_init 5 = .ok (.bipush 90, 2) := by decide +kernel
theorem dX4_init_7 : decode cX4_init 7 = .ok (.newarray .int, 2) := by decide +kernel
theorem dX4_init_9 : decode cX4_init 9 = .ok (.putfield 9, 3) := by decide +kernel
theorem dX4_init_12 : decode cX4_init 12 = .ok (.aload_n 0, 1) := by decide +kernel
