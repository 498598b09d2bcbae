theorem dX0_remember_35 : decode cX0_remember 35 = .ok (.iadd, 1) := by decide +kernel
theorem dX0_remember_36 : decode cX0_remember 36 = .ok (.putfield 58, 3) := by decide +kernel
theorem dX0_remember_39 : decode cX0_remember 39 = .ok (.return_, 1) := by decide +kernel
theorem dX0_forget_0 : decode cX0_forget 0 = .ok (.aload_n 0, 1) := by decide +kernel
theorem dX0_forget_1 : decode cX0_forget 1 = .ok (.iconst 0, 1) := by decide +kernel
theorem dX0_forget_2 : decode cX0_forget 2 = .ok (.putfield 58, 3) := by decide +kernel
theorem dX0_forget_5 : decode cX0_forget 5 = .ok (.iconst 0, 1) := by decide +kernel
theorem dX0_forget_6 : decode cX0_forget 6 = .ok (.istore_n 1, 1) := by decide +kernel
theorem dX0_forget_7 : decode cX0_forget 7 = .ok (.iload_n 1, 1) := by decide +kernel
theorem dX0_forget_8 : decode cX0_forget 8 = .ok (.aload_n 0, 1) := by decide +kernel
theorem dX0_forget_9 : decode cX0_forget 9 = .ok (.getfield 49, 3) := by decide +kernel
theorem dX0_forget_12 : decode cX0_forget 12 = .ok (.if_icmp .ge 16, 3) := by decide +kernel
theorem dX0_forget_15 : decode cX0_forget 15 = .ok (.aload_n 0, 1) := by decide +kernel
theorem dX0_forget_16 : decode cX0_forget 16 = .ok (.getfield 18, 3) := by decide +kernel
theorem dX0_forget_19 : decode cX0_forget 19 = .ok (.iload_n 1, 1) := by decide +kernel
theorem dX0_forget_20 : decode cX0_forget 20 = .ok (.iconst (-1), 1) := by decide +kernel
theorem dX0_forget_21 : decode cX0_forget 21 = .ok (.iastore, 1) := by decide +kernel
theorem dX0_forget_22 : decode cX0_forget 22 = .ok (.iinc 1 1, 3) := by decide +kernel
theorem dX0_forget_25 : decode cX0_forget 25 = .ok (.goto (-18), 3) := by decide +kernel
theorem dX0_forget_28 : decode cX0_forget 28 = .ok (.return_, 1) := by decide +kernel
set_option maxRecDepth 20000 in
theorem ggX0_isReadyToDecide_X0_answersOf : GoodIn wsX0_isReadyToDecide wsX0_answersOf := goodIn_r _ [7, 2, 8, 9, 10, 11, 12, 13, 14, 15, 16, 17, 18, 19, 20, 21, 22] (by decide +kernel) (by decide +kernel)
set_option maxRecDepth 20000 in
theorem gX0_isReadyToDecide_X0_answersOf : GoodIn wsX0_isReadyToDecide (wsV RX0 65 RX0 yX0_answersOf wsX0_answersOf) := goodIn_app (goodIn_of _ (by decide +kernel)) ggX0_isReadyToDecide_X0_answersOf
theorem dX0_isReadyToDecide_0 : decode cX0_isReadyToDecide 0 = .ok (.aload_n 0, 1) := by decide +kernel
theorem dX0_isReadyToDecide_1 : decode cX0_isReadyToDecide 1 = .ok (.getfield 40, 3) := by decide +kernel
theorem dX0_isReadyToDecide_4 : decode cX0_isReadyToDecide 4 = .ok (.ifCond .le 21, 3) := by decide +kernel
theorem dX0_isReadyToDecide_7 : decode cX0_isReadyToDecide 7 = .ok (.aload_n 0, 1) := by decide +kernel
theorem dX0_isReadyToDecide_8 : decode cX0_isReadyToDecide 8 = .ok (.iconst 0, 1) := by decide +kernel
theorem dX0_isReadyToDecide_9 : decode cX0_isReadyToDecide 9 = .ok (.invokevirtual 65, 3) := by decide +kernel
theorem dX0_isReadyToDecide_12 : decode cX0_isReadyToDecide 12 = .ok (.aload_n 0, 1) := by decide +kernel
theorem dX0_isReadyToDecide_13 : decode cX0_isReadyToDecide 13 = .ok (.iconst 1, 1) := by decide +kernel
theorem dX0_isReadyToDecide_14 : decode cX0_isReadyToDecide 14 = .ok (.invokevirtual 65, 3) := by decide +kernel
theorem dX0_isReadyToDecide_17 : decode cX0_isReadyToDecide 17 = .ok (.iadd, 1) := by decide +kernel
theorem dX0_isReadyToDecide_18 : decode cX0_isReadyToDecide 18 = .ok (.aload_n 0, 1) := by decide +kernel
theorem dX0_isReadyToDecide_19 : decode cX0_isReadyToDecide 19 = .ok (.getfield 49, 3) := by decide +kernel
theorem dX0_isReadyToDecide_22 : decode cX0_isReadyToDecide 22 = .ok (.if_icmp .ne 7, 3) := by decide +kernel
theorem dX0_isReadyToDecide_25 : decode cX0_isReadyToDecide 25 = .ok (.iconst 1, 1) := by decide +kernel
theorem dX0_isReadyToDecide_26 : decode cX0_isReadyToDecide 26 = .ok (.goto 4, 3) := by decide +kernel
theorem dX0_isReadyToDecide_29 : decode cX0_isReadyToDecide 29 = .ok (.iconst 0, 1) := by decide +kernel
theorem dX0_isReadyToDecide_30 : decode cX0_isReadyToDecide 30 = .ok (.ireturn, 1) := by decide +kernel
set_option maxRecDepth 20000 in
theorem ggX0_decide_X0_answersOf : GoodIn wsX0_decide wsX0_answersOf := goodIn_r _ [5, 6, 7, 25, 26, 27, 28, 29, 30, 31, 32, 33, 34, 35, 36, 37, 38] (by decide +kernel) (by decide +kernel)
set_option maxRecDepth 20000 in
theorem gX0_decide_X0_answersOf : GoodIn wsX0_decide (wsV RX0 65 RX0 yX0_answersOf wsX0_answersOf) := goodIn_app (goodIn_of _ (by decide +kernel)) ggX0_decide_X0_answersOf
set_option maxRecDepth 20000 in
theorem ggX0_decide_X0_isPersuaded : GoodIn wsX0_decide wsX0_isPersuaded := goodIn_r _ [11, 12, 6, 25, 26, 27, 28, 29, 30, 31, 32, 33, 34, 35, 36, 37, 38] (by decide +kernel) (by decide +kernel)
set_option maxRecDepth 20000 in
theorem gX0_decide_X0_isPersuaded : GoodIn wsX0_decide (wsV RX0 68 RX0 yX0_isPersuaded wsX0_isPersuaded) := goodIn_app (goodIn_of _ (by decide +kernel)) ggX0_decide_X0_isPersuaded
set_option maxRecDepth 20000 in
theorem ggX0_decide_X0_open : GoodIn wsX0_decide wsX0_open := goodIn_r _ [16, 17, 18, 19, 25, 26, 27, 28, 29, 30, 31, 32, 33, 34, 35, 36, 37, 38] (by decide +kernel) (by decide +kernel)
set_option maxRecDepth 20000 in
theorem gX0_decide_X0_open : GoodIn wsX0_decide (wsV RX0 72 RX0 yX0_open wsX0_open) := goodIn_app (goodIn_of _ (by decide +kernel)) ggX0_decide_X0_open
set_option maxRecDepth 20000 in
theorem ggX0_decide_X0_bar : GoodIn wsX0_decide wsX0_bar := goodIn_r _ [23, 17, 18, 24, 25, 26, 27, 28, 29, 30, 31, 32, 33, 34, 35, 36, 37, 38] (by decide +kernel) (by decide +kernel)
set_option maxRecDepth 20000 in
theorem gX0_decide_X0_bar : GoodIn wsX0_decide (wsV RX0 75 RX0 yX0_bar wsX0_bar) := goodIn_app (goodIn_of _ (by decide +kernel)) ggX0_decide_X0_bar
theorem dX0_decide_0 : decode cX0_decide 0 = .ok (.aload_n 0, 1) := by decide +kernel
theorem dX0_decide_1 : decode cX0_decide 1 = .ok (.aload_n 0, 1) := by decide +kernel
theorem dX0_decide_2 : decode cX0_decide 2 = .ok (.iconst 1, 1) := by decide +kernel
theorem dX0_decide_3 : decode cX0_decide 3 = .ok (.invokevirtual 65, 3) := by decide +kernel
theorem dX0_decide_6 : decode cX0_decide 6 = .ok (.invokevirtual 68, 3) := by decide +kernel
theorem dX0_decide_9 : decode cX0_decide 9 = .ok (.ifCond .eq 10, 3) := by decide +kernel
theorem dX0_decide_12 : decode cX0_decide 12 = .ok (.aload_n 0, 1) := by decide +kernel
theorem dX0_decide_13 : decode cX0_decide 13 = .ok (.invokevirtual 72, 3) := by decide +kernel
theorem dX0_decide_16 : decode cX0_decide 16 = .ok (.goto 7, 3) := by decide +kernel
theorem dX0_decide_19 : decode cX0_decide 19 = .ok (.aload_n 0, 1) := by decide +kernel
theorem dX0_decide_20 : decode cX0_decide 20 = .ok (.invokevirtual 75, 3) := by decide +kernel
theorem dX0_decide_23 : decode cX0_decide 23 = .ok (.return_, 1) := by decide +kernel
theorem dX0_isPersuaded_0 : decode cX0_isPersuaded 0 = .ok (.aload_n 0, 1) := by decide +kernel
theorem dX0_isPersuaded_1 : decode cX0_isPersuaded 1 = .ok (.getfield 34, 3) := by decide +kernel
theorem dX0_isPersuaded_4 : decode cX0_isPersuaded 4 = .ok (.tableswitch 69 0 2 #[28, 42, 53], 28) := by decide +kernel
theorem dX0_isPersuaded_32 : decode cX0_isPersuaded 32 = .ok (.iload_n 1, 1) := by decide +kernel
theorem dX0_isPersuaded_33 : decode cX0_isPersuaded 33 = .ok (.aload_n 0, 1) := by decide +kernel
theorem dX0_isPersuaded_34 : decode cX0_isPersuaded 34 = .ok (.getfield 49, 3) := by decide +kernel
theorem dX0_isPersuaded_37 : decode cX0_isPersuaded 37 = .ok (.if_icmp .ne 7, 3) := by decide +kernel
theorem dX0_isPersuaded_40 : decode cX0_isPersuaded 40 = .ok (.iconst 1, 1) := by decide +kernel
theorem dX0_isPersuaded_41 : decode cX0_isPersuaded 41 = .ok (.goto 4, 3) := by decide +kernel
theorem dX0_isPersuaded_44 : decode cX0_isPersuaded 44 = .ok (.iconst 0, 1) := by decide +kernel
theorem dX0_isPersuaded_45 : decode cX0_isPersuaded 45 = .ok (.ireturn, 1) := by decide +kernel
theorem dX0_isPersuaded_46 : decode cX0_isPersuaded 46 = .ok (.iload_n 1, 1) := by decide +kernel
theorem dX0_isPersuaded_47 : decode cX0_isPersuaded 47 = .ok (.iconst 1, 1) := by decide +kernel
theorem dX0_isPersuaded_48 : decode cX0_isPersuaded 48 = .ok (.if_icmp .lt 7, 3) := by decide +kernel
theorem dX0_isPersuaded_51 : decode cX0_isPersuaded 51 = .ok (.iconst 1, 1) := by decide +kernel
theorem dX0_isPersuaded_52 : decode cX0_isPersuaded 52 = .ok (.goto 4, 3) := by decide +kernel
theorem dX0_isPersuaded_55 : decode cX0_isPersuaded 55 = .ok (.iconst 0, 1) := by decide +kernel
theorem dX0_isPersuaded_56 : decode cX0_isPersuaded 56 = .ok (.ireturn, 1) := by decide +kernel
theorem dX0_isPersuaded_57 : decode cX0_isPersuaded 57 = .ok (.iconst 2, 1) := by decide +kernel
theorem dX0_isPersuaded_58 : decode cX0_isPersuaded 58 = .ok (.iload_n 1, 1) := by decide +kernel
theorem dX0_isPersuaded_59 : decode cX0_isPersuaded 59 = .ok (.imul, 1) := by decide +kernel
theorem dX0_isPersuaded_60 : decode cX0_isPersuaded 60 = .ok (.aload_n 0, 1) := by decide +kernel
theorem dX0_isPersuaded_61 : decode cX0_isPersuaded 61 = .ok (.getfield 49, 3) := by decide +kernel
theorem dX0_isPersuaded_64 : decode cX0_isPersuaded 64 = .ok (.if_icmp .le 7, 3) := by decide +kernel
theorem dX0_isPersuaded_67 : decode cX0_isPersuaded 67 = .ok (.iconst 1, 1) := by decide +kernel
theorem dX0_isPersuaded_68 : decode cX0_isPersuaded 68 = .ok (.goto 4, 3) := by decide +kernel
theorem dX0_isPersuaded_71 : decode cX0_isPersuaded 71 = .ok (.iconst 0, 1) := by decide +kernel
theorem dX0_isPersuaded_72 : decode cX0_isPersuaded 72 = .ok (.ireturn, 1) := by decide +kernel
theorem dX0_isPersuaded_73 : decode cX0_isPersuaded 73 = .ok (.iload_n 1, 1) := by decide +kernel
theorem dX0_isPersuaded_74 : decode cX0_isPersuaded 74 = .ok (.ifCond .ne 7, 3) := by decide +kernel
theorem dX0_isPersuaded_77 : decode cX0_isPersuaded 77 = .ok (.iconst 1, 1) := by decide +kernel
theorem dX0_isPersuaded_78 : decode cX0_isPersuaded 78 = .ok (.goto 4, 3) := by decide +kernel
theorem dX0_isPersuaded_81 : decode cX0_isPersuaded 81 = .ok (.iconst 0, 1) := by decide +kernel
theorem dX0_isPersuaded_82 : decode cX0_isPersuaded 82 = .ok (.ireturn, 1) := by decide +kernel
theorem dX0_answersOf_0 : decode cX0_answersOf 0 = .ok (.iconst 0, 1) := by decide +kernel
theorem dX0_answersOf_1 : decode cX0_answersOf 1 = .ok (.istore_n 2, 1) := by decide +kernel
theorem dX0_answersOf_2 : decode cX0_answersOf 2 = .ok (.iconst 0, 1) := by decide +kernel
theorem dX0_answersOf_3 : decode cX0_answersOf 3 = .ok (.istore_n 3, 1) := by decide +kernel
theorem dX0_answersOf_4 : decode cX0_answersOf 4 = .ok (.iload_n 3, 1) := by decide +kernel
theorem dX0_answersOf_5 : decode cX0_answersOf 5 = .ok (.aload_n 0, 1) := by decide +kernel
theorem dX0_answersOf_6 : decode cX0_answersOf 6 = .ok (.getfield 49, 3) := by decide +kernel
theorem dX0_answersOf_9 : decode cX0_answersOf 9 = .ok (.if_icmp .ge 22, 3) := by decide +kernel
theorem dX0_answersOf_12 : decode cX0_answersOf 12 = .ok (.aload_n 0, 1) := by decide +kernel
theorem dX0_answersOf_13 : decode cX0_answersOf 13 = .ok (.getfield 18, 3) := by decide +kernel
theorem dX0_answersOf_16 : decode cX0_answersOf 16 = .ok (.iload_n 3, 1) := by decide +kernel
theorem dX0_answersOf_17 : decode cX0_answersOf 17 = .ok (.iaload, 1) := by decide +kernel
theorem dX0_answersOf_18 : decode cX0_answersOf 18 = .ok (.iload_n 1, 1) := by decide +kernel
theorem dX0_answersOf_19 : decode cX0_answersOf 19 = .ok (.if_icmp .ne 6, 3) := by decide +kernel
theorem dX0_answersOf_22 : decode cX0_answersOf 22 = .ok (.iinc 2 1, 3) := by decide +kernel
theorem dX0_answersOf_25 : decode cX0_answersOf 25 = .ok (.iinc 3 1, 3) := by decide +kernel
theorem dX0_answersOf_28 : decode cX0_answersOf 28 = .ok (.goto (-24), 3) := by decide +kernel
theorem dX0_answersOf_31 : decode cX0_answersOf 31 = .ok (.iload_n 2, 1) := by decide +kernel
theorem dX0_answersOf_32 : decode cX0_answersOf 32 = .ok (.ireturn, 1) := by decide +kernel
set_option maxRecDepth 20000 in
theorem ggX0_fact_X0_answersOf : GoodIn wsX0_fact wsX0_answersOf := goodIn_r _ [12, 4, 13, 14, 15, 16, 17, 18, 19, 20, 21, 22, 23, 24, 25, 26, 27] (by decide +kernel) (by decide +kernel)
set_option maxRecDepth 20000 in
theorem gX0_fact_X0_answersOf : GoodIn wsX0_fact (wsV RX0 65 RX0 yX0_answersOf wsX0_answersOf) := goodIn_app (goodIn_of _ (by decide +kernel)) ggX0_fact_X0_answersOf
theorem dX0_fact_0 : decode cX0_fact 0 = .ok (.iload_n 1, 1) := by decide +kernel
theorem dX0_fact_1 : decode cX0_fact 1 = .ok (.tableswitch 95 0 7 #[47, 52, 57, 62, 67, 79, 85, 90], 47) := by decide +kernel
theorem dX0_fact_48 : decode cX0_fact 48 = .ok (.aload_n 0, 1) := by decide +kernel
theorem dX0_fact_49 : decode cX0_fact 49 = .ok (.getfield 37, 3) := by decide +kernel
theorem dX0_fact_52 : decode cX0_fact 52 = .ok (.ireturn, 1) := by decide +kernel
theorem dX0_fact_53 : decode cX0_fact 53 = .ok (.aload_n 0, 1) := by decide +kernel
theorem dX0_fact_54 : decode cX0_fact 54 = .ok (.getfield 40, 3) := by decide +kernel
theorem dX0_fact_57 : decode cX0_fact 57 = .ok (.ireturn, 1) := by decide +kernel
theorem dX0_fact_58 : decode cX0_fact 58 = .ok (.aload_n 0, 1) := by decide +kernel
theorem dX0_fact_59 : decode cX0_fact 59 = .ok (.getfield 34, 3) := by decide +kernel
theorem dX0_fact_62 : decode cX0_fact 62 = .ok (.ireturn, 1) := by decide +kernel
theorem dX0_fact_63 : decode cX0_fact 63 = .ok (.aload_n 0, 1) := by decide +kernel
theorem dX0_fact_64 : decode cX0_fact 64 = .ok (.getfield 49, 3) := by decide +kernel
theorem dX0_fact_67 : decode cX0_fact 67 = .ok (.ireturn, 1) := by decide +kernel
theorem dX0_fact_68 : decode cX0_fact 68 = .ok (.aload_n 0, 1) := by decide +kernel
theorem dX0_fact_69 : decode cX0_fact 69 = .ok (.iconst 0, 1) := by decide +kernel
theorem dX0_fact_70 : decode cX0_fact 70 = .ok (.invokevirtual 65, 3) := by decide +kernel
theorem dX0_fact_73 : decode cX0_fact 73 = .ok (.aload_n 0, 1) := by decide +kernel
theorem dX0_fact_74 : decode cX0_fact 74 = .ok (.iconst 1, 1) := by decide +kernel
theorem dX0_fact_75 : decode cX0_fact 75 = .ok (.invokevirtual 65, 3) := by decide +kernel
theorem dX0_fact_78 : decode cX0_fact 78 = .ok (.iadd, 1) := by decide +kernel
theorem dX0_fact_79 : decode cX0_fact 79 = .ok (.ireturn, 1) := by decide +kernel
theorem dX0_fact_80 : decode cX0_fact 80 = .ok (.aload_n 0, 1) := by decide +kernel
theorem dX0_fact_81 : decode cX0_fact 81 = .ok (.iconst 1, 1) := by decide +kernel
theorem dX0_fact_82 : decode cX0_fact 82 = .ok (.invokevirtual 65, 3) := by decide +kernel
theorem dX0_fact_85 : decode cX0_fact 85 = .ok (.ireturn, 1) := by decide +kernel
theorem dX0_fact_86 : decode cX0_fact 86 = .ok (.aload_n 0, 1) := by decide +kernel
theorem dX0_fact_87 : decode cX0_fact 87 = .ok (.getfield 58, 3) := by decide +kernel
theorem dX0_fact_90 : decode cX0_fact 90 = .ok (.ireturn, 1) := by decide +kernel
theorem dX0_fact_91 : decode cX0_fact 91 = .ok (.aload_n 0, 1) := by decide +kernel
theorem dX0_fact_92 : decode cX0_fact 92 = .ok (.getfield 43, 3) := by decide +kernel
theorem dX0_fact_95 : decode cX0_fact 95 = .ok (.ireturn, 1) := by decide +kernel
theorem dX0_fact_96 : decode cX0_fact 96 = .ok (.aload_n 0, 1) := by decide +kernel
theorem dX0_fact_97 : decode cX0_fact 97 = .ok (.getfield 46, 3) := by decide +kernel
theorem dX0_fact_100 : decode cX0_fact 100 = .ok (.ireturn, 1) := by decide +kernel
set_option maxRecDepth 20000 in
theorem ggX0_askedFact_X3_isIn : GoodIn wsX0_askedFact wsX3_isIn := goodIn_r _ [7] (by decide +kernel) (by decide +kernel)
set_option maxRecDepth 20000 in
theorem gX0_askedFact_X3_isIn_n78 : GoodIn wsX0_askedFact (wsX3_isIn) := ggX0_askedFact_X3_isIn
theorem dX0_askedFact_0 : decode cX0_askedFact 0 = .ok (.iload_n 1, 1) := by decide +kernel
theorem dX0_askedFact_1 : decode cX0_askedFact 1 = .ok (.iconst 0, 1) := by decide +kernel
theorem dX0_askedFact_2 : decode cX0_askedFact 2 = .ok (.aload_n 0, 1) := by decide +kernel
theorem dX0_askedFact_3 : decode cX0_askedFact 3 = .ok (.getfield 49, 3) := by decide +kernel
theorem dX0_askedFact_6 : decode cX0_askedFact 6 = .ok (.iconst 1, 1) := by decide +kernel
theorem dX0_askedFact_7 : decode cX0_askedFact 7 = .ok (.isub, 1) := by decide +kernel
theorem dX0_askedFact_8 : decode cX0_askedFact 8 = .ok (.invokestatic 78, 3) := by decide +kernel
theorem dX0_askedFact_11 : decode cX0_askedFact 11 = .ok (.ifCond .ne 5, 3) := by decide +kernel
theorem dX0_askedFact_14 : decode cX0_askedFact 14 = .ok (.iconst 0, 1) := by decide +kernel
theorem dX0_askedFact_15 : decode cX0_askedFact 15 = .ok (.ireturn, 1) := by decide +kernel
theorem dX0_askedFact_16 : decode cX0_askedFact 16 = .ok (.iload_n 2, 1) := by decide +kernel
theorem dX0_askedFact_17 : decode cX0_askedFact 17 = .ok (.lookupswitch 41 #[(0, 27), (1, 34)], 27) := by decide +kernel
theorem dX0_askedFact_44 : decode cX0_askedFact 44 = .ok (.aload_n 0, 1) := by decide +kernel
theorem dX0_askedFact_45 : decode cX0_askedFact 45 = .ok (.getfield 9, 3) := by decide +kernel
theorem dX0_askedFact_48 : decode cX0_askedFact 48 = .ok (.iload_n 1, 1) := by decide +kernel
theorem dX0_askedFact_49 : decode cX0_askedFact 49 = .ok (.iaload, 1) := by decide +kernel
theorem dX0_askedFact_50 : decode cX0_askedFact 50 = .ok (.ireturn, 1) := by decide +kernel
theorem dX0_askedFact_51 : decode cX0_askedFact 51 = .ok (.aload_n 0, 1) := by decide +kernel
theorem dX0_askedFact_52 : decode cX0_askedFact 52 = .ok (.getfield 15, 3) := by decide +kernel
theorem dX0_askedFact_55 : decode cX0_askedFact 55 = .ok (.iload_n 1, 1) := by decide +kernel
theorem dX0_askedFact_56 : decode cX0_askedFact 56 = .ok (.iaload, 1) := by decide +kernel
theorem dX0_askedFact_57 : decode cX0_askedFact 57 = .ok (.ireturn, 1) := by decide +kernel
theorem dX0_askedFact_58 : decode cX0_askedFact 58 = .ok (.aload_n 0, 1) := by decide +kernel
theorem dX0_askedFact_59 : decode cX0_askedFact 59 = .ok (.getfield 18, 3) := by decide +kernel
theorem dX0_askedFact_62 : decode cX0_askedFact 62 = .ok (.iload_n 1, 1) := by decide +kernel
theorem dX0_askedFact_63 : decode cX0_askedFact 63 = .ok (.iaload, 1) := by decide +kernel
theorem dX0_askedFact_64 : decode cX0_askedFact 64 = .ok (.ireturn, 1) := by decide +kernel
set_option maxRecDepth 20000 in
theorem ggX1_init_X2_init : GoodIn wsX1_init wsX2_init := goodIn_r _ [14, 15, 2, 3, 16, 17, 18, 19, 20, 21, 35, 36, 37, 38, 39, 40, 41] (by decide +kernel) (by decide +kernel)
set_option maxRecDepth 20000 in
theorem gX1_init_X2_init_n19 : GoodIn wsX1_init (wsX2_init) := ggX1_init_X2_init
set_option maxRecDepth 20000 in
theorem ggX1_init_X0_init : GoodIn wsX1_init wsX0_init := goodIn_r _ [23, 24, 2, 3, 16, 25, 26, 27, 28, 29, 42, 43, 44, 45, 46, 47, 48, 49, 50, 51, 52, 53, 54, 55] (by decide +kernel) (by decide +kernel)
set_option maxRecDepth 20000 in
theorem gX1_init_X0_init_n27 : GoodIn wsX1_init (wsX0_init) := ggX1_init_X0_init
theorem dX1_init_0 : decode cX1_init 0 = .ok (.aload_n 0, 1) := by decide +kernel
theorem dX1_init_1 : decode cX1_init 1 = .ok (.invokespecial 3, 3) := by decide +kernel
theorem dX1_init_4 : decode cX1_init 4 = .ok (.aload_n 0, 1) := by decide +kernel
theorem dX1_init_5 : decode cX1_init 5 = .ok (.bipush 10, 2) := by decide +kernel
theorem dX1_init_7 : decode cX1_init 7 = .ok (.anewarray 9, 3) := by decide +kernel
theorem dX1_init_10 : decode cX1_init 10 = .ok (.putfield 11, 3) := by decide +kernel
theorem dX1_init_13 : decode cX1_init 13 = .ok (.aload_n 0, 1) := by decide +kernel
theorem dX1_init_14 : decode cX1_init 14 = .ok (.new 17, 3) := by decide +kernel
theorem dX1_init_17 : decode cX1_init 17 = .ok (.dup, 1) := by decide +kernel
theorem dX1_init_18 : decode cX1_init 18 = .ok (.invokespecial 19, 3) := by decide +kernel
theorem dX1_init_21 : decode cX1_init 21 = .ok (.putfield 20, 3) := by decide +kernel
theorem dX1_init_24 : decode cX1_init 24 = .ok (.aload_n 0, 1) := by decide +kernel
theorem dX1_init_25 : decode cX1_init 25 = .ok (.new 17, 3) := by decide +kernel
theorem dX1_init_28 : decode cX1_init 28 = .ok (.dup, 1) := by decide +kernel
theorem dX1_init_29 : decode cX1_init 29 = .ok (.invokespecial 19, 3) := by decide +kernel
theorem dX1_init_32 : decode cX1_init 32 = .ok (.putfield 24, 3) := by decide +kernel
theorem dX1_init_35 : decode cX1_init 35 = .ok (.iconst 0, 1) := by decide +kernel
theorem dX1_init_36 : decode cX1_init 36 = .ok (.istore_n 1, 1) := by decide +kernel
theorem dX1_init_37 : decode cX1_init 37 = .ok (.iload_n 1, 1) := by decide +kernel
theorem dX1_init_38 : decode cX1_init 38 = .ok (.bipush 10, 2) := by decide +kernel
theorem dX1_init_40 : decode cX1_init 40 = .ok (.if_icmp .ge 22, 3) := by decide +kernel
theorem dX1_init_43 : decode cX1_init 43 = .ok (.aload_n 0, 1) := by decide +kernel
theorem dX1_init_44 : decode cX1_init 44 = .ok (.getfield 11, 3) := by decide +kernel
theorem dX1_init_47 : decode cX1_init 47 = .ok (.iload_n 1, 1) := by decide +kernel
theorem dX1_init_48 : decode cX1_init 48 = .ok (.new 9, 3) := by decide +kernel
theorem dX1_init_51 : decode cX1_init 51 = .ok (.dup, 1) := by decide +kernel
theorem dX1_init_52 : decode cX1_init 52 = .ok (.invokespecial 27, 3) := by decide +kernel
theorem dX1_init_55 : decode cX1_init 55 = .ok (.aastore, 1) := by decide +kernel
theorem dX1_init_56 : decode cX1_init 56 = .ok (.iinc 1 1, 3) := by decide +kernel
theorem dX1_init_59 : decode cX1_init 59 = .ok (.goto (-22), 3) := by decide +kernel
theorem dX1_init_62 : decode cX1_init 62 = .ok (.return_, 1) := by decide +kernel
set_option maxRecDepth 20000 in
theorem ggX1_copyFrom_X0_copyFrom : GoodIn wsX1_copyFrom wsX0_copyFrom := goodIn_r _ [9, 10, 11, 12, 13, 14, 15, 16, 17, 18, 19, 20, 21, 22, 23, 24, 25, 26, 27, 46, 47, 48, 49, 50, 51, 52, 53, 54, 55, 56, 57, 58, 59] (by decide +kernel) (by decide +kernel)
set_option maxRecDepth 20000 in
theorem gX1_copyFrom_X0_copyFrom : GoodIn wsX1_copyFrom (wsV RX1 35 RX0 yX0_copyFrom wsX0_copyFrom) := goodIn_app (goodIn_of _ (by decide +kernel)) ggX1_copyFrom_X0_copyFrom
set_option maxRecDepth 20000 in
theorem ggX1_copyFrom_X2_copyFrom : GoodIn wsX1_copyFrom wsX2_copyFrom := goodIn_r _ [32, 33, 34, 35, 36, 20, 21, 22, 37, 38, 39, 40, 60, 61, 62, 63, 64, 65, 66] (by decide +kernel) (by decide +kernel)
set_option maxRecDepth 20000 in
theorem gX1_copyFrom_X2_copyFrom : GoodIn wsX1_copyFrom (wsV RX1 39 RX2 yX2_copyFrom wsX2_copyFrom) := goodIn_app (goodIn_of _ (by decide +kernel)) ggX1_copyFrom_X2_copyFrom
theorem dX1_copyFrom_0 : decode cX1_copyFrom 0 = .ok (.aload_n 0, 1) := by decide +kernel
theorem dX1_copyFrom_1 : decode cX1_copyFrom 1 = .ok (.aload_n 1, 1) := by decide +kernel
theorem dX1_copyFrom_2 : decode cX1_copyFrom 2 = .ok (.getfield 28, 3) := by decide +kernel
theorem dX1_copyFrom_5 : decode cX1_copyFrom 5 = .ok (.putfield 28, 3) := by decide +kernel
theorem dX1_copyFrom_8 : decode cX1_copyFrom 8 = .ok (.aload_n 0, 1) := by decide +kernel
theorem dX1_copyFrom_9 : decode cX1_copyFrom 9 = .ok (.aload_n 1, 1) := by decide +kernel
theorem dX1_copyFrom_10 : decode cX1_copyFrom 10 = .ok (.getfield 32, 3) := by decide +kernel
theorem dX1_copyFrom_13 : decode cX1_copyFrom 13 = .ok (.putfield 32, 3) := by decide +kernel
theorem dX1_copyFrom_16 : decode cX1_copyFrom 16 = .ok (.iconst 0, 1) := by decide +kernel
theorem dX1_copyFrom_17 : decode cX1_copyFrom 17 = .ok (.istore_n 2, 1) := by decide +kernel
theorem dX1_copyFrom_18 : decode cX1_copyFrom 18 = .ok (.iload_n 2, 1) := by decide +kernel
theorem dX1_copyFrom_19 : decode cX1_copyFrom 19 = .ok (.aload_n 0, 1) := by decide +kernel
theorem dX1_copyFrom_20 : decode cX1_copyFrom 20 = .ok (.getfield 32, 3) := by decide +kernel
theorem dX1_copyFrom_23 : decode cX1_copyFrom 23 = .ok (.if_icmp .ge 24, 3) := by decide +kernel
theorem dX1_copyFrom_26 : decode cX1_copyFrom 26 = .ok (.aload_n 0, 1) := by decide +kernel
theorem dX1_copyFrom_27 : decode cX1_copyFrom 27 = .ok (.getfield 11, 3) := by decide +kernel
theorem dX1_copyFrom_30 : decode cX1_copyFrom 30 = .ok (.iload_n 2, 1) := by decide +kernel
theorem dX1_copyFrom_31 : decode cX1_copyFrom 31 = .ok (.aaload, 1) := by decide +kernel
theorem dX1_copyFrom_32 : decode cX1_copyFrom 32 = .ok (.aload_n 1, 1) := by decide +kernel
theorem dX1_copyFrom_33 : decode cX1_copyFrom 33 = .ok (.getfield 11, 3) := by decide +kernel
theorem dX1_copyFrom_36 : decode cX1_copyFrom 36 = .ok (.iload_n 2, 1) := by decide +kernel
theorem dX1_copyFrom_37 : decode cX1_copyFrom 37 = .ok (.aaload, 1) := by decide +kernel
theorem dX1_copyFrom_38 : decode cX1_copyFrom 38 = .ok (.invokevirtual 35, 3) := by decide +kernel
theorem dX1_copyFrom_41 : decode cX1_copyFrom 41 = .ok (.iinc 2 1, 3) := by decide +kernel
theorem dX1_copyFrom_44 : decode cX1_copyFrom 44 = .ok (.goto (-26), 3) := by decide +kernel
theorem dX1_copyFrom_47 : decode cX1_copyFrom 47 = .ok (.aload_n 0, 1) := by decide +kernel
theorem dX1_copyFrom_48 : decode cX1_copyFrom 48 = .ok (.getfield 20, 3) := by decide +kernel
theorem dX1_copyFrom_51 : decode cX1_copyFrom 51 = .ok (.aload_n 1, 1) := by decide +kernel
theorem dX1_copyFrom_52 : decode cX1_copyFrom 52 = .ok (.getfield 20, 3) := by decide +kernel
theorem dX1_copyFrom_55 : decode cX1_copyFrom 55 = .ok (.invokevirtual 39, 3) := by decide +kernel
theorem dX1_copyFrom_58 : decode cX1_copyFrom 58 = .ok (.return_, 1) := by decide +kernel
theorem dX1_isDoor_0 : decode cX1_isDoor 0 = .ok (.iload_n 1, 1) := by decide +kernel
theorem dX1_isDoor_1 : decode cX1_isDoor 1 = .ok (.ifCond .lt 15, 3) := by decide +kernel
theorem dX1_isDoor_4 : decode cX1_isDoor 4 = .ok (.iload_n 1, 1) := by decide +kernel
theorem dX1_isDoor_5 : decode cX1_isDoor 5 = .ok (.aload_n 0, 1) := by decide +kernel
theorem dX1_isDoor_6 : decode cX1_isDoor 6 = .ok (.getfield 32, 3) := by decide +kernel
theorem dX1_isDoor_9 : decode cX1_isDoor 9 = .ok (.if_icmp .ge 7, 3) := by decide +kernel
theorem dX1_isDoor_12 : decode cX1_isDoor 12 = .ok (.iconst 1, 1) := by decide +kernel
theorem dX1_isDoor_13 : decode cX1_isDoor 13 = .ok (.goto 4, 3) := by decide +kernel
theorem dX1_isDoor_16 : decode cX1_isDoor 16 = .ok (.iconst 0, 1) := by decide +kernel
theorem dX1_isDoor_17 : decode cX1_isDoor 17 = .ok (.ireturn, 1) := by decide +kernel
theorem dX1_addDoor_0 : decode cX1_addDoor 0 = .ok (.aload_n 0, 1) := by decide +kernel
theorem dX1_addDoor_1 : decode cX1_addDoor 1 = .ok (.getfield 32, 3) := by decide +kernel
theorem dX1_addDoor_4 : decode cX1_addDoor 4 = .ok (.istore 4, 2) := by decide +kernel
theorem dX1_addDoor_6 : decode cX1_addDoor 6 = .ok (.iload 4, 2) := by decide +kernel
theorem dX1_addDoor_8 : decode cX1_addDoor 8 = .ok (.bipush 10, 2) := by decide +kernel
theorem dX1_addDoor_10 : decode cX1_addDoor 10 = .ok (.if_icmp .ge 46, 3) := by decide +kernel
theorem dX1_addDoor_13 : decode cX1_addDoor 13 = .ok (.aload_n 0, 1) := by decide +kernel
theorem dX1_addDoor_14 : decode cX1_addDoor 14 = .ok (.getfield 11, 3) := by decide +kernel
theorem dX1_addDoor_17 : decode cX1_addDoor 17 = .ok (.iload 4, 2) := by decide +kernel
theorem dX1_addDoor_19 : decode cX1_addDoor 19 = .ok (.aaload, 1) := by decide +kernel
theorem dX1_addDoor_20 : decode cX1_addDoor 20 = .ok (.iload_n 1, 1) := by decide +kernel
theorem dX1_addDoor_21 : decode cX1_addDoor 21 = .ok (.putfield 42, 3) := by decide +kernel
theorem dX1_addDoor_24 : decode cX1_addDoor 24 = .ok (.aload_n 0, 1) := by decide +kernel
theorem dX1_addDoor_25 : decode cX1_addDoor 25 = .ok (.getfield 11, 3) := by decide +kernel
theorem dX1_addDoor_28 : decode cX1_addDoor 28 = .ok (.iload 4, 2) := by decide +kernel
theorem dX1_addDoor_30 : decode cX1_addDoor 30 = .ok (.aaload, 1) := by decide +kernel
theorem dX1_addDoor_31 : decode cX1_addDoor 31 = .ok (.iload_n 2, 1) := by decide +kernel
theorem dX1_addDoor_32 : decode cX1_addDoor 32 = .ok (.putfield 45, 3) := by decide +kernel
theorem dX1_addDoor_35 : decode cX1_addDoor 35 = .ok (.aload_n 0, 1) := by decide +kernel
theorem dX1_addDoor_36 : decode cX1_addDoor 36 = .ok (.getfield 11, 3) := by decide +kernel
theorem dX1_addDoor_39 : decode cX1_addDoor 39 = .ok (.iload 4, 2) := by decide +kernel
theorem dX1_addDoor_41 : decode cX1_addDoor 41 = .ok (.aaload, 1) := by decide +kernel
theorem dX1_addDoor_42 : decode cX1_addDoor 42 = .ok (.iload_n 3, 1) := by decide +kernel
theorem dX1_addDoor_43 : decode cX1_addDoor 43 = .ok (.putfield 48, 3) := by decide +kernel
theorem dX1_addDoor_46 : decode cX1_addDoor 46 = .ok (.aload_n 0, 1) := by decide +kernel
theorem dX1_addDoor_47 : decode cX1_addDoor 47 = .ok (.dup, 1) := by decide +kernel
theorem dX1_addDoor_48 : decode cX1_addDoor 48 = .ok (.getfield 32, 3) := by decide +kernel
theorem dX1_addDoor_51 : decode cX1_addDoor 51 = .ok (.iconst 1, 1) := by decide +kernel
theorem dX1_addDoor_52 : decode cX1_addDoor 52 = .ok (.iadd, 1) := by decide +kernel
theorem dX1_addDoor_53 : decode cX1_addDoor 53 = .ok (.putfield 32, 3) := by decide +kernel
theorem dX1_addDoor_56 : decode cX1_addDoor 56 = .ok (.iload 4, 2) := by decide +kernel
theorem dX1_addDoor_58 : decode cX1_addDoor 58 = .ok (.ireturn, 1) := by decide +kernel
set_option maxRecDepth 20000 in
theorem ggX1_hearToken_X1_isDoor : GoodIn wsX1_hearToken wsX1_isDoor := goodIn_r _ [8, 9, 43, 44, 45, 46, 47] (by decide +kernel) (by decide +kernel)
set_option maxRecDepth 20000 in
theorem gX1_hearToken_X1_isDoor : GoodIn wsX1_hearToken (wsV RX1 51 RX1 yX1_isDoor wsX1_isDoor) := goodIn_app (goodIn_of _ (by decide +kernel)) ggX1_hearToken_X1_isDoor
set_option maxRecDepth 20000 in
theorem ggX1_hearToken_X0_bar : GoodIn wsX1_hearToken wsX0_bar := goodIn_r _ [14, 15, 16, 17, 48, 49, 50, 51, 52, 53, 54, 55, 56, 57, 58, 59, 60, 61] (by decide +kernel) (by decide +kernel)
set_option maxRecDepth 20000 in
theorem gX1_hearToken_X0_bar : GoodIn wsX1_hearToken (wsV RX1 58 RX0 yX0_bar wsX0_bar) := goodIn_app (goodIn_of _ (by decide +kernel)) ggX1_hearToken_X0_bar
set_option maxRecDepth 20000 in
theorem ggX1_hearToken_X1_wake : GoodIn wsX1_hearToken wsX1_wake := goodIn_r _ [21, 1, 22, 23, 24, 25, 26, 27, 28, 13, 29, 15, 30, 16, 31, 32, 33, 34, 35, 36, 37, 38, 39, 40, 41, 42, 43, 44, 45, 46, 47, 48, 49, 50, 51, 52, 53, 54, 55, 56, 57, 58, 59, 60, 61, 62, 63, 64, 65, 66, 67, 68] (by decide +kernel) (by decide +kernel)
set_option maxRecDepth 20000 in
theorem gX1_hearToken_X1_wake : GoodIn wsX1_hearToken (wsV RX1 61 RX1 yX1_wake wsX1_wake) := goodIn_app (goodIn_of _ (by decide +kernel)) ggX1_hearToken_X1_wake
theorem dX1_hearToken_0 : decode cX1_hearToken 0 = .ok (.aload_n 0, 1) := by decide +kernel
theorem dX1_hearToken_1 : decode cX1_hearToken 1 = .ok (.iload_n 1, 1) := by decide +kernel
theorem dX1_hearToken_2 : decode cX1_hearToken 2 = .ok (.invokevirtual 51, 3) := by decide +kernel
theorem dX1_hearToken_5 : decode cX1_hearToken 5 = .ok (.ifCond .eq 15, 3) := by decide +kernel
theorem dX1_hearToken_8 : decode cX1_hearToken 8 = .ok (.aload_n 0, 1) := by decide +kernel
theorem dX1_hearToken_9 : decode cX1_hearToken 9 = .ok (.getfield 11, 3) := by decide +kernel
theorem dX1_hearToken_12 : decode cX1_hearToken 12 = .ok (.iload_n 1, 1) := by decide +kernel
theorem dX1_hearToken_13 : decode cX1_hearToken 13 = .ok (.aaload, 1) := by decide +kernel
theorem dX1_hearToken_14 : decode cX1_hearToken 14 = .ok (.getfield 55, 3) := by decide +kernel
theorem dX1_hearToken_17 : decode cX1_hearToken 17 = .ok (.ifCond .eq 5, 3) := by decide +kernel
theorem dX1_hearToken_20 : decode cX1_hearToken 20 = .ok (.iconst 0, 1) := by decide +kernel
theorem dX1_hearToken_21 : decode cX1_hearToken 21 = .ok (.ireturn, 1) := by decide +kernel
theorem dX1_hearToken_22 : decode cX1_hearToken 22 = .ok (.iload_n 2, 1) := by decide +kernel
theorem dX1_hearToken_23 : decode cX1_hearToken 23 = .ok (.aload_n 0, 1) := by decide +kernel
theorem dX1_hearToken_24 : decode cX1_hearToken 24 = .ok (.getfield 11, 3) := by decide +kernel
theorem dX1_hearToken_27 : decode cX1_hearToken 27 = .ok (.iload_n 1, 1) := by decide +kernel
theorem dX1_hearToken_28 : decode cX1_hearToken 28 = .ok (.aaload, 1) := by decide +kernel
theorem dX1_hearToken_29 : decode cX1_hearToken 29 = .ok (.getfield 42, 3) := by decide +kernel
theorem dX1_hearToken_32 : decode cX1_hearToken 32 = .ok (.if_icmp .eq 14, 3) := by decide +kernel
theorem dX1_hearToken_35 : decode cX1_hearToken 35 = .ok (.aload_n 0, 1) := by decide +kernel
theorem dX1_hearToken_36 : decode cX1_hearToken 36 = .ok (.getfield 11, 3) := by decide +kernel
theorem dX1_hearToken_39 : decode cX1_hearToken 39 = .ok (.iload_n 1, 1) := by decide +kernel
theorem dX1_hearToken_40 : decode cX1_hearToken 40 = .ok (.aaload, 1) := by decide +kernel
theorem dX1_hearToken_41 : decode cX1_hearToken 41 = .ok (.invokevirtual 58, 3) := by decide +kernel
theorem dX1_hearToken_44 : decode cX1_hearToken 44 = .ok (.iconst 0, 1) := by decide +kernel
theorem dX1_hearToken_45 : decode cX1_hearToken 45 = .ok (.ireturn, 1) := by decide +kernel
theorem dX1_hearToken_46 : decode cX1_hearToken 46 = .ok (.aload_n 0, 1) := by decide +kernel
theorem dX1_hearToken_47 : decode cX1_hearToken 47 = .ok (.iload_n 1, 1) := by decide +kernel
theorem dX1_hearToken_48 : decode cX1_hearToken 48 = .ok (.invokevirtual 61, 3) := by decide +kernel
theorem dX1_hearToken_51 : decode cX1_hearToken 51 = .ok (.iconst 1, 1) := by decide +kernel
theorem dX1_hearToken_52 : decode cX1_hearToken 52 = .ok (.ireturn, 1) := by decide +kernel
set_option maxRecDepth 20000 in
theorem ggX1_tickOn_X0_spendTime : GoodIn wsX1_tickOn wsX0_spendTime := goodIn_r _ [16, 17, 18, 130, 131, 132, 133, 134, 135, 136, 137, 138, 139, 140, 141, 142, 143] (by decide +kernel) (by decide +kernel)
set_option maxRecDepth 20000 in
theorem gX1_tickOn_X0_spendTime : GoodIn wsX1_tickOn (wsV RX1 65 RX0 yX0_spendTime wsX0_spendTime) := goodIn_app (goodIn_of _ (by decide +kernel)) ggX1_tickOn_X0_spendTime
set_option maxRecDepth 20000 in
theorem ggX1_tickOn_X2_moveOn : GoodIn wsX1_tickOn wsX2_moveOn := goodIn_r _ [23, 24, 25, 26, 27, 28, 29, 30, 31, 32, 22, 33, 34, 35, 36, 37, 38, 123, 124, 125, 126, 127, 128, 129] (by decide +kernel) (by decide +kernel)
set_option maxRecDepth 20000 in
theorem gX1_tickOn_X2_moveOn : GoodIn wsX1_tickOn (wsV RX1 68 RX2 yX2_moveOn wsX2_moveOn) := goodIn_app (goodIn_of _ (by decide +kernel)) ggX1_tickOn_X2_moveOn
set_option maxRecDepth 20000 in
theorem ggX1_tickOn_X1_hear : GoodIn wsX1_tickOn wsX1_hear := goodIn_r _ [43, 2, 10, 3, 44, 45, 46, 42, 47, 1, 48, 49, 50, 15, 51, 17, 52, 53, 54, 55, 56, 57, 58, 59, 31, 32, 22, 33, 24, 34, 26, 27, 28, 25, 29, 60, 61, 62, 63, 64, 65, 66, 67, 68, 69, 70, 71, 18, 72, 73, 74, 75, 76, 77, 78, 118, 119, 120, 121, 122, 130, 131, 132, 133, 134, 135, 136, 137, 138, 139, 140, 141, 142, 143, 123, 124, 125, 126, 127, 128, 129] (by decide +kernel) (by decide +kernel)
set_option maxRecDepth 20000 in
theorem gX1_tickOn_X1_hear : GoodIn wsX1_tickOn (wsV RX1 87 RX1 yX1_hear wsX1_hear) := goodIn_app (goodIn_of _ (by decide +kernel)) ggX1_tickOn_X1_hear
set_option maxRecDepth 20000 in
theorem ggX1_tickOn_X1_waitOn : GoodIn wsX1_tickOn wsX1_waitOn := goodIn_r _ [82, 2, 83, 10, 84, 3, 85, 86, 87, 88, 89, 15, 90, 18, 57, 91, 92, 93, 94, 52, 95, 96, 97, 98, 99, 100, 101, 102, 103, 104, 105, 106, 107, 17, 108, 109, 110, 111, 112, 113, 59, 31, 32, 22, 33, 24, 34, 26, 27, 28, 25, 29, 114, 115, 116, 117, 76, 118, 119, 120, 121, 122, 130, 131, 132, 133, 134, 135, 136, 137, 138, 139, 140, 141, 142, 143, 123, 124, 125, 126, 127, 128, 129] (by decide +kernel) (by decide +kernel)
set_option maxRecDepth 20000 in
theorem gX1_tickOn_X1_waitOn : GoodIn wsX1_tickOn (wsV RX1 91 RX1 yX1_waitOn wsX1_waitOn) := goodIn_app (goodIn_of _ (by decide +kernel)) ggX1_tickOn_X1_waitOn
theorem dX1_tickOn_0 : decode cX1_tickOn 0 = .ok (.iconst 0, 1) := by decide +kernel
theorem dX1_tickOn_1 : decode cX1_tickOn 1 = .ok (.istore_n 1, 1) := by decide +kernel
theorem dX1_tickOn_2 : decode cX1_tickOn 2 = .ok (.iload_n 1, 1) := by decide +kernel
theorem dX1_tickOn_3 : decode cX1_tickOn 3 = .ok (.aload_n 0, 1) := by decide +kernel
theorem dX1_tickOn_4 : decode cX1_tickOn 4 = .ok (.getfield 32, 3) := by decide +kernel
theorem dX1_tickOn_7 : decode cX1_tickOn 7 = .ok (.if_icmp .ge 18, 3) := by decide +kernel
theorem dX1_tickOn_10 : decode cX1_tickOn 10 = .ok (.aload_n 0, 1) := by decide +kernel
theorem dX1_tickOn_11 : decode cX1_tickOn 11 = .ok (.getfield 11, 3) := by decide +kernel
theorem dX1_tickOn_14 : decode cX1_tickOn 14 = .ok (.iload_n 1, 1) := by decide +kernel
theorem dX1_tickOn_15 : decode cX1_tickOn 15 = .ok (.aaload, 1) := by decide +kernel
theorem dX1_tickOn_16 : decode cX1_tickOn 16 = .ok (.invokevirtual 65, 3) := by decide +kernel
theorem dX1_tickOn_19 : decode cX1_tickOn 19 = .ok (.iinc 1 1, 3) := by decide +kernel
theorem dX1_tickOn_22 : decode cX1_tickOn 22 = .ok (.goto (-20), 3) := by decide +kernel
theorem dX1_tickOn_25 : decode cX1_tickOn 25 = .ok (.aload_n 0, 1) := by decide +kernel
theorem dX1_tickOn_26 : decode cX1_tickOn 26 = .ok (.getfield 20, 3) := by decide +kernel
theorem dX1_tickOn_29 : decode cX1_tickOn 29 = .ok (.aload_n 0, 1) := by decide +kernel
theorem dX1_tickOn_30 : decode cX1_tickOn 30 = .ok (.getfield 24, 3) := by decide +kernel
theorem dX1_tickOn_33 : decode cX1_tickOn 33 = .ok (.invokevirtual 68, 3) := by decide +kernel
theorem dX1_tickOn_36 : decode cX1_tickOn 36 = .ok (.iconst 0, 1) := by decide +kernel
theorem dX1_tickOn_37 : decode cX1_tickOn 37 = .ok (.istore_n 1, 1) := by decide +kernel
theorem dX1_tickOn_38 : decode cX1_tickOn 38 = .ok (.iload_n 1, 1) := by decide +kernel
theorem dX1_tickOn_39 : decode cX1_tickOn 39 = .ok (.aload_n 0, 1) := by decide +kernel
theorem dX1_tickOn_40 : decode cX1_tickOn 40 = .ok (.getfield 24, 3) := by decide +kernel
theorem dX1_tickOn_43 : decode cX1_tickOn 43 = .ok (.getfield 71, 3) := by decide +kernel
theorem dX1_tickOn_46 : decode cX1_tickOn 46 = .ok (.if_icmp .ge 49, 3) := by decide +kernel
theorem dX1_tickOn_49 : decode cX1_tickOn 49 = .ok (.aload_n 0, 1) := by decide +kernel
theorem dX1_tickOn_50 : decode cX1_tickOn 50 = .ok (.aload_n 0, 1) := by decide +kernel
theorem dX1_tickOn_51 : decode cX1_tickOn 51 = .ok (.getfield 24, 3) := by decide +kernel
theorem dX1_tickOn_54 : decode cX1_tickOn 54 = .ok (.getfield 74, 3) := by decide +kernel
theorem dX1_tickOn_57 : decode cX1_tickOn 57 = .ok (.iload_n 1, 1) := by decide +kernel
theorem dX1_tickOn_58 : decode cX1_tickOn 58 = .ok (.iaload, 1) := by decide +kernel
theorem dX1_tickOn_59 : decode cX1_tickOn 59 = .ok (.aload_n 0, 1) := by decide +kernel
theorem dX1_tickOn_60 : decode cX1_tickOn 60 = .ok (.getfield 24, 3) := by decide +kernel
theorem dX1_tickOn_63 : decode cX1_tickOn 63 = .ok (.getfield 78, 3) := by decide +kernel
theorem dX1_tickOn_66 : decode cX1_tickOn 66 = .ok (.iload_n 1, 1) := by decide +kernel
theorem dX1_tickOn_67 : decode cX1_tickOn 67 = .ok (.iaload, 1) := by decide +kernel
theorem dX1_tickOn_68 : decode cX1_tickOn 68 = .ok (.aload_n 0, 1) := by decide +kernel
theorem dX1_tickOn_69 : decode cX1_tickOn 69 = .ok (.getfield 24, 3) := by decide +kernel
theorem dX1_tickOn_72 : decode cX1_tickOn 72 = .ok (.getfield 81, 3) := by decide +kernel
theorem dX1_tickOn_75 : decode cX1_tickOn 75 = .ok (.iload_n 1, 1) := by decide +kernel
theorem dX1_tickOn_76 : decode cX1_tickOn 76 = .ok (.iaload, 1) := by decide +kernel
theorem dX1_tickOn_77 : decode cX1_tickOn 77 = .ok (.aload_n 0, 1) := by decide +kernel
theorem dX1_tickOn_78 : decode cX1_tickOn 78 = .ok (.getfield 24, 3) := by decide +kernel
theorem dX1_tickOn_81 : decode cX1_tickOn 81 = .ok (.getfield 84, 3) := by decide +kernel
theorem dX1_tickOn_84 : decode cX1_tickOn 84 = .ok (.iload_n 1, 1) := by decide +kernel
theorem dX1_tickOn_85 : decode cX1_tickOn 85 = .ok (.iaload, 1) := by decide +kernel
theorem dX1_tickOn_86 : decode cX1_tickOn 86 = .ok (.invokevirtual 87, 3) := by decide +kernel
theorem dX1_tickOn_89 : decode cX1_tickOn 89 = .ok (.iinc 1 1, 3) := by decide +kernel
theorem dX1_tickOn_92 : decode cX1_tickOn 92 = .ok (.goto (-54), 3) := by decide +kernel
theorem dX1_tickOn_95 : decode cX1_tickOn 95 = .ok (.iconst 0, 1) := by decide +kernel
theorem dX1_tickOn_96 : decode cX1_tickOn 96 = .ok (.istore_n 1, 1) := by decide +kernel
theorem dX1_tickOn_97 : decode cX1_tickOn 97 = .ok (.iconst 0, 1) := by decide +kernel
theorem dX1_tickOn_98 : decode cX1_tickOn 98 = .ok (.istore_n 2, 1) := by decide +kernel
theorem dX1_tickOn_99 : decode cX1_tickOn 99 = .ok (.iload_n 2, 1) := by decide +kernel
theorem dX1_tickOn_100 : decode cX1_tickOn 100 = .ok (.aload_n 0, 1) := by decide +kernel
theorem dX1_tickOn_101 : decode cX1_tickOn 101 = .ok (.getfield 32, 3) := by decide +kernel
theorem dX1_tickOn_104 : decode cX1_tickOn 104 = .ok (.if_icmp .ge 33, 3) := by decide +kernel
theorem dX1_tickOn_107 : decode cX1_tickOn 107 = .ok (.aload_n 0, 1) := by decide +kernel
theorem dX1_tickOn_108 : decode cX1_tickOn 108 = .ok (.getfield 11, 3) := by decide +kernel
theorem dX1_tickOn_111 : decode cX1_tickOn 111 = .ok (.iload_n 2, 1) := by decide +kernel
theorem dX1_tickOn_112 : decode cX1_tickOn 112 = .ok (.aaload, 1) := by decide +kernel
theorem dX1_tickOn_113 : decode cX1_tickOn 113 = .ok (.getfield 55, 3) := by decide +kernel
theorem dX1_tickOn_116 : decode cX1_tickOn 116 = .ok (.iconst 1, 1) := by decide +kernel
theorem dX1_tickOn_117 : decode cX1_tickOn 117 = .ok (.if_icmp .ne 14, 3) := by decide +kernel
theorem dX1_tickOn_120 : decode cX1_tickOn 120 = .ok (.aload_n 0, 1) := by decide +kernel
theorem dX1_tickOn_121 : decode cX1_tickOn 121 = .ok (.iload_n 2, 1) := by decide +kernel
theorem dX1_tickOn_122 : decode cX1_tickOn 122 = .ok (.invokevirtual 91, 3) := by decide +kernel
theorem dX1_tickOn_125 : decode cX1_tickOn 125 = .ok (.ifCond .eq 6, 3) := by decide +kernel
theorem dX1_tickOn_128 : decode cX1_tickOn 128 = .ok (.iinc 1 1, 3) := by decide +kernel
theorem dX1_tickOn_131 : decode cX1_tickOn 131 = .ok (.iinc 2 1, 3) := by decide +kernel
theorem dX1_tickOn_134 : decode cX1_tickOn 134 = .ok (.goto (-35), 3) := by decide +kernel
theorem dX1_tickOn_137 : decode cX1_tickOn 137 = .ok (.aload_n 0, 1) := by decide +kernel
theorem dX1_tickOn_138 : decode cX1_tickOn 138 = .ok (.dup, 1) := by decide +kernel
theorem dX1_tickOn_139 : decode cX1_tickOn 139 = .ok (.getfield 28, 3) := by decide +kernel
theorem dX1_tickOn_142 : decode cX1_tickOn 142 = .ok (.iconst 1, 1) := by decide +kernel
theorem dX1_tickOn_143 : decode cX1_tickOn 143 = .ok (.iadd, 1) := by decide +kernel
theorem dX1_tickOn_144 : decode cX1_tickOn 144 = .ok (.putfield 28, 3) := by decide +kernel
theorem dX1_tickOn_147 : decode cX1_tickOn 147 = .ok (.iload_n 1, 1) := by decide +kernel
theorem dX1_tickOn_148 : decode cX1_tickOn 148 = .ok (.ireturn, 1) := by decide +kernel
set_option maxRecDepth 20000 in
theorem ggX1_hear_X1_isDoor : GoodIn wsX1_hear wsX1_isDoor := goodIn_r _ [8, 9, 55, 56, 57, 58, 59] (by decide +kernel) (by decide +kernel)
set_option maxRecDepth 20000 in
theorem gX1_hear_X1_isDoor : GoodIn wsX1_hear (wsV RX1 51 RX1 yX1_isDoor wsX1_isDoor) := goodIn_app (goodIn_of _ (by decide +kernel)) ggX1_hear_X1_isDoor
set_option maxRecDepth 20000 in
theorem ggX1_hear_X0_takeAnswer : GoodIn wsX1_hear wsX0_takeAnswer := goodIn_r _ [14, 15, 16, 17, 18, 19, 13, 20, 21, 22, 60, 61, 62, 63, 64, 65, 66, 67, 68, 69, 70, 71, 72, 73] (by decide +kernel) (by decide +kernel)
set_option maxRecDepth 20000 in
theorem gX1_hear_X0_takeAnswer : GoodIn wsX1_hear (wsV RX1 94 RX0 yX0_takeAnswer wsX0_takeAnswer) := goodIn_app (goodIn_of _ (by decide +kernel)) ggX1_hear_X0_takeAnswer
set_option maxRecDepth 20000 in
theorem ggX1_hear_X2_add : GoodIn wsX1_hear wsX2_add := goodIn_r _ [27, 28, 29, 30, 31, 32, 33, 34, 74, 75, 76, 77, 78, 79, 80] (by decide +kernel) (by decide +kernel)
set_option maxRecDepth 20000 in
theorem gX1_hear_X2_add : GoodIn wsX1_hear (wsV RX1 98 RX2 yX2_add wsX2_add) := goodIn_app (goodIn_of _ (by decide +kernel)) ggX1_hear_X2_add
set_option maxRecDepth 20000 in
theorem ggX1_hear_X1_wake : GoodIn wsX1_hear wsX1_wake := goodIn_r _ [38, 1, 39, 3, 40, 41, 42, 43, 44, 13, 45, 15, 46, 47, 23, 24, 25, 26, 27, 28, 29, 30, 31, 32, 33, 34, 55, 56, 57, 58, 59, 60, 61, 62, 63, 64, 65, 66, 67, 68, 69, 70, 71, 72, 73, 74, 75, 76, 77, 78, 79, 80] (by decide +kernel) (by decide +kernel)
set_option maxRecDepth 20000 in
theorem gX1_hear_X1_wake : GoodIn wsX1_hear (wsV RX1 61 RX1 yX1_wake wsX1_wake) := goodIn_app (goodIn_of _ (by decide +kernel)) ggX1_hear_X1_wake
set_option maxRecDepth 20000 in
theorem ggX1_hear_X0_remember : GoodIn wsX1_hear wsX0_remember := goodIn_r _ [51, 52, 53, 54, 60, 61, 62, 63, 64, 65, 66, 67, 68, 69, 70, 71, 72, 73] (by decide +kernel) (by decide +kernel)
set_option maxRecDepth 20000 in
theorem gX1_hear_X0_remember : GoodIn wsX1_hear (wsV RX1 101 RX0 yX0_remember wsX0_remember) := goodIn_app (goodIn_of _ (by decide +kernel)) ggX1_hear_X0_remember
theorem dX1_hear_0 : decode cX1_hear 0 = .ok (.aload_n 0, 1) := by decide +kernel
theorem dX1_hear_1 : decode cX1_hear 1 = .ok (.iload_n 2, 1) := by decide +kernel
theorem dX1_hear_2 : decode cX1_hear 2 = .ok (.invokevirtual 51, 3) := by decide +kernel
theorem dX1_hear_5 : decode cX1_hear 5 = .ok (.ifCond .ne 4, 3) := by decide +kernel
theorem dX1_hear_8 : decode cX1_hear 8 = .ok (.return_, 1) := by decide +kernel
theorem dX1_hear_9 : decode cX1_hear 9 = .ok (.aload_n 0, 1) := by decide +kernel
theorem dX1_hear_10 : decode cX1_hear 10 = .ok (.getfield 11, 3) := by decide +kernel
theorem dX1_hear_13 : decode cX1_hear 13 = .ok (.iload_n 2, 1) := by decide +kernel
theorem dX1_hear_14 : decode cX1_hear 14 = .ok (.aaload, 1) := by decide +kernel
theorem dX1_hear_15 : decode cX1_hear 15 = .ok (.astore 5, 2) := by decide +kernel
theorem dX1_hear_17 : decode cX1_hear 17 = .ok (.iload_n 3, 1) := by decide +kernel
theorem dX1_hear_18 : decode cX1_hear 18 = .ok (.ifCond .eq 22, 3) := by decide +kernel
theorem dX1_hear_21 : decode cX1_hear 21 = .ok (.aload 5, 2) := by decide +kernel
theorem dX1_hear_23 : decode cX1_hear 23 = .ok (.iload_n 1, 1) := by decide +kernel
theorem dX1_hear_24 : decode cX1_hear 24 = .ok (.iload_n 3, 1) := by decide +kernel
theorem dX1_hear_25 : decode cX1_hear 25 = .ok (.iconst 2, 1) := by decide +kernel
theorem dX1_hear_26 : decode cX1_hear 26 = .ok (.if_icmp .ne 7, 3) := by decide +kernel
theorem dX1_hear_29 : decode cX1_hear 29 = .ok (.iconst 1, 1) := by decide +kernel
theorem dX1_hear_30 : decode cX1_hear 30 = .ok (.goto 4, 3) := by decide +kernel
theorem dX1_hear_33 : decode cX1_hear 33 = .ok (.iconst 0, 1) := by decide +kernel
theorem dX1_hear_34 : decode cX1_hear 34 = .ok (.invokevirtual 94, 3) := by decide +kernel
theorem dX1_hear_37 : decode cX1_hear 37 = .ok (.goto 72, 3) := by decide +kernel
theorem dX1_hear_40 : decode cX1_hear 40 = .ok (.aload 5, 2) := by decide +kernel
theorem dX1_hear_42 : decode cX1_hear 42 = .ok (.getfield 55, 3) := by decide +kernel
theorem dX1_hear_45 : decode cX1_hear 45 = .ok (.iconst 2, 1) := by decide +kernel
theorem dX1_hear_46 : decode cX1_hear 46 = .ok (.if_icmp .ne 18, 3) := by decide +kernel
theorem dX1_hear_49 : decode cX1_hear 49 = .ok (.aload_n 0, 1) := by decide +kernel
theorem dX1_hear_50 : decode cX1_hear 50 = .ok (.getfield 20, 3) := by decide +kernel
theorem dX1_hear_53 : decode cX1_hear 53 = .ok (.iload_n 2, 1) := by decide +kernel
theorem dX1_hear_54 : decode cX1_hear 54 = .ok (.iload_n 1, 1) := by decide +kernel
theorem dX1_hear_55 : decode cX1_hear 55 = .ok (.iconst 2, 1) := by decide +kernel
theorem dX1_hear_56 : decode cX1_hear 56 = .ok (.iload 4, 2) := by decide +kernel
theorem dX1_hear_58 : decode cX1_hear 58 = .ok (.invokevirtual 98, 3) := by decide +kernel
theorem dX1_hear_61 : decode cX1_hear 61 = .ok (.goto 48, 3) := by decide +kernel
theorem dX1_hear_64 : decode cX1_hear 64 = .ok (.aload 5, 2) := by decide +kernel
theorem dX1_hear_66 : decode cX1_hear 66 = .ok (.getfield 55, 3) := by decide +kernel
theorem dX1_hear_69 : decode cX1_hear 69 = .ok (.iconst 3, 1) := by decide +kernel
theorem dX1_hear_70 : decode cX1_hear 70 = .ok (.if_icmp .ne 18, 3) := by decide +kernel
theorem dX1_hear_73 : decode cX1_hear 73 = .ok (.aload_n 0, 1) := by decide +kernel
theorem dX1_hear_74 : decode cX1_hear 74 = .ok (.getfield 20, 3) := by decide +kernel
theorem dX1_hear_77 : decode cX1_hear 77 = .ok (.iload_n 2, 1) := by decide +kernel
theorem dX1_hear_78 : decode cX1_hear 78 = .ok (.iload_n 1, 1) := by decide +kernel
theorem dX1_hear_79 : decode cX1_hear 79 = .ok (.iconst 1, 1) := by decide +kernel
theorem dX1_hear_80 : decode cX1_hear 80 = .ok (.iload 4, 2) := by decide +kernel
theorem dX1_hear_82 : decode cX1_hear 82 = .ok (.invokevirtual 98, 3) := by decide +kernel
theorem dX1_hear_85 : decode cX1_hear 85 = .ok (.goto 24, 3) := by decide +kernel
theorem dX1_hear_88 : decode cX1_hear 88 = .ok (.aload 5, 2) := by decide +kernel
theorem dX1_hear_90 : decode cX1_hear 90 = .ok (.getfield 55, 3) := by decide +kernel
theorem dX1_hear_93 : decode cX1_hear 93 = .ok (.ifCond .ne 8, 3) := by decide +kernel
theorem dX1_hear_96 : decode cX1_hear 96 = .ok (.aload_n 0, 1) := by decide +kernel
theorem dX1_hear_97 : decode cX1_hear 97 = .ok (.iload_n 2, 1) := by decide +kernel
theorem dX1_hear_98 : decode cX1_hear 98 = .ok (.invokevirtual 61, 3) := by decide +kernel
theorem dX1_hear_101 : decode cX1_hear 101 = .ok (.aload 5, 2) := by decide +kernel
theorem dX1_hear_103 : decode cX1_hear 103 = .ok (.iload_n 1, 1) := by decide +kernel
theorem dX1_hear_104 : decode cX1_hear 104 = .ok (.iload 4, 2) := by decide +kernel
theorem dX1_hear_106 : decode cX1_hear 106 = .ok (.invokevirtual 101, 3) := by decide +kernel
theorem dX1_hear_109 : decode cX1_hear 109 = .ok (.return_, 1) := by decide +kernel
set_option maxRecDepth 20000 in
theorem ggX1_wake_X0_startWaiting : GoodIn wsX1_wake wsX0_startWaiting := goodIn_r _ [10, 11, 12, 13, 31, 32, 33, 34, 35, 36, 37, 38, 39, 40, 41, 42, 43, 44] (by decide +kernel) (by decide +kernel)
set_option maxRecDepth 20000 in
theorem gX1_wake_X0_startWaiting : GoodIn wsX1_wake (wsV RX1 104 RX0 yX0_startWaiting wsX0_startWaiting) := goodIn_app (goodIn_of _ (by decide +kernel)) ggX1_wake_X0_startWaiting
set_option maxRecDepth 20000 in
theorem ggX1_wake_X2_add : GoodIn wsX1_wake wsX2_add := goodIn_r _ [18, 19, 20, 21, 22, 23, 24, 25, 45, 46, 47, 48, 49, 50, 51] (by decide +kernel) (by decide +kernel)
set_option maxRecDepth 20000 in
theorem gX1_wake_X2_add : GoodIn wsX1_wake (wsV RX1 98 RX2 yX2_add wsX2_add) := goodIn_app (goodIn_of _ (by decide +kernel)) ggX1_wake_X2_add
theorem dX1_wake_0 : decode cX1_wake 0 = .ok (.aload_n 0, 1) := by decide +kernel
theorem dX1_wake_1 : decode cX1_wake 1 = .ok (.getfield 11, 3) := by decide +kernel
theorem dX1_wake_4 : decode cX1_wake 4 = .ok (.iload_n 1, 1) := by decide +kernel
theorem dX1_wake_5 : decode cX1_wake 5 = .ok (.aaload, 1) := by decide +kernel
theorem dX1_wake_6 : decode cX1_wake 6 = .ok (.astore_n 2, 1) := by decide +kernel
theorem dX1_wake_7 : decode cX1_wake 7 = .ok (.aload_n 2, 1) := by decide +kernel
theorem dX1_wake_8 : decode cX1_wake 8 = .ok (.invokevirtual 104, 3) := by decide +kernel
theorem dX1_wake_11 : decode cX1_wake 11 = .ok (.iconst 0, 1) := by decide +kernel
theorem dX1_wake_12 : decode cX1_wake 12 = .ok (.istore_n 3, 1) := by decide +kernel
theorem dX1_wake_13 : decode cX1_wake 13 = .ok (.iload_n 3, 1) := by decide +kernel
theorem dX1_wake_14 : decode cX1_wake 14 = .ok (.aload_n 2, 1) := by decide +kernel
theorem dX1_wake_15 : decode cX1_wake 15 = .ok (.getfield 107, 3) := by decide +kernel
theorem dX1_wake_18 : decode cX1_wake 18 = .ok (.if_icmp .ge 30, 3) := by decide +kernel
theorem dX1_wake_21 : decode cX1_wake 21 = .ok (.aload_n 0, 1) := by decide +kernel
theorem dX1_wake_22 : decode cX1_wake 22 = .ok (.getfield 20, 3) := by decide +kernel
theorem dX1_wake_25 : decode cX1_wake 25 = .ok (.iload_n 1, 1) := by decide +kernel
theorem dX1_wake_26 : decode cX1_wake 26 = .ok (.aload_n 2, 1) := by decide +kernel
theorem dX1_wake_27 : decode cX1_wake 27 = .ok (.getfield 110, 3) := by decide +kernel
theorem dX1_wake_30 : decode cX1_wake 30 = .ok (.iload_n 3, 1) := by decide +kernel
theorem dX1_wake_31 : decode cX1_wake 31 = .ok (.iaload, 1) := by decide +kernel
theorem dX1_wake_32 : decode cX1_wake 32 = .ok (.iconst 0, 1) := by decide +kernel
theorem dX1_wake_33 : decode cX1_wake 33 = .ok (.aload_n 2, 1) := by decide +kernel
theorem dX1_wake_34 : decode cX1_wake 34 = .ok (.getfield 113, 3) := by decide +kernel
theorem dX1_wake_37 : decode cX1_wake 37 = .ok (.iload_n 3, 1) := by decide +kernel
theorem dX1_wake_38 : decode cX1_wake 38 = .ok (.iaload, 1) := by decide +kernel
theorem dX1_wake_39 : decode cX1_wake 39 = .ok (.invokevirtual 98, 3) := by decide +kernel
theorem dX1_wake_42 : decode cX1_wake 42 = .ok (.iinc 3 1, 3) := by decide +kernel
theorem dX1_wake_45 : decode cX1_wake 45 = .ok (.goto (-32), 3) := by decide +kernel
theorem dX1_wake_48 : decode cX1_wake 48 = .ok (.return_, 1) := by decide +kernel
set_option maxRecDepth 20000 in
theorem ggX1_waitOn_X0_isReadyToDecide : GoodIn wsX1_waitOn wsX0_isReadyToDecide := goodIn_r _ [12, 13, 14, 15, 16, 17, 11, 18, 19, 62, 63, 64, 65, 66, 67, 68, 69, 70, 71, 72, 73, 74, 75] (by decide +kernel) (by decide +kernel)
set_option maxRecDepth 20000 in
theorem gX1_waitOn_X0_isReadyToDecide : GoodIn wsX1_waitOn (wsV RX1 117 RX0 yX0_isReadyToDecide wsX0_isReadyToDecide) := goodIn_app (goodIn_of _ (by decide +kernel)) ggX1_waitOn_X0_isReadyToDecide
set_option maxRecDepth 20000 in
theorem ggX1_waitOn_X0_decide : GoodIn wsX1_waitOn wsX0_decide := goodIn_r _ [23, 15, 16, 17, 11, 18, 14, 19, 24, 25, 26, 27, 28, 29, 30, 31, 32, 33, 13, 34, 35, 36, 37, 38, 39, 62, 63, 64, 65, 66, 67, 68, 69, 70, 71, 72, 73, 74, 75] (by decide +kernel) (by decide +kernel)
set_option maxRecDepth 20000 in
theorem gX1_waitOn_X0_decide : GoodIn wsX1_waitOn (wsV RX1 121 RX0 yX0_decide wsX0_decide) := goodIn_app (goodIn_of _ (by decide +kernel)) ggX1_waitOn_X0_decide
set_option maxRecDepth 20000 in
theorem ggX1_waitOn_X2_add : GoodIn wsX1_waitOn wsX2_add := goodIn_r _ [44, 45, 46, 47, 48, 49, 50, 51, 76, 77, 78, 79, 80, 81, 82] (by decide +kernel) (by decide +kernel)
set_option maxRecDepth 20000 in
theorem gX1_waitOn_X2_add : GoodIn wsX1_waitOn (wsV RX1 98 RX2 yX2_add wsX2_add) := goodIn_app (goodIn_of _ (by decide +kernel)) ggX1_waitOn_X2_add
set_option maxRecDepth 20000 in
theorem ggX1_waitOn_X0_forget : GoodIn wsX1_waitOn wsX0_forget := goodIn_r _ [55, 56, 14, 19, 62, 63, 64, 65, 66, 67, 68, 69, 70, 71, 72, 73, 74, 75] (by decide +kernel) (by decide +kernel)
set_option maxRecDepth 20000 in
theorem gX1_waitOn_X0_forget : GoodIn wsX1_waitOn (wsV RX1 133 RX0 yX0_forget wsX0_forget) := goodIn_app (goodIn_of _ (by decide +kernel)) ggX1_waitOn_X0_forget
theorem dX1_waitOn_0 : decode cX1_waitOn 0 = .ok (.aload_n 0, 1) := by decide +kernel
theorem dX1_waitOn_1 : decode cX1_waitOn 1 = .ok (.getfield 11, 3) := by decide +kernel
theorem dX1_waitOn_4 : decode cX1_waitOn 4 = .ok (.iload_n 1, 1) := by decide +kernel
theorem dX1_waitOn_5 : decode cX1_waitOn 5 = .ok (.aaload, 1) := by decide +kernel
theorem dX1_waitOn_6 : decode cX1_waitOn 6 = .ok (.astore_n 2, 1) := by decide +kernel
theorem dX1_waitOn_7 : decode cX1_waitOn 7 = .ok (.aload_n 2, 1) := by decide +kernel
theorem dX1_waitOn_8 : decode cX1_waitOn 8 = .ok (.dup, 1) := by decide +kernel
theorem dX1_waitOn_9 : decode cX1_waitOn 9 = .ok (.getfield 114, 3) := by decide +kernel
theorem dX1_waitOn_12 : decode cX1_waitOn 12 = .ok (.iconst 1, 1) := by decide +kernel
theorem dX1_waitOn_13 : decode cX1_waitOn 13 = .ok (.isub, 1) := by decide +kernel
theorem dX1_waitOn_14 : decode cX1_waitOn 14 = .ok (.putfield 114, 3) := by decide +kernel
theorem dX1_waitOn_17 : decode cX1_waitOn 17 = .ok (.aload_n 2, 1) := by decide +kernel
theorem dX1_waitOn_18 : decode cX1_waitOn 18 = .ok (.invokevirtual 117, 3) := by decide +kernel
theorem dX1_waitOn_21 : decode cX1_waitOn 21 = .ok (.ifCond .ne 5, 3) := by decide +kernel
theorem dX1_waitOn_24 : decode cX1_waitOn 24 = .ok (.iconst 0, 1) := by decide +kernel
theorem dX1_waitOn_25 : decode cX1_waitOn 25 = .ok (.ireturn, 1) := by decide +kernel
theorem dX1_waitOn_26 : decode cX1_waitOn 26 = .ok (.aload_n 2, 1) := by decide +kernel
theorem dX1_waitOn_27 : decode cX1_waitOn 27 = .ok (.invokevirtual 121, 3) := by decide +kernel
theorem dX1_waitOn_30 : decode cX1_waitOn 30 = .ok (.aload_n 2, 1) := by decide +kernel
theorem dX1_waitOn_31 : decode cX1_waitOn 31 = .ok (.getfield 55, 3) := by decide +kernel
theorem dX1_waitOn_34 : decode cX1_waitOn 34 = .ok (.iconst 2, 1) := by decide +kernel
theorem dX1_waitOn_35 : decode cX1_waitOn 35 = .ok (.if_icmp .ne 7, 3) := by decide +kernel
theorem dX1_waitOn_38 : decode cX1_waitOn 38 = .ok (.iconst 1, 1) := by decide +kernel
theorem dX1_waitOn_39 : decode cX1_waitOn 39 = .ok (.goto 4, 3) := by decide +kernel
theorem dX1_waitOn_42 : decode cX1_waitOn 42 = .ok (.iconst 0, 1) := by decide +kernel
theorem dX1_waitOn_43 : decode cX1_waitOn 43 = .ok (.istore_n 3, 1) := by decide +kernel
theorem dX1_waitOn_44 : decode cX1_waitOn 44 = .ok (.iconst 0, 1) := by decide +kernel
theorem dX1_waitOn_45 : decode cX1_waitOn 45 = .ok (.istore 4, 2) := by decide +kernel
theorem dX1_waitOn_47 : decode cX1_waitOn 47 = .ok (.iload 4, 2) := by decide +kernel
theorem dX1_waitOn_49 : decode cX1_waitOn 49 = .ok (.aload_n 2, 1) := by decide +kernel
theorem dX1_waitOn_50 : decode cX1_waitOn 50 = .ok (.getfield 124, 3) := by decide +kernel
theorem dX1_waitOn_53 : decode cX1_waitOn 53 = .ok (.if_icmp .ge 40, 3) := by decide +kernel
theorem dX1_waitOn_56 : decode cX1_waitOn 56 = .ok (.aload_n 0, 1) := by decide +kernel
theorem dX1_waitOn_57 : decode cX1_waitOn 57 = .ok (.getfield 20, 3) := by decide +kernel
theorem dX1_waitOn_60 : decode cX1_waitOn 60 = .ok (.iload_n 1, 1) := by decide +kernel
theorem dX1_waitOn_61 : decode cX1_waitOn 61 = .ok (.aload_n 2, 1) := by decide +kernel
theorem dX1_waitOn_62 : decode cX1_waitOn 62 = .ok (.getfield 127, 3) := by decide +kernel
theorem dX1_waitOn_65 : decode cX1_waitOn 65 = .ok (.iload 4, 2) := by decide +kernel
theorem dX1_waitOn_67 : decode cX1_waitOn 67 = .ok (.iaload, 1) := by decide +kernel
theorem dX1_waitOn_68 : decode cX1_waitOn 68 = .ok (.iload_n 3, 1) := by decide +kernel
theorem dX1_waitOn_69 : decode cX1_waitOn 69 = .ok (.ifCond .eq 7, 3) := by decide +kernel
theorem dX1_waitOn_72 : decode cX1_waitOn 72 = .ok (.iconst 2, 1) := by decide +kernel
theorem dX1_waitOn_73 : decode cX1_waitOn 73 = .ok (.goto 4, 3) := by decide +kernel
theorem dX1_waitOn_76 : decode cX1_waitOn 76 = .ok (.iconst 1, 1) := by decide +kernel
theorem dX1_waitOn_77 : decode cX1_waitOn 77 = .ok (.aload_n 2, 1) := by decide +kernel
theorem dX1_waitOn_78 : decode cX1_waitOn 78 = .ok (.getfield 130, 3) := by decide +kernel
theorem dX1_waitOn_81 : decode cX1_waitOn 81 = .ok (.iload 4, 2) := by decide +kernel
theorem dX1_waitOn_83 : decode cX1_waitOn 83 = .ok (.iaload, 1) := by decide +kernel
theorem dX1_waitOn_84 : decode cX1_waitOn 84 = .ok (.invokevirtual 98, 3) := by decide +kernel
theorem dX1_waitOn_87 : decode cX1_waitOn 87 = .ok (.iinc 4 1, 3) := by decide +kernel
theorem dX1_waitOn_90 : decode cX1_waitOn 90 = .ok (.goto (-43), 3) := by decide +kernel
theorem dX1_waitOn_93 : decode cX1_waitOn 93 = .ok (.aload_n 2, 1) := by decide +kernel
theorem dX1_waitOn_94 : decode cX1_waitOn 94 = .ok (.invokevirtual 133, 3) := by decide +kernel
theorem dX1_waitOn_97 : decode cX1_waitOn 97 = .ok (.iload_n 3, 1) := by decide +kernel
theorem dX1_waitOn_98 : decode cX1_waitOn 98 = .ok (.ireturn, 1) := by decide +kernel
theorem dX1_openDoors_0 : decode cX1_openDoors 0 = .ok (.iconst 0, 1) := by decide +kernel
theorem dX1_openDoors_1 : decode cX1_openDoors 1 = .ok (.istore_n 1, 1) := by decide +kernel
theorem dX1_openDoors_2 : decode cX1_openDoors 2 = .ok (.iconst 0, 1) := by decide +kernel
theorem dX1_openDoors_3 : decode cX1_openDoors 3 = .ok (.istore_n 2, 1) := by decide +kernel
theorem dX1_openDoors_4 : decode cX1_openDoors 4 = .ok (.iload_n 2, 1) := by decide +kernel
theorem dX1_openDoors_5 : decode cX1_openDoors 5 = .ok (.aload_n 0, 1) := by decide +kernel
theorem dX1_openDoors_6 : decode cX1_openDoors 6 = .ok (.getfield 32, 3) := by decide +kernel
theorem dX1_openDoors_9 : decode cX1_openDoors 9 = .ok (.if_icmp .ge 28, 3) := by decide +kernel
theorem dX1_openDoors_12 : decode cX1_openDoors 12 = .ok (.aload_n 0, 1) := by decide +kernel
theorem dX1_openDoors_13 : decode cX1_openDoors 13 = .ok (.getfield 11, 3) := by decide +kernel
theorem dX1_openDoors_16 : decode cX1_openDoors 16 = .ok (.iload_n 2, 1) := by decide +kernel
theorem dX1_openDoors_17 : decode cX1_openDoors 17 = .ok (.aaload, 1) := by decide +kernel
theorem dX1_openDoors_18 : decode cX1_openDoors 18 = .ok (.getfield 55, 3) := by decide +kernel
theorem dX1_openDoors_21 : decode cX1_openDoors 21 = .ok (.iconst 2, 1) := by decide +kernel
theorem dX1_openDoors_22 : decode cX1_openDoors 22 = .ok (.if_icmp .ne 9, 3) := by decide +kernel
theorem dX1_openDoors_25 : decode cX1_openDoors 25 = .ok (.iload_n 1, 1) := by decide +kernel
theorem dX1_openDoors_26 : decode cX1_openDoors 26 = .ok (.iconst 1, 1) := by decide +kernel
theorem dX1_openDoors_27 : decode cX1_openDoors 27 = .ok (.iload_n 2, 1) := by decide +kernel
theorem dX1_openDoors_28 : decode cX1_openDoors 28 = .ok (.ishl, 1) := by decide +kernel
theorem dX1_openDoors_29 : decode cX1_openDoors 29 = .ok (.ior, 1) := by decide +kernel
theorem dX1_openDoors_30 : decode cX1_openDoors 30 = .ok (.istore_n 1, 1) := by decide +kernel
theorem dX1_openDoors_31 : decode cX1_openDoors 31 = .ok (.iinc 2 1, 3) := by decide +kernel
theorem dX1_openDoors_34 : decode cX1_openDoors 34 = .ok (.goto (-30), 3) := by decide +kernel
theorem dX1_openDoors_37 : decode cX1_openDoors 37 = .ok (.iload_n 1, 1) := by decide +kernel
theorem dX1_openDoors_38 : decode cX1_openDoors 38 = .ok (.ireturn, 1) := by decide +kernel
theorem dX1_doorsThat_0 : decode cX1_doorsThat 0 = .ok (.iconst 0, 1) := by decide +kernel
theorem dX1_doorsThat_1 : decode cX1_doorsThat 1 = .ok (.istore_n 2, 1) := by decide +kernel
theorem dX1_doorsThat_2 : decode cX1_doorsThat 2 = .ok (.iconst 0, 1) := by decide +kernel
theorem dX1_doorsThat_3 : decode cX1_doorsThat 3 = .ok (.istore_n 3, 1) := by decide +kernel
theorem dX1_doorsThat_4 : decode cX1_doorsThat 4 = .ok (.iload_n 3, 1) := by decide +kernel
theorem dX1_doorsThat_5 : decode cX1_doorsThat 5 = .ok (.aload_n 0, 1) := by decide +kernel
theorem dX1_doorsThat_6 : decode cX1_doorsThat 6 = .ok (.getfield 32, 3) := by decide +kernel
theorem dX1_doorsThat_9 : decode cX1_doorsThat 9 = .ok (.if_icmp .ge 25, 3) := by decide +kernel
theorem dX1_doorsThat_12 : decode cX1_doorsThat 12 = .ok (.aload_n 0, 1) := by decide +kernel
theorem dX1_doorsThat_13 : decode cX1_doorsThat 13 = .ok (.getfield 11, 3) := by decide +kernel
theorem dX1_doorsThat_16 : decode cX1_doorsThat 16 = .ok (.iload_n 3, 1) := by decide +kernel
theorem dX1_doorsThat_17 : decode cX1_doorsThat 17 = .ok (.aaload, 1) := by decide +kernel
theorem dX1_doorsThat_18 : decode cX1_doorsThat 18 = .ok (.getfield 55, 3) := by decide +kernel
theorem dX1_doorsThat_21 : decode cX1_doorsThat 21 = .ok (.iload_n 1, 1) := by decide +kernel
theorem dX1_doorsThat_22 : decode cX1_doorsThat 22 = .ok (.if_icmp .ne 6, 3) := by decide +kernel
theorem dX1_doorsThat_25 : decode cX1_doorsThat 25 = .ok (.iinc 2 1, 3) := by decide +kernel
theorem dX1_doorsThat_28 : decode cX1_doorsThat 28 = .ok (.iinc 3 1, 3) := by decide +kernel
theorem dX1_doorsThat_31 : decode cX1_doorsThat 31 = .ok (.goto (-27), 3) := by decide +kernel
theorem dX1_doorsThat_34 : decode cX1_doorsThat 34 = .ok (.iload_n 2, 1) := by decide +kernel
theorem dX1_doorsThat_35 : decode cX1_doorsThat 35 = .ok (.ireturn, 1) := by decide +kernel
set_option maxRecDepth 20000 in
theorem ggX1_fact_X1_doorsThat : GoodIn wsX1_fact wsX1_doorsThat := goodIn_r _ [10, 2, 11, 12, 17, 18, 19, 20, 21, 29, 30, 31, 32, 33, 34, 35, 36, 37, 38, 39, 40, 41, 42] (by decide +kernel) (by decide +kernel)
set_option maxRecDepth 20000 in
theorem gX1_fact_X1_doorsThat : GoodIn wsX1_fact (wsV RX1 136 RX1 yX1_doorsThat wsX1_doorsThat) := goodIn_app (goodIn_of _ (by decide +kernel)) ggX1_fact_X1_doorsThat
set_option maxRecDepth 20000 in
theorem ggX1_fact_X1_openDoors : GoodIn wsX1_fact wsX1_openDoors := goodIn_r _ [16, 2, 11, 12, 17, 18, 19, 20, 21, 29, 30, 31, 32, 33, 34, 35, 36, 37, 38, 39, 40, 41, 42] (by decide +kernel) (by decide +kernel)
set_option maxRecDepth 20000 in
theorem gX1_fact_X1_openDoors : GoodIn wsX1_fact (wsV RX1 143 RX1 yX1_openDoors wsX1_openDoors) := goodIn_app (goodIn_of _ (by decide +kernel)) ggX1_fact_X1_openDoors
theorem dX1_fact_0 : decode cX1_fact 0 = .ok (.iload_n 1, 1) := by decide +kernel
theorem dX1_fact_1 : decode cX1_fact 1 = .ok (.tableswitch 97 0 7 #[47, 52, 57, 63, 69, 75, 81, 89], 47) := by decide +kernel
theorem dX1_fact_48 : decode cX1_fact 48 = .ok (.aload_n 0, 1) := by decide +kernel
theorem dX1_fact_49 : decode cX1_fact 49 = .ok (.getfield 28, 3) := by decide +kernel
theorem dX1_fact_52 : decode cX1_fact 52 = .ok (.ireturn, 1) := by decide +kernel
theorem dX1_fact_53 : decode cX1_fact 53 = .ok (.aload_n 0, 1) := by decide +kernel
theorem dX1_fact_54 : decode cX1_fact 54 = .ok (.getfield 32, 3) := by decide +kernel
theorem dX1_fact_57 : decode cX1_fact 57 = .ok (.ireturn, 1) := by decide +kernel
theorem dX1_fact_58 : decode cX1_fact 58 = .ok (.aload_n 0, 1) := by decide +kernel
theorem dX1_fact_59 : decode cX1_fact 59 = .ok (.iconst 0, 1) := by decide +kernel
theorem dX1_fact_60 : decode cX1_fact 60 = .ok (.invokevirtual 136, 3) := by decide +kernel
theorem dX1_fact_63 : decode cX1_fact 63 = .ok (.ireturn, 1) := by decide +kernel
theorem dX1_fact_64 : decode cX1_fact 64 = .ok (.aload_n 0, 1) := by decide +kernel
theorem dX1_fact_65 : decode cX1_fact 65 = .ok (.iconst 1, 1) := by decide +kernel
theorem dX1_fact_66 : decode cX1_fact 66 = .ok (.invokevirtual 136, 3) := by decide +kernel
theorem dX1_fact_69 : decode cX1_fact 69 = .ok (.ireturn, 1) := by decide +kernel
theorem dX1_fact_70 : decode cX1_fact 70 = .ok (.aload_n 0, 1) := by decide +kernel
theorem dX1_fact_71 : decode cX1_fact 71 = .ok (.iconst 2, 1) := by decide +kernel
theorem dX1_fact_72 : decode cX1_fact 72 = .ok (.invokevirtual 136, 3) := by decide +kernel
theorem dX1_fact_75 : decode cX1_fact 75 = .ok (.ireturn, 1) := by decide +kernel
theorem dX1_fact_76 : decode cX1_fact 76 = .ok (.aload_n 0, 1) := by decide +kernel
theorem dX1_fact_77 : decode cX1_fact 77 = .ok (.iconst 3, 1) := by decide +kernel
theorem dX1_fact_78 : decode cX1_fact 78 = .ok (.invokevirtual 136, 3) := by decide +kernel
theorem dX1_fact_81 : decode cX1_fact 81 = .ok (.ireturn, 1) := by decide +kernel
