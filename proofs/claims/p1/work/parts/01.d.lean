theorem dX4_init_13 : decode cX4_init 13 = .ok (.bipush 120, 2) := by decide +kernel
theorem dX4_init_15 : decode cX4_init 15 = .ok (.newarray .int, 2) := by decide +kernel
theorem dX4_init_17 : decode cX4_init 17 = .ok (.putfield 13, 3) := by decide +kernel
theorem dX4_init_20 : decode cX4_init 20 = .ok (.aload_n 0, 1) := by decide +kernel
theorem dX4_init_21 : decode cX4_init 21 = .ok (.sipush 2000, 3) := by decide +kernel
theorem dX4_init_24 : decode cX4_init 24 = .ok (.newarray .int, 2) := by decide +kernel
theorem dX4_init_26 : decode cX4_init 26 = .ok (.putfield 16, 3) := by decide +kernel
theorem dX4_init_29 : decode cX4_init 29 = .ok (.aload_n 0, 1) := by decide +kernel
theorem dX4_init_30 : decode cX4_init 30 = .ok (.sipush 300, 3) := by decide +kernel
theorem dX4_init_33 : decode cX4_init 33 = .ok (.newarray .int, 2) := by decide +kernel
theorem dX4_init_35 : decode cX4_init 35 = .ok (.putfield 19, 3) := by decide +kernel
theorem dX4_init_38 : decode cX4_init 38 = .ok (.aload_n 0, 1) := by decide +kernel
theorem dX4_init_39 : decode cX4_init 39 = .ok (.iconst 3, 1) := by decide +kernel
theorem dX4_init_40 : decode cX4_init 40 = .ok (.newarray .int, 2) := by decide +kernel
theorem dX4_init_42 : decode cX4_init 42 = .ok (.putfield 22, 3) := by decide +kernel
theorem dX4_init_45 : decode cX4_init 45 = .ok (.aload_n 0, 1) := by decide +kernel
theorem dX4_init_46 : decode cX4_init 46 = .ok (.sipush 300, 3) := by decide +kernel
theorem dX4_init_49 : decode cX4_init 49 = .ok (.newarray .int, 2) := by decide +kernel
theorem dX4_init_51 : decode cX4_init 51 = .ok (.putfield 25, 3) := by decide +kernel
theorem dX4_init_54 : decode cX4_init 54 = .ok (.return_, 1) := by decide +kernel
theorem dX4_thrown_0 : decode cX4_thrown 0 = .ok (.aload_n 0, 1) := by decide +kernel
theorem dX4_thrown_1 : decode cX4_thrown 1 = .ok (.getfield 28, 3) := by decide +kernel
theorem dX4_thrown_4 : decode cX4_thrown 4 = .ok (.ireturn, 1) := by decide +kernel
theorem dX4_fail_0 : decode cX4_fail 0 = .ok (.aload_n 0, 1) := by decide +kernel
theorem dX4_fail_1 : decode cX4_fail 1 = .ok (.iload_n 1, 1) := by decide +kernel
theorem dX4_fail_2 : decode cX4_fail 2 = .ok (.putfield 28, 3) := by decide +kernel
theorem dX4_fail_5 : decode cX4_fail 5 = .ok (.iconst 0, 1) := by decide +kernel
theorem dX4_fail_6 : decode cX4_fail 6 = .ok (.ireturn, 1) := by decide +kernel
theorem dX4_isIn_0 : decode cX4_isIn 0 = .ok (.iload_n 0, 1) := by decide +kernel
theorem dX4_isIn_1 : decode cX4_isIn 1 = .ok (.iload_n 1, 1) := by decide +kernel
theorem dX4_isIn_2 : decode cX4_isIn 2 = .ok (.if_icmp .lt 12, 3) := by decide +kernel
theorem dX4_isIn_5 : decode cX4_isIn 5 = .ok (.iload_n 0, 1) := by decide +kernel
theorem dX4_isIn_6 : decode cX4_isIn 6 = .ok (.iload_n 2, 1) := by decide +kernel
theorem dX4_isIn_7 : decode cX4_isIn 7 = .ok (.if_icmp .gt 7, 3) := by decide +kernel
theorem dX4_isIn_10 : decode cX4_isIn 10 = .ok (.iconst 1, 1) := by decide +kernel
theorem dX4_isIn_11 : decode cX4_isIn 11 = .ok (.goto 4, 3) := by decide +kernel
theorem dX4_isIn_14 : decode cX4_isIn 14 = .ok (.iconst 0, 1) := by decide +kernel
theorem dX4_isIn_15 : decode cX4_isIn 15 = .ok (.ireturn, 1) := by decide +kernel
set_option maxRecDepth 20000 in
theorem ggX4_isDoor_X4_isIn : GoodIn wsX4_isDoor wsX4_isIn := goodIn_r _ [5] (by decide +kernel) (by decide +kernel)
set_option maxRecDepth 20000 in
theorem gX4_isDoor_X4_isIn : GoodIn wsX4_isDoor (va_wsS RX4 35 yX4_isIn wsX4_isIn) := goodIn_app (goodIn_of _ (by decide +kernel)) ggX4_isDoor_X4_isIn
theorem dX4_isDoor_0 : decode cX4_isDoor 0 = .ok (.iload_n 1, 1) := by decide +kernel
theorem dX4_isDoor_1 : decode cX4_isDoor 1 = .ok (.iconst 0, 1) := by decide +kernel
theorem dX4_isDoor_2 : decode cX4_isDoor 2 = .ok (.aload_n 0, 1) := by decide +kernel
theorem dX4_isDoor_3 : decode cX4_isDoor 3 = .ok (.getfield 32, 3) := by decide +kernel
theorem dX4_isDoor_6 : decode cX4_isDoor 6 = .ok (.iconst 1, 1) := by decide +kernel
theorem dX4_isDoor_7 : decode cX4_isDoor 7 = .ok (.isub, 1) := by decide +kernel
theorem dX4_isDoor_8 : decode cX4_isDoor 8 = .ok (.invokestatic 35, 3) := by decide +kernel
theorem dX4_isDoor_11 : decode cX4_isDoor 11 = .ok (.ireturn, 1) := by decide +kernel
theorem dX4_va_0 : decode cX4_va 0 = .ok (.aload_n 0, 1) := by decide +kernel
theorem dX4_va_1 : decode cX4_va 1 = .ok (.getfield 9, 3) := by decide +kernel
theorem dX4_va_4 : decode cX4_va 4 = .ok (.bipush 9, 2) := by decide +kernel
theorem dX4_va_6 : decode cX4_va 6 = .ok (.iload_n 1, 1) := by decide +kernel
theorem dX4_va_7 : decode cX4_va 7 = .ok (.imul, 1) := by decide +kernel
theorem dX4_va_8 : decode cX4_va 8 = .ok (.iload_n 2, 1) := by decide +kernel
theorem dX4_va_9 : decode cX4_va 9 = .ok (.iadd, 1) := by decide +kernel
theorem dX4_va_10 : decode cX4_va 10 = .ok (.iaload, 1) := by decide +kernel
theorem dX4_va_11 : decode cX4_va 11 = .ok (.ireturn, 1) := by decide +kernel
theorem dX4_put_0 : decode cX4_put 0 = .ok (.aload_n 0, 1) := by decide +kernel
theorem dX4_put_1 : decode cX4_put 1 = .ok (.getfield 9, 3) := by decide +kernel
theorem dX4_put_4 : decode cX4_put 4 = .ok (.bipush 9, 2) := by decide +kernel
theorem dX4_put_6 : decode cX4_put 6 = .ok (.iload_n 1, 1) := by decide +kernel
theorem dX4_put_7 : decode cX4_put 7 = .ok (.imul, 1) := by decide +kernel
theorem dX4_put_8 : decode cX4_put 8 = .ok (.iload_n 2, 1) := by decide +kernel
theorem dX4_put_9 : decode cX4_put 9 = .ok (.iadd, 1) := by decide +kernel
theorem dX4_put_10 : decode cX4_put 10 = .ok (.iload_n 3, 1) := by decide +kernel
theorem dX4_put_11 : decode cX4_put 11 = .ok (.iastore, 1) := by decide +kernel
theorem dX4_put_12 : decode cX4_put 12 = .ok (.return_, 1) := by decide +kernel
theorem dX4_li_0 : decode cX4_li 0 = .ok (.aload_n 0, 1) := by decide +kernel
theorem dX4_li_1 : decode cX4_li 1 = .ok (.getfield 13, 3) := by decide +kernel
theorem dX4_li_4 : decode cX4_li 4 = .ok (.iconst 3, 1) := by decide +kernel
theorem dX4_li_5 : decode cX4_li 5 = .ok (.iconst 4, 1) := by decide +kernel
theorem dX4_li_6 : decode cX4_li 6 = .ok (.iload_n 1, 1) := by decide +kernel
theorem dX4_li_7 : decode cX4_li 7 = .ok (.imul, 1) := by decide +kernel
theorem dX4_li_8 : decode cX4_li 8 = .ok (.iload_n 2, 1) := by decide +kernel
theorem dX4_li_9 : decode cX4_li 9 = .ok (.iadd, 1) := by decide +kernel
theorem dX4_li_10 : decode cX4_li 10 = .ok (.imul, 1) := by decide +kernel
theorem dX4_li_11 : decode cX4_li 11 = .ok (.iload_n 3, 1) := by decide +kernel
theorem dX4_li_12 : decode cX4_li 12 = .ok (.iadd, 1) := by decide +kernel
theorem dX4_li_13 : decode cX4_li 13 = .ok (.iaload, 1) := by decide +kernel
theorem dX4_li_14 : decode cX4_li 14 = .ok (.ireturn, 1) := by decide +kernel
theorem dX4_setLink_0 : decode cX4_setLink 0 = .ok (.aload_n 0, 1) := by decide +kernel
theorem dX4_setLink_1 : decode cX4_setLink 1 = .ok (.getfield 13, 3) := by decide +kernel
theorem dX4_setLink_4 : decode cX4_setLink 4 = .ok (.iconst 3, 1) := by decide +kernel
theorem dX4_setLink_5 : decode cX4_setLink 5 = .ok (.iconst 4, 1) := by decide +kernel
theorem dX4_setLink_6 : decode cX4_setLink 6 = .ok (.iload_n 1, 1) := by decide +kernel
theorem dX4_setLink_7 : decode cX4_setLink 7 = .ok (.imul, 1) := by decide +kernel
theorem dX4_setLink_8 : decode cX4_setLink 8 = .ok (.iload_n 2, 1) := by decide +kernel
theorem dX4_setLink_9 : decode cX4_setLink 9 = .ok (.iadd, 1) := by decide +kernel
theorem dX4_setLink_10 : decode cX4_setLink 10 = .ok (.imul, 1) := by decide +kernel
theorem dX4_setLink_11 : decode cX4_setLink 11 = .ok (.iload_n 3, 1) := by decide +kernel
theorem dX4_setLink_12 : decode cX4_setLink 12 = .ok (.iadd, 1) := by decide +kernel
theorem dX4_setLink_13 : decode cX4_setLink 13 = .ok (.iload 4, 2) := by decide +kernel
theorem dX4_setLink_15 : decode cX4_setLink 15 = .ok (.iastore, 1) := by decide +kernel
theorem dX4_setLink_16 : decode cX4_setLink 16 = .ok (.return_, 1) := by decide +kernel
set_option maxRecDepth 20000 in
theorem ggX4_build_X4_isIn : GoodIn wsX4_build wsX4_isIn := goodIn_r _ [12] (by decide +kernel) (by decide +kernel)
set_option maxRecDepth 20000 in
theorem gX4_build_X4_isIn : GoodIn wsX4_build (va_wsS RX4 35 yX4_isIn wsX4_isIn) := goodIn_app (goodIn_of _ (by decide +kernel)) ggX4_build_X4_isIn
set_option maxRecDepth 20000 in
theorem ggX4_build_X4_fail : GoodIn wsX4_build wsX4_fail := goodIn_r _ [16, 1, 17, 18, 19, 20, 21, 22, 23, 24] (by decide +kernel) (by decide +kernel)
set_option maxRecDepth 20000 in
theorem gX4_build_X4_fail : GoodIn wsX4_build (wsV RX4 39 RX4 yX4_fail wsX4_fail) := goodIn_app (goodIn_of _ (by decide +kernel)) ggX4_build_X4_fail
theorem dX4_build_0 : decode cX4_build 0 = .ok (.aload_n 0, 1) := by decide +kernel
theorem dX4_build_1 : decode cX4_build 1 = .ok (.iconst 0, 1) := by decide +kernel
theorem dX4_build_2 : decode cX4_build 2 = .ok (.putfield 28, 3) := by decide +kernel
theorem dX4_build_5 : decode cX4_build 5 = .ok (.iload_n 1, 1) := by decide +kernel
theorem dX4_build_6 : decode cX4_build 6 = .ok (.iconst 0, 1) := by decide +kernel
theorem dX4_build_7 : decode cX4_build 7 = .ok (.bipush 99, 2) := by decide +kernel
theorem dX4_build_9 : decode cX4_build 9 = .ok (.invokestatic 35, 3) := by decide +kernel
theorem dX4_build_12 : decode cX4_build 12 = .ok (.ifCond .eq 22, 3) := by decide +kernel
theorem dX4_build_15 : decode cX4_build 15 = .ok (.iload_n 2, 1) := by decide +kernel
theorem dX4_build_16 : decode cX4_build 16 = .ok (.iconst 1, 1) := by decide +kernel
theorem dX4_build_17 : decode cX4_build 17 = .ok (.bipush 20, 2) := by decide +kernel
theorem dX4_build_19 : decode cX4_build 19 = .ok (.invokestatic 35, 3) := by decide +kernel
theorem dX4_build_22 : decode cX4_build 22 = .ok (.ifCond .eq 12, 3) := by decide +kernel
theorem dX4_build_25 : decode cX4_build 25 = .ok (.iload_n 3, 1) := by decide +kernel
theorem dX4_build_26 : decode cX4_build 26 = .ok (.iconst 0, 1) := by decide +kernel
theorem dX4_build_27 : decode cX4_build 27 = .ok (.iconst 3, 1) := by decide +kernel
theorem dX4_build_28 : decode cX4_build 28 = .ok (.invokestatic 35, 3) := by decide +kernel
theorem dX4_build_31 : decode cX4_build 31 = .ok (.ifCond .ne 9, 3) := by decide +kernel
theorem dX4_build_34 : decode cX4_build 34 = .ok (.aload_n 0, 1) := by decide +kernel
theorem dX4_build_35 : decode cX4_build 35 = .ok (.iconst 1, 1) := by decide +kernel
theorem dX4_build_36 : decode cX4_build 36 = .ok (.invokevirtual 39, 3) := by decide +kernel
theorem dX4_build_39 : decode cX4_build 39 = .ok (.ireturn, 1) := by decide +kernel
theorem dX4_build_40 : decode cX4_build 40 = .ok (.aload_n 0, 1) := by decide +kernel
theorem dX4_build_41 : decode cX4_build 41 = .ok (.getfield 32, 3) := by decide +kernel
theorem dX4_build_44 : decode cX4_build 44 = .ok (.bipush 10, 2) := by decide +kernel
theorem dX4_build_46 : decode cX4_build 46 = .ok (.if_icmp .ne 9, 3) := by decide +kernel
theorem dX4_build_49 : decode cX4_build 49 = .ok (.aload_n 0, 1) := by decide +kernel
theorem dX4_build_50 : decode cX4_build 50 = .ok (.iconst 2, 1) := by decide +kernel
theorem dX4_build_51 : decode cX4_build 51 = .ok (.invokevirtual 39, 3) := by decide +kernel
theorem dX4_build_54 : decode cX4_build 54 = .ok (.ireturn, 1) := by decide +kernel
theorem dX4_build_55 : decode cX4_build 55 = .ok (.bipush 9, 2) := by decide +kernel
theorem dX4_build_57 : decode cX4_build 57 = .ok (.newarray .int, 2) := by decide +kernel
theorem dX4_build_59 : decode cX4_build 59 = .ok (.dup, 1) := by decide +kernel
theorem dX4_build_60 : decode cX4_build 60 = .ok (.iconst 0, 1) := by decide +kernel
theorem dX4_build_61 : decode cX4_build 61 = .ok (.iload_n 1, 1) := by decide +kernel
theorem dX4_build_62 : decode cX4_build 62 = .ok (.iastore, 1) := by decide +kernel
theorem dX4_build_63 : decode cX4_build 63 = .ok (.dup, 1) := by decide +kernel
theorem dX4_build_64 : decode cX4_build 64 = .ok (.iconst 1, 1) := by decide +kernel
theorem dX4_build_65 : decode cX4_build 65 = .ok (.iload_n 2, 1) := by decide +kernel
theorem dX4_build_66 : decode cX4_build 66 = .ok (.iastore, 1) := by decide +kernel
theorem dX4_build_67 : decode cX4_build 67 = .ok (.dup, 1) := by decide +kernel
theorem dX4_build_68 : decode cX4_build 68 = .ok (.iconst 2, 1) := by decide +kernel
theorem dX4_build_69 : decode cX4_build 69 = .ok (.iload_n 3, 1) := by decide +kernel
theorem dX4_build_70 : decode cX4_build 70 = .ok (.iastore, 1) := by decide +kernel
theorem dX4_build_71 : decode cX4_build 71 = .ok (.dup, 1) := by decide +kernel
theorem dX4_build_72 : decode cX4_build 72 = .ok (.iconst 3, 1) := by decide +kernel
theorem dX4_build_73 : decode cX4_build 73 = .ok (.iconst 0, 1) := by decide +kernel
theorem dX4_build_74 : decode cX4_build 74 = .ok (.iastore, 1) := by decide +kernel
theorem dX4_build_75 : decode cX4_build 75 = .ok (.dup, 1) := by decide +kernel
theorem dX4_build_76 : decode cX4_build 76 = .ok (.iconst 4, 1) := by decide +kernel
theorem dX4_build_77 : decode cX4_build 77 = .ok (.iconst 0, 1) := by decide +kernel
theorem dX4_build_78 : decode cX4_build 78 = .ok (.iastore, 1) := by decide +kernel
theorem dX4_build_79 : decode cX4_build 79 = .ok (.dup, 1) := by decide +kernel
theorem dX4_build_80 : decode cX4_build 80 = .ok (.iconst 5, 1) := by decide +kernel
theorem dX4_build_81 : decode cX4_build 81 = .ok (.iconst 0, 1) := by decide +kernel
theorem dX4_build_82 : decode cX4_build 82 = .ok (.iastore, 1) := by decide +kernel
theorem dX4_build_83 : decode cX4_build 83 = .ok (.dup, 1) := by decide +kernel
theorem dX4_build_84 : decode cX4_build 84 = .ok (.bipush 6, 2) := by decide +kernel
theorem dX4_build_86 : decode cX4_build 86 = .ok (.iconst 0, 1) := by decide +kernel
theorem dX4_build_87 : decode cX4_build 87 = .ok (.iastore, 1) := by decide +kernel
theorem dX4_build_88 : decode cX4_build 88 = .ok (.dup, 1) := by decide +kernel
theorem dX4_build_89 : decode cX4_build 89 = .ok (.bipush 7, 2) := by decide +kernel
theorem dX4_build_91 : decode cX4_build 91 = .ok (.iconst 0, 1) := by decide +kernel
theorem dX4_build_92 : decode cX4_build 92 = .ok (.iastore, 1) := by decide +kernel
theorem dX4_build_93 : decode cX4_build 93 = .ok (.dup, 1) := by decide +kernel
theorem dX4_build_94 : decode cX4_build 94 = .ok (.bipush 8, 2) := by decide +kernel
theorem dX4_build_96 : decode cX4_build 96 = .ok (.iconst 0, 1) := by decide +kernel
theorem dX4_build_97 : decode cX4_build 97 = .ok (.iastore, 1) := by decide +kernel
theorem dX4_build_98 : decode cX4_build 98 = .ok (.astore 4, 2) := by decide +kernel
theorem dX4_build_100 : decode cX4_build 100 = .ok (.aload 4, 2) := by decide +kernel
theorem dX4_build_102 : decode cX4_build 102 = .ok (.iconst 0, 1) := by decide +kernel
theorem dX4_build_103 : decode cX4_build 103 = .ok (.aload_n 0, 1) := by decide +kernel
theorem dX4_build_104 : decode cX4_build 104 = .ok (.getfield 9, 3) := by decide +kernel
theorem dX4_build_107 : decode cX4_build 107 = .ok (.bipush 9, 2) := by decide +kernel
theorem dX4_build_109 : decode cX4_build 109 = .ok (.aload_n 0, 1) := by decide +kernel
theorem dX4_build_110 : decode cX4_build 110 = .ok (.getfield 32, 3) := by decide +kernel
theorem dX4_build_113 : decode cX4_build 113 = .ok (.imul, 1) := by decide +kernel
theorem dX4_build_114 : decode cX4_build 114 = .ok (.bipush 9, 2) := by decide +kernel
theorem dX4_build_116 : decode cX4_build 116 = .ok (.invokestatic 43, 3) := by decide +kernel
theorem dX4_build_119 : decode cX4_build 119 = .ok (.aload_n 0, 1) := by decide +kernel
theorem dX4_build_120 : decode cX4_build 120 = .ok (.dup, 1) := by decide +kernel
theorem dX4_build_121 : decode cX4_build 121 = .ok (.getfield 32, 3) := by decide +kernel
theorem dX4_build_124 : decode cX4_build 124 = .ok (.iconst 1, 1) := by decide +kernel
theorem dX4_build_125 : decode cX4_build 125 = .ok (.iadd, 1) := by decide +kernel
theorem dX4_build_126 : decode cX4_build 126 = .ok (.putfield 32, 3) := by decide +kernel
theorem dX4_build_129 : decode cX4_build 129 = .ok (.aload_n 0, 1) := by decide +kernel
theorem dX4_build_130 : decode cX4_build 130 = .ok (.getfield 32, 3) := by decide +kernel
theorem dX4_build_133 : decode cX4_build 133 = .ok (.iconst 1, 1) := by decide +kernel
theorem dX4_build_134 : decode cX4_build 134 = .ok (.isub, 1) := by decide +kernel
theorem dX4_build_135 : decode cX4_build 135 = .ok (.ireturn, 1) := by decide +kernel
set_option maxRecDepth 20000 in
theorem ggX4_place_X4_va : GoodIn wsX4_place wsX4_va := goodIn_r _ [5, 6, 12, 13, 14, 15, 16, 17, 18, 19] (by decide +kernel) (by decide +kernel)
set_option maxRecDepth 20000 in
theorem gX4_place_X4_va : GoodIn wsX4_place (wsV RX4 49 RX4 yX4_va wsX4_va) := goodIn_app (goodIn_of _ (by decide +kernel)) ggX4_place_X4_va
set_option maxRecDepth 20000 in
theorem ggX4_place_X4_li : GoodIn wsX4_place wsX4_li := goodIn_r _ [10, 11, 12, 13, 14, 15, 16, 17, 18, 19] (by decide +kernel) (by decide +kernel)
set_option maxRecDepth 20000 in
theorem gX4_place_X4_li : GoodIn wsX4_place (wsV RX4 53 RX4 yX4_li wsX4_li) := goodIn_app (goodIn_of _ (by decide +kernel)) ggX4_place_X4_li
theorem dX4_place_0 : decode cX4_place 0 = .ok (.iconst 0, 1) := by decide +kernel
theorem dX4_place_1 : decode cX4_place 1 = .ok (.istore_n 3, 1) := by decide +kernel
theorem dX4_place_2 : decode cX4_place 2 = .ok (.iload_n 3, 1) := by decide +kernel
theorem dX4_place_3 : decode cX4_place 3 = .ok (.aload_n 0, 1) := by decide +kernel
theorem dX4_place_4 : decode cX4_place 4 = .ok (.iload_n 1, 1) := by decide +kernel
theorem dX4_place_5 : decode cX4_place 5 = .ok (.iconst 5, 1) := by decide +kernel
theorem dX4_place_6 : decode cX4_place 6 = .ok (.invokevirtual 49, 3) := by decide +kernel
theorem dX4_place_9 : decode cX4_place 9 = .ok (.if_icmp .ge 22, 3) := by decide +kernel
theorem dX4_place_12 : decode cX4_place 12 = .ok (.aload_n 0, 1) := by decide +kernel
theorem dX4_place_13 : decode cX4_place 13 = .ok (.iload_n 1, 1) := by decide +kernel
theorem dX4_place_14 : decode cX4_place 14 = .ok (.iload_n 3, 1) := by decide +kernel
theorem dX4_place_15 : decode cX4_place 15 = .ok (.iconst 0, 1) := by decide +kernel
theorem dX4_place_16 : decode cX4_place 16 = .ok (.invokevirtual 53, 3) := by decide +kernel
theorem dX4_place_19 : decode cX4_place 19 = .ok (.iload_n 2, 1) := by decide +kernel
theorem dX4_place_20 : decode cX4_place 20 = .ok (.if_icmp .ne 5, 3) := by decide +kernel
theorem dX4_place_23 : decode cX4_place 23 = .ok (.iload_n 3, 1) := by decide +kernel
theorem dX4_place_24 : decode cX4_place 24 = .ok (.ireturn, 1) := by decide +kernel
theorem dX4_place_25 : decode cX4_place 25 = .ok (.iinc 3 1, 3) := by decide +kernel
theorem dX4_place_28 : decode cX4_place 28 = .ok (.goto (-26), 3) := by decide +kernel
theorem dX4_place_31 : decode cX4_place 31 = .ok (.iconst (-1), 1) := by decide +kernel
theorem dX4_place_32 : decode cX4_place 32 = .ok (.ireturn, 1) := by decide +kernel
set_option maxRecDepth 20000 in
theorem ggX4_ask_X4_isDoor : GoodIn wsX4_ask wsX4_isDoor := goodIn_r _ [6, 7, 8, 9, 5, 10, 37, 38, 39, 40, 41, 42, 43, 44] (by decide +kernel) (by decide +kernel)
set_option maxRecDepth 20000 in
theorem gX4_ask_X4_isDoor : GoodIn wsX4_ask (wsV RX4 57 RX4 yX4_isDoor wsX4_isDoor) := goodIn_app (goodIn_of _ (by decide +kernel)) ggX4_ask_X4_isDoor
set_option maxRecDepth 20000 in
theorem ggX4_ask_X4_fail : GoodIn wsX4_ask wsX4_fail := goodIn_r _ [14, 1, 37, 38, 39, 40, 41, 42, 43, 44] (by decide +kernel) (by decide +kernel)
set_option maxRecDepth 20000 in
theorem gX4_ask_X4_fail : GoodIn wsX4_ask (wsV RX4 39 RX4 yX4_fail wsX4_fail) := goodIn_app (goodIn_of _ (by decide +kernel)) ggX4_ask_X4_fail
set_option maxRecDepth 20000 in
theorem ggX4_ask_X4_isIn : GoodIn wsX4_ask wsX4_isIn := goodIn_r _ [10] (by decide +kernel) (by decide +kernel)
set_option maxRecDepth 20000 in
theorem gX4_ask_X4_isIn : GoodIn wsX4_ask (va_wsS RX4 35 yX4_isIn wsX4_isIn) := goodIn_app (goodIn_of _ (by decide +kernel)) ggX4_ask_X4_isIn
set_option maxRecDepth 20000 in
theorem ggX4_ask_X4_va : GoodIn wsX4_ask wsX4_va := goodIn_r _ [18, 19, 37, 38, 39, 40, 41, 42, 43, 44] (by decide +kernel) (by decide +kernel)
set_option maxRecDepth 20000 in
theorem gX4_ask_X4_va : GoodIn wsX4_ask (wsV RX4 49 RX4 yX4_va wsX4_va) := goodIn_app (goodIn_of _ (by decide +kernel)) ggX4_ask_X4_va
set_option maxRecDepth 20000 in
theorem ggX4_ask_X4_place : GoodIn wsX4_ask wsX4_place := goodIn_r _ [23, 15, 16, 17, 5, 18, 19, 24, 25, 26, 27, 28, 37, 38, 39, 40, 41, 42, 43, 44] (by decide +kernel) (by decide +kernel)
set_option maxRecDepth 20000 in
theorem gX4_ask_X4_place : GoodIn wsX4_ask (wsV RX4 61 RX4 yX4_place wsX4_place) := goodIn_app (goodIn_of _ (by decide +kernel)) ggX4_ask_X4_place
set_option maxRecDepth 20000 in
theorem ggX4_ask_X4_setLink : GoodIn wsX4_ask wsX4_setLink := goodIn_r _ [32, 28, 37, 38, 39, 40, 41, 42, 43, 44] (by decide +kernel) (by decide +kernel)
set_option maxRecDepth 20000 in
theorem gX4_ask_X4_setLink : GoodIn wsX4_ask (wsV RX4 64 RX4 yX4_setLink wsX4_setLink) := goodIn_app (goodIn_of _ (by decide +kernel)) ggX4_ask_X4_setLink
set_option maxRecDepth 20000 in
theorem ggX4_ask_X4_put : GoodIn wsX4_ask wsX4_put := goodIn_r _ [36, 19, 37, 38, 39, 40, 41, 42, 43, 44] (by decide +kernel) (by decide +kernel)
set_option maxRecDepth 20000 in
theorem gX4_ask_X4_put : GoodIn wsX4_ask (wsV RX4 68 RX4 yX4_put wsX4_put) := goodIn_app (goodIn_of _ (by decide +kernel)) ggX4_ask_X4_put
theorem dX4_ask_0 : decode cX4_ask 0 = .ok (.aload_n 0, 1) := by decide +kernel
theorem dX4_ask_1 : decode cX4_ask 1 = .ok (.iconst 0, 1) := by decide +kernel
theorem dX4_ask_2 : decode cX4_ask 2 = .ok (.putfield 28, 3) := by decide +kernel
theorem dX4_ask_5 : decode cX4_ask 5 = .ok (.aload_n 0, 1) := by decide +kernel
theorem dX4_ask_6 : decode cX4_ask 6 = .ok (.iload_n 1, 1) := by decide +kernel
theorem dX4_ask_7 : decode cX4_ask 7 = .ok (.invokevirtual 57, 3) := by decide +kernel
theorem dX4_ask_10 : decode cX4_ask 10 = .ok (.ifCond .eq 11, 3) := by decide +kernel
theorem dX4_ask_13 : decode cX4_ask 13 = .ok (.aload_n 0, 1) := by decide +kernel
theorem dX4_ask_14 : decode cX4_ask 14 = .ok (.iload_n 2, 1) := by decide +kernel
theorem dX4_ask_15 : decode cX4_ask 15 = .ok (.invokevirtual 57, 3) := by decide +kernel
theorem dX4_ask_18 : decode cX4_ask 18 = .ok (.ifCond .ne 9, 3) := by decide +kernel
theorem dX4_ask_21 : decode cX4_ask 21 = .ok (.aload_n 0, 1) := by decide +kernel
theorem dX4_ask_22 : decode cX4_ask 22 = .ok (.iconst 1, 1) := by decide +kernel
theorem dX4_ask_23 : decode cX4_ask 23 = .ok (.invokevirtual 39, 3) := by decide +kernel
theorem dX4_ask_26 : decode cX4_ask 26 = .ok (.ireturn, 1) := by decide +kernel
theorem dX4_ask_27 : decode cX4_ask 27 = .ok (.iload_n 1, 1) := by decide +kernel
theorem dX4_ask_28 : decode cX4_ask 28 = .ok (.iload_n 2, 1) := by decide +kernel
theorem dX4_ask_29 : decode cX4_ask 29 = .ok (.if_icmp .eq 12, 3) := by decide +kernel
theorem dX4_ask_32 : decode cX4_ask 32 = .ok (.iload_n 3, 1) := by decide +kernel
theorem dX4_ask_33 : decode cX4_ask 33 = .ok (.iconst 1, 1) := by decide +kernel
theorem dX4_ask_34 : decode cX4_ask 34 = .ok (.iconst 5, 1) := by decide +kernel
theorem dX4_ask_35 : decode cX4_ask 35 = .ok (.invokestatic 35, 3) := by decide +kernel
theorem dX4_ask_38 : decode cX4_ask 38 = .ok (.ifCond .ne 9, 3) := by decide +kernel
theorem dX4_ask_41 : decode cX4_ask 41 = .ok (.aload_n 0, 1) := by decide +kernel
theorem dX4_ask_42 : decode cX4_ask 42 = .ok (.iconst 2, 1) := by decide +kernel
theorem dX4_ask_43 : decode cX4_ask 43 = .ok (.invokevirtual 39, 3) := by decide +kernel
theorem dX4_ask_46 : decode cX4_ask 46 = .ok (.ireturn, 1) := by decide +kernel
theorem dX4_ask_47 : decode cX4_ask 47 = .ok (.aload_n 0, 1) := by decide +kernel
theorem dX4_ask_48 : decode cX4_ask 48 = .ok (.iload_n 1, 1) := by decide +kernel
theorem dX4_ask_49 : decode cX4_ask 49 = .ok (.iconst 3, 1) := by decide +kernel
theorem dX4_ask_50 : decode cX4_ask 50 = .ok (.invokevirtual 49, 3) := by decide +kernel
theorem dX4_ask_53 : decode cX4_ask 53 = .ok (.ifCond .ne 23, 3) := by decide +kernel
theorem dX4_ask_56 : decode cX4_ask 56 = .ok (.aload_n 0, 1) := by decide +kernel
theorem dX4_ask_57 : decode cX4_ask 57 = .ok (.iload_n 1, 1) := by decide +kernel
theorem dX4_ask_58 : decode cX4_ask 58 = .ok (.iload_n 2, 1) := by decide +kernel
theorem dX4_ask_59 : decode cX4_ask 59 = .ok (.invokevirtual 61, 3) := by decide +kernel
theorem dX4_ask_62 : decode cX4_ask 62 = .ok (.iconst (-1), 1) := by decide +kernel
theorem dX4_ask_63 : decode cX4_ask 63 = .ok (.if_icmp .ne 13, 3) := by decide +kernel
theorem dX4_ask_66 : decode cX4_ask 66 = .ok (.aload_n 0, 1) := by decide +kernel
theorem dX4_ask_67 : decode cX4_ask 67 = .ok (.iload_n 1, 1) := by decide +kernel
theorem dX4_ask_68 : decode cX4_ask 68 = .ok (.iconst 5, 1) := by decide +kernel
theorem dX4_ask_69 : decode cX4_ask 69 = .ok (.invokevirtual 49, 3) := by decide +kernel
theorem dX4_ask_72 : decode cX4_ask 72 = .ok (.iconst 4, 1) := by decide +kernel
theorem dX4_ask_73 : decode cX4_ask 73 = .ok (.if_icmp .ne 9, 3) := by decide +kernel
theorem dX4_ask_76 : decode cX4_ask 76 = .ok (.aload_n 0, 1) := by decide +kernel
theorem dX4_ask_77 : decode cX4_ask 77 = .ok (.iconst 3, 1) := by decide +kernel
theorem dX4_ask_78 : decode cX4_ask 78 = .ok (.invokevirtual 39, 3) := by decide +kernel
theorem dX4_ask_81 : decode cX4_ask 81 = .ok (.ireturn, 1) := by decide +kernel
theorem dX4_ask_82 : decode cX4_ask 82 = .ok (.aload_n 0, 1) := by decide +kernel
theorem dX4_ask_83 : decode cX4_ask 83 = .ok (.iload_n 1, 1) := by decide +kernel
theorem dX4_ask_84 : decode cX4_ask 84 = .ok (.iconst 5, 1) := by decide +kernel
theorem dX4_ask_85 : decode cX4_ask 85 = .ok (.invokevirtual 49, 3) := by decide +kernel
theorem dX4_ask_88 : decode cX4_ask 88 = .ok (.istore 4, 2) := by decide +kernel
theorem dX4_ask_90 : decode cX4_ask 90 = .ok (.aload_n 0, 1) := by decide +kernel
theorem dX4_ask_91 : decode cX4_ask 91 = .ok (.iload_n 1, 1) := by decide +kernel
theorem dX4_ask_92 : decode cX4_ask 92 = .ok (.iload 4, 2) := by decide +kernel
theorem dX4_ask_94 : decode cX4_ask 94 = .ok (.iconst 0, 1) := by decide +kernel
theorem dX4_ask_95 : decode cX4_ask 95 = .ok (.iload_n 2, 1) := by decide +kernel
theorem dX4_ask_96 : decode cX4_ask 96 = .ok (.invokevirtual 64, 3) := by decide +kernel
theorem dX4_ask_99 : decode cX4_ask 99 = .ok (.aload_n 0, 1) := by decide +kernel
theorem dX4_ask_100 : decode cX4_ask 100 = .ok (.iload_n 1, 1) := by decide +kernel
theorem dX4_ask_101 : decode cX4_ask 101 = .ok (.iload 4, 2) := by decide +kernel
theorem dX4_ask_103 : decode cX4_ask 103 = .ok (.iconst 1, 1) := by decide +kernel
theorem dX4_ask_104 : decode cX4_ask 104 = .ok (.iload_n 3, 1) := by decide +kernel
theorem dX4_ask_105 : decode cX4_ask 105 = .ok (.invokevirtual 64, 3) := by decide +kernel
theorem dX4_ask_108 : decode cX4_ask 108 = .ok (.aload_n 0, 1) := by decide +kernel
theorem dX4_ask_109 : decode cX4_ask 109 = .ok (.iload_n 1, 1) := by decide +kernel
theorem dX4_ask_110 : decode cX4_ask 110 = .ok (.iload 4, 2) := by decide +kernel
theorem dX4_ask_112 : decode cX4_ask 112 = .ok (.iconst 2, 1) := by decide +kernel
theorem dX4_ask_113 : decode cX4_ask 113 = .ok (.iconst (-1), 1) := by decide +kernel
theorem dX4_ask_114 : decode cX4_ask 114 = .ok (.invokevirtual 64, 3) := by decide +kernel
theorem dX4_ask_117 : decode cX4_ask 117 = .ok (.aload_n 0, 1) := by decide +kernel
theorem dX4_ask_118 : decode cX4_ask 118 = .ok (.iload_n 1, 1) := by decide +kernel
theorem dX4_ask_119 : decode cX4_ask 119 = .ok (.iconst 5, 1) := by decide +kernel
theorem dX4_ask_120 : decode cX4_ask 120 = .ok (.iload 4, 2) := by decide +kernel
theorem dX4_ask_122 : decode cX4_ask 122 = .ok (.iconst 1, 1) := by decide +kernel
theorem dX4_ask_123 : decode cX4_ask 123 = .ok (.iadd, 1) := by decide +kernel
theorem dX4_ask_124 : decode cX4_ask 124 = .ok (.invokevirtual 68, 3) := by decide +kernel
theorem dX4_ask_127 : decode cX4_ask 127 = .ok (.iload 4, 2) := by decide +kernel
theorem dX4_ask_129 : decode cX4_ask 129 = .ok (.iconst 1, 1) := by decide +kernel
theorem dX4_ask_130 : decode cX4_ask 130 = .ok (.iadd, 1) := by decide +kernel
theorem dX4_ask_131 : decode cX4_ask 131 = .ok (.ireturn, 1) := by decide +kernel
set_option maxRecDepth 20000 in
theorem ggX4_set_X4_isDoor : GoodIn wsX4_set wsX4_isDoor := goodIn_r _ [6, 7, 8, 9, 5, 10, 24, 25, 26, 27, 28, 29, 30, 31] (by decide +kernel) (by decide +kernel)
set_option maxRecDepth 20000 in
theorem gX4_set_X4_isDoor : GoodIn wsX4_set (wsV RX4 57 RX4 yX4_isDoor wsX4_isDoor) := goodIn_app (goodIn_of _ (by decide +kernel)) ggX4_set_X4_isDoor
set_option maxRecDepth 20000 in
theorem ggX4_set_X4_fail : GoodIn wsX4_set wsX4_fail := goodIn_r _ [14, 1, 24, 25, 26, 27, 28, 29, 30, 31] (by decide +kernel) (by decide +kernel)
set_option maxRecDepth 20000 in
theorem gX4_set_X4_fail : GoodIn wsX4_set (wsV RX4 39 RX4 yX4_fail wsX4_fail) := goodIn_app (goodIn_of _ (by decide +kernel)) ggX4_set_X4_fail
set_option maxRecDepth 20000 in
theorem ggX4_set_X4_isIn : GoodIn wsX4_set wsX4_isIn := goodIn_r _ [10] (by decide +kernel) (by decide +kernel)
set_option maxRecDepth 20000 in
theorem gX4_set_X4_isIn : GoodIn wsX4_set (va_wsS RX4 35 yX4_isIn wsX4_isIn) := goodIn_app (goodIn_of _ (by decide +kernel)) ggX4_set_X4_isIn
set_option maxRecDepth 20000 in
theorem ggX4_set_X4_va : GoodIn wsX4_set wsX4_va := goodIn_r _ [18, 19, 24, 25, 26, 27, 28, 29, 30, 31] (by decide +kernel) (by decide +kernel)
set_option maxRecDepth 20000 in
theorem gX4_set_X4_va : GoodIn wsX4_set (wsV RX4 49 RX4 yX4_va wsX4_va) := goodIn_app (goodIn_of _ (by decide +kernel)) ggX4_set_X4_va
set_option maxRecDepth 20000 in
theorem ggX4_set_X4_put : GoodIn wsX4_set wsX4_put := goodIn_r _ [23, 19, 24, 25, 26, 27, 28, 29, 30, 31] (by decide +kernel) (by decide +kernel)
set_option maxRecDepth 20000 in
theorem gX4_set_X4_put : GoodIn wsX4_set (wsV RX4 68 RX4 yX4_put wsX4_put) := goodIn_app (goodIn_of _ (by decide +kernel)) ggX4_set_X4_put
theorem dX4_set_0 : decode cX4_set 0 = .ok (.aload_n 0, 1) := by decide +kernel
theorem dX4_set_1 : decode cX4_set 1 = .ok (.iconst 0, 1) := by decide +kernel
theorem dX4_set_2 : decode cX4_set 2 = .ok (.putfield 28, 3) := by decide +kernel
theorem dX4_set_5 : decode cX4_set 5 = .ok (.aload_n 0, 1) := by decide +kernel
theorem dX4_set_6 : decode cX4_set 6 = .ok (.iload_n 1, 1) := by decide +kernel
theorem dX4_set_7 : decode cX4_set 7 = .ok (.invokevirtual 57, 3) := by decide +kernel
theorem dX4_set_10 : decode cX4_set 10 = .ok (.ifCond .ne 9, 3) := by decide +kernel
theorem dX4_set_13 : decode cX4_set 13 = .ok (.aload_n 0, 1) := by decide +kernel
theorem dX4_set_14 : decode cX4_set 14 = .ok (.iconst 1, 1) := by decide +kernel
theorem dX4_set_15 : decode cX4_set 15 = .ok (.invokevirtual 39, 3) := by decide +kernel
theorem dX4_set_18 : decode cX4_set 18 = .ok (.ireturn, 1) := by decide +kernel
theorem dX4_set_19 : decode cX4_set 19 = .ok (.iload_n 2, 1) := by decide +kernel
theorem dX4_set_20 : decode cX4_set 20 = .ok (.iconst 0, 1) := by decide +kernel
theorem dX4_set_21 : decode cX4_set 21 = .ok (.iconst 3, 1) := by decide +kernel
theorem dX4_set_22 : decode cX4_set 22 = .ok (.invokestatic 35, 3) := by decide +kernel
theorem dX4_set_25 : decode cX4_set 25 = .ok (.ifCond .eq 13, 3) := by decide +kernel
theorem dX4_set_28 : decode cX4_set 28 = .ok (.iload_n 3, 1) := by decide +kernel
theorem dX4_set_29 : decode cX4_set 29 = .ok (.iconst 1, 1) := by decide +kernel
theorem dX4_set_30 : decode cX4_set 30 = .ok (.bipush 20, 2) := by decide +kernel
theorem dX4_set_32 : decode cX4_set 32 = .ok (.invokestatic 35, 3) := by decide +kernel
theorem dX4_set_35 : decode cX4_set 35 = .ok (.ifCond .ne 9, 3) := by decide +kernel
theorem dX4_set_38 : decode cX4_set 38 = .ok (.aload_n 0, 1) := by decide +kernel
theorem dX4_set_39 : decode cX4_set 39 = .ok (.iconst 2, 1) := by decide +kernel
theorem dX4_set_40 : decode cX4_set 40 = .ok (.invokevirtual 39, 3) := by decide +kernel
theorem dX4_set_43 : decode cX4_set 43 = .ok (.ireturn, 1) := by decide +kernel
theorem dX4_set_44 : decode cX4_set 44 = .ok (.bipush 100, 2) := by decide +kernel
theorem dX4_set_46 : decode cX4_set 46 = .ok (.aload_n 0, 1) := by decide +kernel
theorem dX4_set_47 : decode cX4_set 47 = .ok (.iload_n 1, 1) := by decide +kernel
theorem dX4_set_48 : decode cX4_set 48 = .ok (.iconst 2, 1) := by decide +kernel
theorem dX4_set_49 : decode cX4_set 49 = .ok (.invokevirtual 49, 3) := by decide +kernel
theorem dX4_set_52 : decode cX4_set 52 = .ok (.imul, 1) := by decide +kernel
theorem dX4_set_53 : decode cX4_set 53 = .ok (.aload_n 0, 1) := by decide +kernel
theorem dX4_set_54 : decode cX4_set 54 = .ok (.iload_n 1, 1) := by decide +kernel
theorem dX4_set_55 : decode cX4_set 55 = .ok (.iconst 1, 1) := by decide +kernel
theorem dX4_set_56 : decode cX4_set 56 = .ok (.invokevirtual 49, 3) := by decide +kernel
theorem dX4_set_59 : decode cX4_set 59 = .ok (.iadd, 1) := by decide +kernel
theorem dX4_set_60 : decode cX4_set 60 = .ok (.istore 4, 2) := by decide +kernel
theorem dX4_set_62 : decode cX4_set 62 = .ok (.aload_n 0, 1) := by decide +kernel
theorem dX4_set_63 : decode cX4_set 63 = .ok (.iload_n 1, 1) := by decide +kernel
theorem dX4_set_64 : decode cX4_set 64 = .ok (.iconst 2, 1) := by decide +kernel
theorem dX4_set_65 : decode cX4_set 65 = .ok (.iload_n 2, 1) := by decide +kernel
theorem dX4_set_66 : decode cX4_set 66 = .ok (.invokevirtual 68, 3) := by decide +kernel
theorem dX4_set_69 : decode cX4_set 69 = .ok (.aload_n 0, 1) := by decide +kernel
theorem dX4_set_70 : decode cX4_set 70 = .ok (.iload_n 1, 1) := by decide +kernel
theorem dX4_set_71 : decode cX4_set 71 = .ok (.iconst 1, 1) := by decide +kernel
theorem dX4_set_72 : decode cX4_set 72 = .ok (.iload_n 3, 1) := by decide +kernel
theorem dX4_set_73 : decode cX4_set 73 = .ok (.invokevirtual 68, 3) := by decide +kernel
theorem dX4_set_76 : decode cX4_set 76 = .ok (.iload 4, 2) := by decide +kernel
theorem dX4_set_78 : decode cX4_set 78 = .ok (.ireturn, 1) := by decide +kernel
theorem dX4_send_0 : decode cX4_send 0 = .ok (.aload_n 0, 1) := by decide +kernel
theorem dX4_send_1 : decode cX4_send 1 = .ok (.getfield 22, 3) := by decide +kernel
theorem dX4_send_4 : decode cX4_send 4 = .ok (.iconst 1, 1) := by decide +kernel
theorem dX4_send_5 : decode cX4_send 5 = .ok (.iaload, 1) := by decide +kernel
theorem dX4_send_6 : decode cX4_send 6 = .ok (.bipush 60, 2) := by decide +kernel
theorem dX4_send_8 : decode cX4_send 8 = .ok (.if_icmp .ne 14, 3) := by decide +kernel
theorem dX4_send_11 : decode cX4_send 11 = .ok (.aload_n 0, 1) := by decide +kernel
theorem dX4_send_12 : decode cX4_send 12 = .ok (.getfield 22, 3) := by decide +kernel
theorem dX4_send_15 : decode cX4_send 15 = .ok (.iconst 2, 1) := by decide +kernel
theorem dX4_send_16 : decode cX4_send 16 = .ok (.dup2, 1) := by decide +kernel
theorem dX4_send_17 : decode cX4_send 17 = .ok (.iaload, 1) := by decide +kernel
theorem dX4_send_18 : decode cX4_send 18 = .ok (.iconst 1, 1) := by decide +kernel
theorem dX4_send_19 : decode cX4_send 19 = .ok (.iadd, 1) := by decide +kernel
theorem dX4_send_20 : decode cX4_send 20 = .ok (.iastore, 1) := by decide +kernel
theorem dX4_send_21 : decode cX4_send 21 = .ok (.return_, 1) := by decide +kernel
theorem dX4_send_22 : decode cX4_send 22 = .ok (.iconst 5, 1) := by decide +kernel
theorem dX4_send_23 : decode cX4_send 23 = .ok (.aload_n 0, 1) := by decide +kernel
theorem dX4_send_24 : decode cX4_send 24 = .ok (.getfield 22, 3) := by decide +kernel
theorem dX4_send_27 : decode cX4_send 27 = .ok (.iconst 1, 1) := by decide +kernel
theorem dX4_send_28 : decode cX4_send 28 = .ok (.iaload, 1) := by decide +kernel
theorem dX4_send_29 : decode cX4_send 29 = .ok (.imul, 1) := by decide +kernel
theorem dX4_send_30 : decode cX4_send 30 = .ok (.istore 5, 2) := by decide +kernel
theorem dX4_send_32 : decode cX4_send 32 = .ok (.aload_n 0, 1) := by decide +kernel
theorem dX4_send_33 : decode cX4_send 33 = .ok (.getfield 19, 3) := by decide +kernel
theorem dX4_send_36 : decode cX4_send 36 = .ok (.iload 5, 2) := by decide +kernel
theorem dX4_send_38 : decode cX4_send 38 = .ok (.iconst 0, 1) := by decide +kernel
theorem dX4_send_39 : decode cX4_send 39 = .ok (.iadd, 1) := by decide +kernel
theorem dX4_send_40 : decode cX4_send 40 = .ok (.iload_n 1, 1) := by decide +kernel
theorem dX4_send_41 : decode cX4_send 41 = .ok (.iastore, 1) := by decide +kernel
theorem dX4_send_42 : decode cX4_send 42 = .ok (.aload_n 0, 1) := by decide +kernel
theorem dX4_send_43 : decode cX4_send 43 = .ok (.getfield 19, 3) := by decide +kernel
theorem dX4_send_46 : decode cX4_send 46 = .ok (.iload 5, 2) := by decide +kernel
theorem dX4_send_48 : decode cX4_send 48 = .ok (.iconst 1, 1) := by decide +kernel
theorem dX4_send_49 : decode cX4_send 49 = .ok (.iadd, 1) := by decide +kernel
theorem dX4_send_50 : decode cX4_send 50 = .ok (.iload_n 2, 1) := by decide +kernel
theorem dX4_send_51 : decode cX4_send 51 = .ok (.iastore, 1) := by decide +kernel
theorem dX4_send_52 : decode cX4_send 52 = .ok (.aload_n 0, 1) := by decide +kernel
theorem dX4_send_53 : decode cX4_send 53 = .ok (.getfield 19, 3) := by decide +kernel
theorem dX4_send_56 : decode cX4_send 56 = .ok (.iload 5, 2) := by decide +kernel
theorem dX4_send_58 : decode cX4_send 58 = .ok (.iconst 2, 1) := by decide +kernel
theorem dX4_send_59 : decode cX4_send 59 = .ok (.iadd, 1) := by decide +kernel
theorem dX4_send_60 : decode cX4_send 60 = .ok (.iload_n 3, 1) := by decide +kernel
theorem dX4_send_61 : decode cX4_send 61 = .ok (.iastore, 1) := by decide +kernel
theorem dX4_send_62 : decode cX4_send 62 = .ok (.aload_n 0, 1) := by decide +kernel
theorem dX4_send_63 : decode cX4_send 63 = .ok (.getfield 19, 3) := by decide +kernel
theorem dX4_send_66 : decode cX4_send 66 = .ok (.iload 5, 2) := by decide +kernel
theorem dX4_send_68 : decode cX4_send 68 = .ok (.iconst 3, 1) := by decide +kernel
theorem dX4_send_69 : decode cX4_send 69 = .ok (.iadd, 1) := by decide +kernel
theorem dX4_send_70 : decode cX4_send 70 = .ok (.iload 4, 2) := by decide +kernel
theorem dX4_send_72 : decode cX4_send 72 = .ok (.iastore, 1) := by decide +kernel
theorem dX4_send_73 : decode cX4_send 73 = .ok (.aload_n 0, 1) := by decide +kernel
theorem dX4_send_74 : decode cX4_send 74 = .ok (.getfield 19, 3) := by decide +kernel
theorem dX4_send_77 : decode cX4_send 77 = .ok (.iload 5, 2) := by decide +kernel
theorem dX4_send_79 : decode cX4_send 79 = .ok (.iconst 4, 1) := by decide +kernel
theorem dX4_send_80 : decode cX4_send 80 = .ok (.iadd, 1) := by decide +kernel
theorem dX4_send_81 : decode cX4_send 81 = .ok (.iload 4, 2) := by decide +kernel
theorem dX4_send_83 : decode cX4_send 83 = .ok (.iastore, 1) := by decide +kernel
theorem dX4_send_84 : decode cX4_send 84 = .ok (.aload_n 0, 1) := by decide +kernel
theorem dX4_send_85 : decode cX4_send 85 = .ok (.getfield 22, 3) := by decide +kernel
theorem dX4_send_88 : decode cX4_send 88 = .ok (.iconst 1, 1) := by decide +kernel
theorem dX4_send_89 : decode cX4_send 89 = .ok (.dup2, 1) := by decide +kernel
theorem dX4_send_90 : decode cX4_send 90 = .ok (.iaload, 1) := by decide +kernel
theorem dX4_send_91 : decode cX4_send 91 = .ok (.iconst 1, 1) := by decide +kernel
theorem dX4_send_92 : decode cX4_send 92 = .ok (.iadd, 1) := by decide +kernel
theorem dX4_send_93 : decode cX4_send 93 = .ok (.iastore, 1) := by decide +kernel
theorem dX4_send_94 : decode cX4_send 94 = .ok (.return_, 1) := by decide +kernel
set_option maxRecDepth 20000 in
theorem ggX4_wake_X4_va : GoodIn wsX4_wake wsX4_va := goodIn_r _ [5, 6, 30, 31, 32, 33, 34, 35, 36, 37] (by decide +kernel) (by decide +kernel)
set_option maxRecDepth 20000 in
theorem gX4_wake_X4_va : GoodIn wsX4_wake (wsV RX4 49 RX4 yX4_va wsX4_va) := goodIn_app (goodIn_of _ (by decide +kernel)) ggX4_wake_X4_va
set_option maxRecDepth 20000 in
theorem ggX4_wake_X4_state : GoodIn wsX4_wake wsX4_state := goodIn_r _ [10, 11, 12, 13, 4, 14, 6, 30, 31, 32, 33, 34, 35, 36, 37] (by decide +kernel) (by decide +kernel)
set_option maxRecDepth 20000 in
theorem gX4_wake_X4_state : GoodIn wsX4_wake (wsV RX4 72 RX4 yX4_state wsX4_state) := goodIn_app (goodIn_of _ (by decide +kernel)) ggX4_wake_X4_state
set_option maxRecDepth 20000 in
theorem ggX4_wake_X4_put : GoodIn wsX4_wake wsX4_put := goodIn_r _ [14, 6, 30, 31, 32, 33, 34, 35, 36, 37] (by decide +kernel) (by decide +kernel)
set_option maxRecDepth 20000 in
theorem gX4_wake_X4_put : GoodIn wsX4_wake (wsV RX4 68 RX4 yX4_put wsX4_put) := goodIn_app (goodIn_of _ (by decide +kernel)) ggX4_wake_X4_put
set_option maxRecDepth 20000 in
theorem ggX4_wake_X4_setLink : GoodIn wsX4_wake wsX4_setLink := goodIn_r _ [18, 19, 30, 31, 32, 33, 34, 35, 36, 37] (by decide +kernel) (by decide +kernel)
set_option maxRecDepth 20000 in
theorem gX4_wake_X4_setLink : GoodIn wsX4_wake (wsV RX4 64 RX4 yX4_setLink wsX4_setLink) := goodIn_app (goodIn_of _ (by decide +kernel)) ggX4_wake_X4_setLink
set_option maxRecDepth 20000 in
theorem ggX4_wake_X4_li : GoodIn wsX4_wake wsX4_li := goodIn_r _ [23, 19, 30, 31, 32, 33, 34, 35, 36, 37] (by decide +kernel) (by decide +kernel)
set_option maxRecDepth 20000 in
theorem gX4_wake_X4_li : GoodIn wsX4_wake (wsV RX4 53 RX4 yX4_li wsX4_li) := goodIn_app (goodIn_of _ (by decide +kernel)) ggX4_wake_X4_li
set_option maxRecDepth 20000 in
theorem ggX4_wake_X4_send : GoodIn wsX4_wake wsX4_send := goodIn_r _ [27, 28, 29, 30, 31, 32, 33, 34, 35, 36, 37] (by decide +kernel) (by decide +kernel)
set_option maxRecDepth 20000 in
theorem gX4_wake_X4_send : GoodIn wsX4_wake (wsV RX4 75 RX4 yX4_send wsX4_send) := goodIn_app (goodIn_of _ (by decide +kernel)) ggX4_wake_X4_send
theorem dX4_wake_0 : decode cX4_wake 0 = .ok (.aload_n 0, 1) := by decide +kernel
theorem dX4_wake_1 : decode cX4_wake 1 = .ok (.iload_n 1, 1) := by decide +kernel
theorem dX4_wake_2 : decode cX4_wake 2 = .ok (.iconst 1, 1) := by decide +kernel
theorem dX4_wake_3 : decode cX4_wake 3 = .ok (.aload_n 0, 1) := by decide +kernel
theorem dX4_wake_4 : decode cX4_wake 4 = .ok (.iload_n 1, 1) := by decide +kernel
theorem dX4_wake_5 : decode cX4_wake 5 = .ok (.iconst 1, 1) := by decide +kernel
theorem dX4_wake_6 : decode cX4_wake 6 = .ok (.invokevirtual 49, 3) := by decide +kernel
theorem dX4_wake_9 : decode cX4_wake 9 = .ok (.invokevirtual 72, 3) := by decide +kernel
theorem dX4_wake_12 : decode cX4_wake 12 = .ok (.aload_n 0, 1) := by decide +kernel
theorem dX4_wake_13 : decode cX4_wake 13 = .ok (.iload_n 1, 1) := by decide +kernel
theorem dX4_wake_14 : decode cX4_wake 14 = .ok (.bipush 8, 2) := by decide +kernel
theorem dX4_wake_16 : decode cX4_wake 16 = .ok (.iconst 0, 1) := by decide +kernel
theorem dX4_wake_17 : decode cX4_wake 17 = .ok (.invokevirtual 68, 3) := by decide +kernel
theorem dX4_wake_20 : decode cX4_wake 20 = .ok (.iconst 0, 1) := by decide +kernel
theorem dX4_wake_21 : decode cX4_wake 21 = .ok (.istore_n 2, 1) := by decide +kernel
theorem dX4_wake_22 : decode cX4_wake 22 = .ok (.iload_n 2, 1) := by decide +kernel
theorem dX4_wake_23 : decode cX4_wake 23 = .ok (.aload_n 0, 1) := by decide +kernel
theorem dX4_wake_24 : decode cX4_wake 24 = .ok (.iload_n 1, 1) := by decide +kernel
theorem dX4_wake_25 : decode cX4_wake 25 = .ok (.iconst 5, 1) := by decide +kernel
theorem dX4_wake_26 : decode cX4_wake 26 = .ok (.invokevirtual 49, 3) := by decide +kernel
theorem dX4_wake_29 : decode cX4_wake 29 = .ok (.if_icmp .ge 37, 3) := by decide +kernel
theorem dX4_wake_32 : decode cX4_wake 32 = .ok (.aload_n 0, 1) := by decide +kernel
theorem dX4_wake_33 : decode cX4_wake 33 = .ok (.iload_n 1, 1) := by decide +kernel
theorem dX4_wake_34 : decode cX4_wake 34 = .ok (.iload_n 2, 1) := by decide +kernel
theorem dX4_wake_35 : decode cX4_wake 35 = .ok (.iconst 2, 1) := by decide +kernel
theorem dX4_wake_36 : decode cX4_wake 36 = .ok (.iconst (-1), 1) := by decide +kernel
theorem dX4_wake_37 : decode cX4_wake 37 = .ok (.invokevirtual 64, 3) := by decide +kernel
theorem dX4_wake_40 : decode cX4_wake 40 = .ok (.aload_n 0, 1) := by decide +kernel
theorem dX4_wake_41 : decode cX4_wake 41 = .ok (.iload_n 1, 1) := by decide +kernel
theorem dX4_wake_42 : decode cX4_wake 42 = .ok (.aload_n 0, 1) := by decide +kernel
theorem dX4_wake_43 : decode cX4_wake 43 = .ok (.iload_n 1, 1) := by decide +kernel
theorem dX4_wake_44 : decode cX4_wake 44 = .ok (.iload_n 2, 1) := by decide +kernel
theorem dX4_wake_45 : decode cX4_wake 45 = .ok (.iconst 0, 1) := by decide +kernel
theorem dX4_wake_46 : decode cX4_wake 46 = .ok (.invokevirtual 53, 3) := by decide +kernel
theorem dX4_wake_49 : decode cX4_wake 49 = .ok (.iconst 0, 1) := by decide +kernel
theorem dX4_wake_50 : decode cX4_wake 50 = .ok (.aload_n 0, 1) := by decide +kernel
theorem dX4_wake_51 : decode cX4_wake 51 = .ok (.iload_n 1, 1) := by decide +kernel
theorem dX4_wake_52 : decode cX4_wake 52 = .ok (.iload_n 2, 1) := by decide +kernel
theorem dX4_wake_53 : decode cX4_wake 53 = .ok (.iconst 1, 1) := by decide +kernel
theorem dX4_wake_54 : decode cX4_wake 54 = .ok (.invokevirtual 53, 3) := by decide +kernel
theorem dX4_wake_57 : decode cX4_wake 57 = .ok (.invokevirtual 75, 3) := by decide +kernel
theorem dX4_wake_60 : decode cX4_wake 60 = .ok (.iinc 2 1, 3) := by decide +kernel
theorem dX4_wake_63 : decode cX4_wake 63 = .ok (.goto (-41), 3) := by decide +kernel
theorem dX4_wake_66 : decode cX4_wake 66 = .ok (.return_, 1) := by decide +kernel
set_option maxRecDepth 20000 in
theorem ggX4_state_X4_put : GoodIn wsX4_state wsX4_put := goodIn_r _ [5, 6, 7, 8, 9, 10, 11, 12, 13, 14] (by decide +kernel) (by decide +kernel)
set_option maxRecDepth 20000 in
theorem gX4_state_X4_put : GoodIn wsX4_state (wsV RX4 68 RX4 yX4_put wsX4_put) := goodIn_app (goodIn_of _ (by decide +kernel)) ggX4_state_X4_put
theorem dX4_state_0 : decode cX4_state 0 = .ok (.aload_n 0, 1) := by decide +kernel
theorem dX4_state_1 : decode cX4_state 1 = .ok (.iload_n 1, 1) := by decide +kernel
theorem dX4_state_2 : decode cX4_state 2 = .ok (.iconst 3, 1) := by decide +kernel
theorem dX4_state_3 : decode cX4_state 3 = .ok (.iload_n 2, 1) := by decide +kernel
theorem dX4_state_4 : decode cX4_state 4 = .ok (.invokevirtual 68, 3) := by decide +kernel
theorem dX4_state_7 : decode cX4_state 7 = .ok (.aload_n 0, 1) := by decide +kernel
theorem dX4_state_8 : decode cX4_state 8 = .ok (.iload_n 1, 1) := by decide +kernel
theorem dX4_state_9 : decode cX4_state 9 = .ok (.iconst 4, 1) := by decide +kernel
theorem dX4_state_10 : decode cX4_state 10 = .ok (.iload_n 3, 1) := by decide +kernel
theorem dX4_state_11 : decode cX4_state 11 = .ok (.invokevirtual 68, 3) := by decide +kernel
theorem dX4_state_14 : decode cX4_state 14 = .ok (.return_, 1) := by decide +kernel
set_option maxRecDepth 20000 in
theorem ggX4_turn_X4_state : GoodIn wsX4_turn wsX4_state := goodIn_r _ [5, 6, 7, 8, 4, 9, 10, 15, 16, 17, 18, 19, 20, 21, 22] (by decide +kernel) (by decide +kernel)
set_option maxRecDepth 20000 in
theorem gX4_turn_X4_state : GoodIn wsX4_turn (wsV RX4 72 RX4 yX4_state wsX4_state) := goodIn_app (goodIn_of _ (by decide +kernel)) ggX4_turn_X4_state
set_option maxRecDepth 20000 in
theorem ggX4_turn_X4_va : GoodIn wsX4_turn wsX4_va := goodIn_r _ [14, 10, 15, 16, 17, 18, 19, 20, 21, 22] (by decide +kernel) (by decide +kernel)
set_option maxRecDepth 20000 in
theorem gX4_turn_X4_va : GoodIn wsX4_turn (wsV RX4 49 RX4 yX4_va wsX4_va) := goodIn_app (goodIn_of _ (by decide +kernel)) ggX4_turn_X4_va
set_option maxRecDepth 20000 in
theorem ggX4_turn_X4_put : GoodIn wsX4_turn wsX4_put := goodIn_r _ [9, 10, 15, 16, 17, 18, 19, 20, 21, 22] (by decide +kernel) (by decide +kernel)
set_option maxRecDepth 20000 in
theorem gX4_turn_X4_put : GoodIn wsX4_turn (wsV RX4 68 RX4 yX4_put wsX4_put) := goodIn_app (goodIn_of _ (by decide +kernel)) ggX4_turn_X4_put
theorem dX4_turn_0 : decode cX4_turn 0 = .ok (.aload_n 0, 1) := by decide +kernel
theorem dX4_turn_1 : decode cX4_turn 1 = .ok (.iload_n 1, 1) := by decide +kernel
theorem dX4_turn_2 : decode cX4_turn 2 = .ok (.iload_n 2, 1) := by decide +kernel
theorem dX4_turn_3 : decode cX4_turn 3 = .ok (.ifCond .eq 7, 3) := by decide +kernel
theorem dX4_turn_6 : decode cX4_turn 6 = .ok (.iconst 2, 1) := by decide +kernel
theorem dX4_turn_7 : decode cX4_turn 7 = .ok (.goto 4, 3) := by decide +kernel
theorem dX4_turn_10 : decode cX4_turn 10 = .ok (.iconst 3, 1) := by decide +kernel
theorem dX4_turn_11 : decode cX4_turn 11 = .ok (.iload_n 2, 1) := by decide +kernel
theorem dX4_turn_12 : decode cX4_turn 12 = .ok (.ifCond .eq 8, 3) := by decide +kernel
theorem dX4_turn_15 : decode cX4_turn 15 = .ok (.bipush 12, 2) := by decide +kernel
theorem dX4_turn_17 : decode cX4_turn 17 = .ok (.goto 4, 3) := by decide +kernel
theorem dX4_turn_20 : decode cX4_turn 20 = .ok (.iconst 4, 1) := by decide +kernel
theorem dX4_turn_21 : decode cX4_turn 21 = .ok (.invokevirtual 72, 3) := by decide +kernel
theorem dX4_turn_24 : decode cX4_turn 24 = .ok (.iload_n 2, 1) := by decide +kernel
theorem dX4_turn_25 : decode cX4_turn 25 = .ok (.ifCond .eq 8, 3) := by decide +kernel
theorem dX4_turn_28 : decode cX4_turn 28 = .ok (.bipush 6, 2) := by decide +kernel
theorem dX4_turn_30 : decode cX4_turn 30 = .ok (.goto 5, 3) := by decide +kernel
theorem dX4_turn_33 : decode cX4_turn 33 = .ok (.bipush 7, 2) := by decide +kernel
theorem dX4_turn_35 : decode cX4_turn 35 = .ok (.istore_n 3, 1) := by decide +kernel
theorem dX4_turn_36 : decode cX4_turn 36 = .ok (.aload_n 0, 1) := by decide +kernel
theorem dX4_turn_37 : decode cX4_turn 37 = .ok (.iload_n 1, 1) := by decide +kernel
theorem dX4_turn_38 : decode cX4_turn 38 = .ok (.iload_n 3, 1) := by decide +kernel
theorem dX4_turn_39 : decode cX4_turn 39 = .ok (.aload_n 0, 1) := by decide +kernel
theorem dX4_turn_40 : decode cX4_turn 40 = .ok (.iload_n 1, 1) := by decide +kernel
theorem dX4_turn_41 : decode cX4_turn 41 = .ok (.iload_n 3, 1) := by decide +kernel
theorem dX4_turn_42 : decode cX4_turn 42 = .ok (.invokevirtual 49, 3) := by decide +kernel
theorem dX4_turn_45 : decode cX4_turn 45 = .ok (.iconst 1, 1) := by decide +kernel
theorem dX4_turn_46 : decode cX4_turn 46 = .ok (.iadd, 1) := by decide +kernel
theorem dX4_turn_47 : decode cX4_turn 47 = .ok (.invokevirtual 68, 3) := by decide +kernel
theorem dX4_turn_50 : decode cX4_turn 50 = .ok (.return_, 1) := by decide +kernel
set_option maxRecDepth 20000 in
theorem ggX4_whisper_X4_isDoor : GoodIn wsX4_whisper wsX4_isDoor := goodIn_r _ [6, 7, 8, 9, 5, 10, 47, 48, 49, 50, 51, 52, 53, 54] (by decide +kernel) (by decide +kernel)
set_option maxRecDepth 20000 in
theorem gX4_whisper_X4_isDoor : GoodIn wsX4_whisper (wsV RX4 57 RX4 yX4_isDoor wsX4_isDoor) := goodIn_app (goodIn_of _ (by decide +kernel)) ggX4_whisper_X4_isDoor
set_option maxRecDepth 20000 in
theorem ggX4_whisper_X4_isIn : GoodIn wsX4_whisper wsX4_isIn := goodIn_r _ [10] (by decide +kernel) (by decide +kernel)
set_option maxRecDepth 20000 in
theorem gX4_whisper_X4_isIn : GoodIn wsX4_whisper (va_wsS RX4 35 yX4_isIn wsX4_isIn) := goodIn_app (goodIn_of _ (by decide +kernel)) ggX4_whisper_X4_isIn
set_option maxRecDepth 20000 in
theorem ggX4_whisper_X4_va : GoodIn wsX4_whisper wsX4_va := goodIn_r _ [14, 15, 47, 48, 49, 50, 51, 52, 53, 54] (by decide +kernel) (by decide +kernel)
set_option maxRecDepth 20000 in
theorem gX4_whisper_X4_va : GoodIn wsX4_whisper (wsV RX4 49 RX4 yX4_va wsX4_va) := goodIn_app (goodIn_of _ (by decide +kernel)) ggX4_whisper_X4_va
set_option maxRecDepth 20000 in
theorem ggX4_whisper_X4_wake : GoodIn wsX4_whisper wsX4_wake := goodIn_r _ [19, 11, 12, 13, 5, 14, 15, 20, 21, 22, 23, 24, 25, 26, 27, 28, 29, 30, 31, 32, 33, 34, 35, 36, 37, 38, 39, 40, 41, 42, 47, 48, 49, 50, 51, 52, 53, 54] (by decide +kernel) (by decide +kernel)
set_option maxRecDepth 20000 in
theorem gX4_whisper_X4_wake : GoodIn wsX4_whisper (wsV RX4 78 RX4 yX4_wake wsX4_wake) := goodIn_app (goodIn_of _ (by decide +kernel)) ggX4_whisper_X4_wake
set_option maxRecDepth 20000 in
theorem ggX4_whisper_X4_turn : GoodIn wsX4_whisper wsX4_turn := goodIn_r _ [46, 20, 21, 22, 5, 23, 24, 25, 26, 27, 15, 11, 12, 13, 14, 47, 48, 49, 50, 51, 52, 53, 54] (by decide +kernel) (by decide +kernel)
set_option maxRecDepth 20000 in
theorem gX4_whisper_X4_turn : GoodIn wsX4_whisper (wsV RX4 82 RX4 yX4_turn wsX4_turn) := goodIn_app (goodIn_of _ (by decide +kernel)) ggX4_whisper_X4_turn
theorem dX4_whisper_0 : decode cX4_whisper 0 = .ok (.aload_n 0, 1) := by decide +kernel
theorem dX4_whisper_1 : decode cX4_whisper 1 = .ok (.aload_n 0, 1) := by decide +kernel
theorem dX4_whisper_2 : decode cX4_whisper 2 = .ok (.iload_n 1, 1) := by decide +kernel
theorem dX4_whisper_3 : decode cX4_whisper 3 = .ok (.invokevirtual 57, 3) := by decide +kernel
theorem dX4_whisper_6 : decode cX4_whisper 6 = .ok (.ifCond .ne 7, 3) := by decide +kernel
theorem dX4_whisper_9 : decode cX4_whisper 9 = .ok (.iconst 1, 1) := by decide +kernel
theorem dX4_whisper_10 : decode cX4_whisper 10 = .ok (.goto 18, 3) := by decide +kernel
theorem dX4_whisper_13 : decode cX4_whisper 13 = .ok (.iload_n 2, 1) := by decide +kernel
theorem dX4_whisper_14 : decode cX4_whisper 14 = .ok (.iconst 0, 1) := by decide +kernel
theorem dX4_whisper_15 : decode cX4_whisper 15 = .ok (.bipush 99, 2) := by decide +kernel
theorem dX4_whisper_17 : decode cX4_whisper 17 = .ok (.invokestatic 35, 3) := by decide +kernel
theorem dX4_whisper_20 : decode cX4_whisper 20 = .ok (.ifCond .ne 7, 3) := by decide +kernel
theorem dX4_whisper_23 : decode cX4_whisper 23 = .ok (.iconst 2, 1) := by decide +kernel
theorem dX4_whisper_24 : decode cX4_whisper 24 = .ok (.goto 4, 3) := by decide +kernel
theorem dX4_whisper_27 : decode cX4_whisper 27 = .ok (.iconst 0, 1) := by decide +kernel
theorem dX4_whisper_28 : decode cX4_whisper 28 = .ok (.putfield 28, 3) := by decide +kernel
theorem dX4_whisper_31 : decode cX4_whisper 31 = .ok (.aload_n 0, 1) := by decide +kernel
theorem dX4_whisper_32 : decode cX4_whisper 32 = .ok (.getfield 28, 3) := by decide +kernel
theorem dX4_whisper_35 : decode cX4_whisper 35 = .ok (.ifCond .ne 12, 3) := by decide +kernel
theorem dX4_whisper_38 : decode cX4_whisper 38 = .ok (.aload_n 0, 1) := by decide +kernel
theorem dX4_whisper_39 : decode cX4_whisper 39 = .ok (.iload_n 1, 1) := by decide +kernel
theorem dX4_whisper_40 : decode cX4_whisper 40 = .ok (.iconst 3, 1) := by decide +kernel
theorem dX4_whisper_41 : decode cX4_whisper 41 = .ok (.invokevirtual 49, 3) := by decide +kernel
theorem dX4_whisper_44 : decode cX4_whisper 44 = .ok (.ifCond .eq 5, 3) := by decide +kernel
theorem dX4_whisper_47 : decode cX4_whisper 47 = .ok (.iconst 0, 1) := by decide +kernel
theorem dX4_whisper_48 : decode cX4_whisper 48 = .ok (.ireturn, 1) := by decide +kernel
theorem dX4_whisper_49 : decode cX4_whisper 49 = .ok (.iload_n 2, 1) := by decide +kernel
theorem dX4_whisper_50 : decode cX4_whisper 50 = .ok (.aload_n 0, 1) := by decide +kernel
theorem dX4_whisper_51 : decode cX4_whisper 51 = .ok (.iload_n 1, 1) := by decide +kernel
theorem dX4_whisper_52 : decode cX4_whisper 52 = .ok (.iconst 0, 1) := by decide +kernel
theorem dX4_whisper_53 : decode cX4_whisper 53 = .ok (.invokevirtual 49, 3) := by decide +kernel
theorem dX4_whisper_56 : decode cX4_whisper 56 = .ok (.if_icmp .ne 7, 3) := by decide +kernel
theorem dX4_whisper_59 : decode cX4_whisper 59 = .ok (.iconst 1, 1) := by decide +kernel
theorem dX4_whisper_60 : decode cX4_whisper 60 = .ok (.goto 4, 3) := by decide +kernel
theorem dX4_whisper_63 : decode cX4_whisper 63 = .ok (.iconst 0, 1) := by decide +kernel
theorem dX4_whisper_64 : decode cX4_whisper 64 = .ok (.istore_n 3, 1) := by decide +kernel
theorem dX4_whisper_65 : decode cX4_whisper 65 = .ok (.iload_n 3, 1) := by decide +kernel
theorem dX4_whisper_66 : decode cX4_whisper 66 = .ok (.ifCond .eq 11, 3) := by decide +kernel
theorem dX4_whisper_69 : decode cX4_whisper 69 = .ok (.aload_n 0, 1) := by decide +kernel
theorem dX4_whisper_70 : decode cX4_whisper 70 = .ok (.iload_n 1, 1) := by decide +kernel
theorem dX4_whisper_71 : decode cX4_whisper 71 = .ok (.invokevirtual 78, 3) := by decide +kernel
theorem dX4_whisper_74 : decode cX4_whisper 74 = .ok (.goto 9, 3) := by decide +kernel
theorem dX4_whisper_77 : decode cX4_whisper 77 = .ok (.aload_n 0, 1) := by decide +kernel
theorem dX4_whisper_78 : decode cX4_whisper 78 = .ok (.iload_n 1, 1) := by decide +kernel
theorem dX4_whisper_79 : decode cX4_whisper 79 = .ok (.iconst 0, 1) := by decide +kernel
theorem dX4_whisper_80 : decode cX4_whisper 80 = .ok (.invokevirtual 82, 3) := by decide +kernel
theorem dX4_whisper_83 : decode cX4_whisper 83 = .ok (.iload_n 3, 1) := by decide +kernel
theorem dX4_whisper_84 : decode cX4_whisper 84 = .ok (.ireturn, 1) := by decide +kernel
set_option maxRecDepth 20000 in
theorem ggX4_answers_X4_va : GoodIn wsX4_answers wsX4_va := goodIn_r _ [5, 6, 12, 13, 14, 15, 16, 17, 18, 19] (by decide +kernel) (by decide +kernel)
set_option maxRecDepth 20000 in
theorem gX4_answers_X4_va : GoodIn wsX4_answers (wsV RX4 49 RX4 yX4_va wsX4_va) := goodIn_app (goodIn_of _ (by decide +kernel)) ggX4_answers_X4_va
set_option maxRecDepth 20000 in
theorem ggX4_answers_X4_li : GoodIn wsX4_answers wsX4_li := goodIn_r _ [10, 11, 12, 13, 14, 15, 16, 17, 18, 19] (by decide +kernel) (by decide +kernel)
set_option maxRecDepth 20000 in
theorem gX4_answers_X4_li : GoodIn wsX4_answers (wsV RX4 53 RX4 yX4_li wsX4_li) := goodIn_app (goodIn_of _ (by decide +kernel)) ggX4_answers_X4_li
theorem dX4_answers_0 : decode cX4_answers 0 = .ok (.iconst 0, 1) := by decide +kernel
theorem dX4_answers_1 : decode cX4_answers 1 = .ok (.istore_n 3, 1) := by decide +kernel
theorem dX4_answers_2 : decode cX4_answers 2 = .ok (.iconst 0, 1) := by decide +kernel
theorem dX4_answers_3 : decode cX4_answers 3 = .ok (.istore 4, 2) := by decide +kernel
theorem dX4_answers_5 : decode cX4_answers 5 = .ok (.iload 4, 2) := by decide +kernel
theorem dX4_answers_7 : decode cX4_answers 7 = .ok (.aload_n 0, 1) := by decide +kernel
theorem dX4_answers_8 : decode cX4_answers 8 = .ok (.iload_n 1, 1) := by decide +kernel
theorem dX4_answers_9 : decode cX4_answers 9 = .ok (.iconst 5, 1) := by decide +kernel
theorem dX4_answers_10 : decode cX4_answers 10 = .ok (.invokevirtual 49, 3) := by decide +kernel
theorem dX4_answers_13 : decode cX4_answers 13 = .ok (.if_icmp .ge 54, 3) := by decide +kernel
theorem dX4_answers_16 : decode cX4_answers 16 = .ok (.aload_n 0, 1) := by decide +kernel
theorem dX4_answers_17 : decode cX4_answers 17 = .ok (.iload_n 1, 1) := by decide +kernel
theorem dX4_answers_18 : decode cX4_answers 18 = .ok (.iconst 3, 1) := by decide +kernel
theorem dX4_answers_19 : decode cX4_answers 19 = .ok (.invokevirtual 49, 3) := by decide +kernel
theorem dX4_answers_22 : decode cX4_answers 22 = .ok (.iconst 1, 1) := by decide +kernel
theorem dX4_answers_23 : decode cX4_answers 23 = .ok (.if_icmp .ne 44, 3) := by decide +kernel
theorem dX4_answers_26 : decode cX4_answers 26 = .ok (.iload_n 3, 1) := by decide +kernel
theorem dX4_answers_27 : decode cX4_answers 27 = .ok (.aload_n 0, 1) := by decide +kernel
theorem dX4_answers_28 : decode cX4_answers 28 = .ok (.iload_n 1, 1) := by decide +kernel
theorem dX4_answers_29 : decode cX4_answers 29 = .ok (.iload 4, 2) := by decide +kernel
theorem dX4_answers_31 : decode cX4_answers 31 = .ok (.iconst 2, 1) := by decide +kernel
theorem dX4_answers_32 : decode cX4_answers 32 = .ok (.invokevirtual 53, 3) := by decide +kernel
theorem dX4_answers_35 : decode cX4_answers 35 = .ok (.iconst 1, 1) := by decide +kernel
theorem dX4_answers_36 : decode cX4_answers 36 = .ok (.if_icmp .eq 18, 3) := by decide +kernel
theorem dX4_answers_39 : decode cX4_answers 39 = .ok (.iload_n 2, 1) := by decide +kernel
theorem dX4_answers_40 : decode cX4_answers 40 = .ok (.ifCond .ne 18, 3) := by decide +kernel
theorem dX4_answers_43 : decode cX4_answers 43 = .ok (.aload_n 0, 1) := by decide +kernel
theorem dX4_answers_44 : decode cX4_answers 44 = .ok (.iload_n 1, 1) := by decide +kernel
theorem dX4_answers_45 : decode cX4_answers 45 = .ok (.iload 4, 2) := by decide +kernel
theorem dX4_answers_47 : decode cX4_answers 47 = .ok (.iconst 2, 1) := by decide +kernel
theorem dX4_answers_48 : decode cX4_answers 48 = .ok (.invokevirtual 53, 3) := by decide +kernel
theorem dX4_answers_51 : decode cX4_answers 51 = .ok (.ifCond .ne 7, 3) := by decide +kernel
theorem dX4_answers_54 : decode cX4_answers 54 = .ok (.iconst 1, 1) := by decide +kernel
theorem dX4_answers_55 : decode cX4_answers 55 = .ok (.goto 4, 3) := by decide +kernel
theorem dX4_answers_58 : decode cX4_answers 58 = .ok (.iconst 0, 1) := by decide +kernel
theorem dX4_answers_59 : decode cX4_answers 59 = .ok (.iadd, 1) := by decide +kernel
theorem dX4_answers_60 : decode cX4_answers 60 = .ok (.istore_n 3, 1) := by decide +kernel
theorem dX4_answers_61 : decode cX4_answers 61 = .ok (.iinc 4 1, 3) := by decide +kernel
theorem dX4_answers_64 : decode cX4_answers 64 = .ok (.goto (-59), 3) := by decide +kernel
theorem dX4_answers_67 : decode cX4_answers 67 = .ok (.iload_n 3, 1) := by decide +kernel
theorem dX4_answers_68 : decode cX4_answers 68 = .ok (.ireturn, 1) := by decide +kernel
set_option maxRecDepth 20000 in
theorem ggX4_doorTold_X4_va : GoodIn wsX4_doorTold wsX4_va := goodIn_r _ [5, 6, 16, 17, 18, 19, 20, 21, 22, 23] (by decide +kernel) (by decide +kernel)
set_option maxRecDepth 20000 in
theorem gX4_doorTold_X4_va : GoodIn wsX4_doorTold (wsV RX4 49 RX4 yX4_va wsX4_va) := goodIn_app (goodIn_of _ (by decide +kernel)) ggX4_doorTold_X4_va
set_option maxRecDepth 20000 in
theorem ggX4_doorTold_X4_answers : GoodIn wsX4_doorTold wsX4_answers := goodIn_r _ [10, 1, 2, 3, 4, 5, 6, 11, 12, 13, 14, 15, 16, 17, 18, 19, 20, 21, 22, 23] (by decide +kernel) (by decide +kernel)
set_option maxRecDepth 20000 in
theorem gX4_doorTold_X4_answers : GoodIn wsX4_doorTold (wsV RX4 86 RX4 yX4_answers wsX4_answers) := goodIn_app (goodIn_of _ (by decide +kernel)) ggX4_doorTold_X4_answers
theorem dX4_doorTold_0 : decode cX4_doorTold 0 = .ok (.iload_n 2, 1) := by decide +kernel
theorem dX4_doorTold_1 : decode cX4_doorTold 1 = .ok (.tableswitch 105 0 7 #[47, 54, 61, 68, 75, 82, 89, 97], 47) := by decide +kernel
theorem dX4_doorTold_48 : decode cX4_doorTold 48 = .ok (.aload_n 0, 1) := by decide +kernel
theorem dX4_doorTold_49 : decode cX4_doorTold 49 = .ok (.iload_n 1, 1) := by decide +kernel
theorem dX4_doorTold_50 : decode cX4_doorTold 50 = .ok (.iconst 3, 1) := by decide +kernel
theorem dX4_doorTold_51 : decode cX4_doorTold 51 = .ok (.invokevirtual 49, 3) := by decide +kernel
theorem dX4_doorTold_54 : decode cX4_doorTold 54 = .ok (.ireturn, 1) := by decide +kernel
theorem dX4_doorTold_55 : decode cX4_doorTold 55 = .ok (.aload_n 0, 1) := by decide +kernel
theorem dX4_doorTold_56 : decode cX4_doorTold 56 = .ok (.iload_n 1, 1) := by decide +kernel
theorem dX4_doorTold_57 : decode cX4_doorTold 57 = .ok (.iconst 4, 1) := by decide +kernel
theorem dX4_doorTold_58 : decode cX4_doorTold 58 = .ok (.invokevirtual 49, 3) := by decide +kernel
theorem dX4_doorTold_61 : decode cX4_doorTold 61 = .ok (.ireturn, 1) := by decide +kernel
theorem dX4_doorTold_62 : decode cX4_doorTold 62 = .ok (.aload_n 0, 1) := by decide +kernel
theorem dX4_doorTold_63 : decode cX4_doorTold 63 = .ok (.iload_n 1, 1) := by decide +kernel
theorem dX4_doorTold_64 : decode cX4_doorTold 64 = .ok (.iconst 2, 1) := by decide +kernel
theorem dX4_doorTold_65 : decode cX4_doorTold 65 = .ok (.invokevirtual 49, 3) := by decide +kernel
theorem dX4_doorTold_68 : decode cX4_doorTold 68 = .ok (.ireturn, 1) := by decide +kernel
theorem dX4_doorTold_69 : decode cX4_doorTold 69 = .ok (.aload_n 0, 1) := by decide +kernel
theorem dX4_doorTold_70 : decode cX4_doorTold 70 = .ok (.iload_n 1, 1) := by decide +kernel
theorem dX4_doorTold_71 : decode cX4_doorTold 71 = .ok (.iconst 5, 1) := by decide +kernel
theorem dX4_doorTold_72 : decode cX4_doorTold 72 = .ok (.invokevirtual 49, 3) := by decide +kernel
theorem dX4_doorTold_75 : decode cX4_doorTold 75 = .ok (.ireturn, 1) := by decide +kernel
theorem dX4_doorTold_76 : decode cX4_doorTold 76 = .ok (.aload_n 0, 1) := by decide +kernel
theorem dX4_doorTold_77 : decode cX4_doorTold 77 = .ok (.iload_n 1, 1) := by decide +kernel
theorem dX4_doorTold_78 : decode cX4_doorTold 78 = .ok (.iconst 0, 1) := by decide +kernel
theorem dX4_doorTold_79 : decode cX4_doorTold 79 = .ok (.invokevirtual 86, 3) := by decide +kernel
theorem dX4_doorTold_82 : decode cX4_doorTold 82 = .ok (.ireturn, 1) := by decide +kernel
theorem dX4_doorTold_83 : decode cX4_doorTold 83 = .ok (.aload_n 0, 1) := by decide +kernel
theorem dX4_doorTold_84 : decode cX4_doorTold 84 = .ok (.iload_n 1, 1) := by decide +kernel
theorem dX4_doorTold_85 : decode cX4_doorTold 85 = .ok (.iconst 1, 1) := by decide +kernel
theorem dX4_doorTold_86 : decode cX4_doorTold 86 = .ok (.invokevirtual 86, 3) := by decide +kernel
theorem dX4_doorTold_89 : decode cX4_doorTold 89 = .ok (.ireturn, 1) := by decide +kernel
theorem dX4_doorTold_90 : decode cX4_doorTold 90 = .ok (.aload_n 0, 1) := by decide +kernel
theorem dX4_doorTold_91 : decode cX4_doorTold 91 = .ok (.iload_n 1, 1) := by decide +kernel
theorem dX4_doorTold_92 : decode cX4_doorTold 92 = .ok (.bipush 8, 2) := by decide +kernel
theorem dX4_doorTold_94 : decode cX4_doorTold 94 = .ok (.invokevirtual 49, 3) := by decide +kernel
theorem dX4_doorTold_97 : decode cX4_doorTold 97 = .ok (.ireturn, 1) := by decide +kernel
theorem dX4_doorTold_98 : decode cX4_doorTold 98 = .ok (.aload_n 0, 1) := by decide +kernel
theorem dX4_doorTold_99 : decode cX4_doorTold 99 = .ok (.iload_n 1, 1) := by decide +kernel
theorem dX4_doorTold_100 : decode cX4_doorTold 100 = .ok (.bipush 6, 2) := by decide +kernel
theorem dX4_doorTold_102 : decode cX4_doorTold 102 = .ok (.invokevirtual 49, 3) := by decide +kernel
theorem dX4_doorTold_105 : decode cX4_doorTold 105 = .ok (.ireturn, 1) := by decide +kernel
theorem dX4_doorTold_106 : decode cX4_doorTold 106 = .ok (.aload_n 0, 1) := by decide +kernel
theorem dX4_doorTold_107 : decode cX4_doorTold 107 = .ok (.iload_n 1, 1) := by decide +kernel
theorem dX4_doorTold_108 : decode cX4_doorTold 108 = .ok (.bipush 7, 2) := by decide +kernel
theorem dX4_doorTold_110 : decode cX4_doorTold 110 = .ok (.invokevirtual 49, 3) := by decide +kernel
theorem dX4_doorTold_113 : decode cX4_doorTold 113 = .ok (.ireturn, 1) := by decide +kernel
set_option maxRecDepth 20000 in
theorem ggX4_door_X4_isDoor : GoodIn wsX4_door wsX4_isDoor := goodIn_r _ [6, 7, 8, 9, 5, 10, 33, 34, 35, 36, 37, 38, 39, 40] (by decide +kernel) (by decide +kernel)
set_option maxRecDepth 20000 in
theorem gX4_door_X4_isDoor : GoodIn wsX4_door (wsV RX4 57 RX4 yX4_isDoor wsX4_isDoor) := goodIn_app (goodIn_of _ (by decide +kernel)) ggX4_door_X4_isDoor
set_option maxRecDepth 20000 in
theorem ggX4_door_X4_isIn : GoodIn wsX4_door wsX4_isIn := goodIn_r _ [10] (by decide +kernel) (by decide +kernel)
set_option maxRecDepth 20000 in
theorem gX4_door_X4_isIn : GoodIn wsX4_door (va_wsS RX4 35 yX4_isIn wsX4_isIn) := goodIn_app (goodIn_of _ (by decide +kernel)) ggX4_door_X4_isIn
set_option maxRecDepth 20000 in
theorem ggX4_door_X4_doorTold : GoodIn wsX4_door wsX4_doorTold := goodIn_r _ [14, 15, 16, 17, 5, 18, 19, 20, 21, 22, 23, 24, 25, 26, 27, 28, 33, 34, 35, 36, 37, 38, 39, 40] (by decide +kernel) (by decide +kernel)
set_option maxRecDepth 20000 in
theorem gX4_door_X4_doorTold : GoodIn wsX4_door (wsV RX4 90 RX4 yX4_doorTold wsX4_doorTold) := goodIn_app (goodIn_of _ (by decide +kernel)) ggX4_door_X4_doorTold
set_option maxRecDepth 20000 in
theorem ggX4_door_X4_fail : GoodIn wsX4_door wsX4_fail := goodIn_r _ [32, 1, 33, 34, 35, 36, 37, 38, 39, 40] (by decide +kernel) (by decide +kernel)
set_option maxRecDepth 20000 in
theorem gX4_door_X4_fail : GoodIn wsX4_door (wsV RX4 39 RX4 yX4_fail wsX4_fail) := goodIn_app (goodIn_of _ (by decide +kernel)) ggX4_door_X4_fail
theorem dX4_door_0 : decode cX4_door 0 = .ok (.aload_n 0, 1) := by decide +kernel
theorem dX4_door_1 : decode cX4_door 1 = .ok (.iconst 0, 1) := by decide +kernel
theorem dX4_door_2 : decode cX4_door 2 = .ok (.putfield 28, 3) := by decide +kernel
theorem dX4_door_5 : decode cX4_door 5 = .ok (.aload_n 0, 1) := by decide +kernel
theorem dX4_door_6 : decode cX4_door 6 = .ok (.iload_n 1, 1) := by decide +kernel
theorem dX4_door_7 : decode cX4_door 7 = .ok (.invokevirtual 57, 3) := by decide +kernel
theorem dX4_door_10 : decode cX4_door 10 = .ok (.ifCond .eq 22, 3) := by decide +kernel
theorem dX4_door_13 : decode cX4_door 13 = .ok (.iload_n 2, 1) := by decide +kernel
theorem dX4_door_14 : decode cX4_door 14 = .ok (.iconst 0, 1) := by decide +kernel
theorem dX4_door_15 : decode cX4_door 15 = .ok (.bipush 8, 2) := by decide +kernel
theorem dX4_door_17 : decode cX4_door 17 = .ok (.invokestatic 35, 3) := by decide +kernel
theorem dX4_door_20 : decode cX4_door 20 = .ok (.ifCond .eq 12, 3) := by decide +kernel
theorem dX4_door_23 : decode cX4_door 23 = .ok (.aload_n 0, 1) := by decide +kernel
theorem dX4_door_24 : decode cX4_door 24 = .ok (.iload_n 1, 1) := by decide +kernel
theorem dX4_door_25 : decode cX4_door 25 = .ok (.iload_n 2, 1) := by decide +kernel
theorem dX4_door_26 : decode cX4_door 26 = .ok (.invokevirtual 90, 3) := by decide +kernel
theorem dX4_door_29 : decode cX4_door 29 = .ok (.goto 8, 3) := by decide +kernel
theorem dX4_door_32 : decode cX4_door 32 = .ok (.aload_n 0, 1) := by decide +kernel
theorem dX4_door_33 : decode cX4_door 33 = .ok (.iconst 1, 1) := by decide +kernel
theorem dX4_door_34 : decode cX4_door 34 = .ok (.invokevirtual 39, 3) := by decide +kernel
theorem dX4_door_37 : decode cX4_door 37 = .ok (.ireturn, 1) := by decide +kernel
set_option maxRecDepth 20000 in
theorem ggX4_asked_X4_va : GoodIn wsX4_asked wsX4_va := goodIn_r _ [5, 6, 12, 13, 14, 15, 16, 17, 18, 19] (by decide +kernel) (by decide +kernel)
set_option maxRecDepth 20000 in
theorem gX4_asked_X4_va : GoodIn wsX4_asked (wsV RX4 49 RX4 yX4_va wsX4_va) := goodIn_app (goodIn_of _ (by decide +kernel)) ggX4_asked_X4_va
set_option maxRecDepth 20000 in
theorem ggX4_asked_X4_li : GoodIn wsX4_asked wsX4_li := goodIn_r _ [10, 11, 12, 13, 14, 15, 16, 17, 18, 19] (by decide +kernel) (by decide +kernel)
set_option maxRecDepth 20000 in
theorem gX4_asked_X4_li : GoodIn wsX4_asked (wsV RX4 53 RX4 yX4_li wsX4_li) := goodIn_app (goodIn_of _ (by decide +kernel)) ggX4_asked_X4_li
theorem dX4_asked_0 : decode cX4_asked 0 = .ok (.iload_n 3, 1) := by decide +kernel
theorem dX4_asked_1 : decode cX4_asked 1 = .ok (.iconst 2, 1) := by decide +kernel
theorem dX4_asked_2 : decode cX4_asked 2 = .ok (.if_icmp .ne 17, 3) := by decide +kernel
theorem dX4_asked_5 : decode cX4_asked 5 = .ok (.aload_n 0, 1) := by decide +kernel
theorem dX4_asked_6 : decode cX4_asked 6 = .ok (.iload_n 1, 1) := by decide +kernel
theorem dX4_asked_7 : decode cX4_asked 7 = .ok (.iconst 3, 1) := by decide +kernel
theorem dX4_asked_8 : decode cX4_asked 8 = .ok (.invokevirtual 49, 3) := by decide +kernel
theorem dX4_asked_11 : decode cX4_asked 11 = .ok (.iconst 1, 1) := by decide +kernel
theorem dX4_asked_12 : decode cX4_asked 12 = .ok (.if_icmp .eq 7, 3) := by decide +kernel
theorem dX4_asked_15 : decode cX4_asked 15 = .ok (.iconst (-1), 1) := by decide +kernel
theorem dX4_asked_16 : decode cX4_asked 16 = .ok (.goto 10, 3) := by decide +kernel
theorem dX4_asked_19 : decode cX4_asked 19 = .ok (.aload_n 0, 1) := by decide +kernel
theorem dX4_asked_20 : decode cX4_asked 20 = .ok (.iload_n 1, 1) := by decide +kernel
theorem dX4_asked_21 : decode cX4_asked 21 = .ok (.iload_n 2, 1) := by decide +kernel
theorem dX4_asked_22 : decode cX4_asked 22 = .ok (.iload_n 3, 1) := by decide +kernel
theorem dX4_asked_23 : decode cX4_asked 23 = .ok (.invokevirtual 53, 3) := by decide +kernel
theorem dX4_asked_26 : decode cX4_asked 26 = .ok (.ireturn, 1) := by decide +kernel
set_option maxRecDepth 20000 in
theorem ggX4_asks_X4_isDoor : GoodIn wsX4_asks wsX4_isDoor := goodIn_r _ [6, 7, 8, 9, 5, 10, 29, 30, 31, 32, 33, 34, 35, 36] (by decide +kernel) (by decide +kernel)
set_option maxRecDepth 20000 in
theorem gX4_asks_X4_isDoor : GoodIn wsX4_asks (wsV RX4 57 RX4 yX4_isDoor wsX4_isDoor) := goodIn_app (goodIn_of _ (by decide +kernel)) ggX4_asks_X4_isDoor
set_option maxRecDepth 20000 in
theorem ggX4_asks_X4_va : GoodIn wsX4_asks wsX4_va := goodIn_r _ [14, 15, 29, 30, 31, 32, 33, 34, 35, 36] (by decide +kernel) (by decide +kernel)
set_option maxRecDepth 20000 in
theorem gX4_asks_X4_va : GoodIn wsX4_asks (wsV RX4 49 RX4 yX4_va wsX4_va) := goodIn_app (goodIn_of _ (by decide +kernel)) ggX4_asks_X4_va
set_option maxRecDepth 20000 in
theorem ggX4_asks_X4_isIn : GoodIn wsX4_asks wsX4_isIn := goodIn_r _ [10] (by decide +kernel) (by decide +kernel)
set_option maxRecDepth 20000 in
theorem gX4_asks_X4_isIn : GoodIn wsX4_asks (va_wsS RX4 35 yX4_isIn wsX4_isIn) := goodIn_app (goodIn_of _ (by decide +kernel)) ggX4_asks_X4_isIn
set_option maxRecDepth 20000 in
theorem ggX4_asks_X4_asked : GoodIn wsX4_asks wsX4_asked := goodIn_r _ [19, 11, 12, 13, 5, 14, 15, 20, 21, 22, 23, 24, 29, 30, 31, 32, 33, 34, 35, 36] (by decide +kernel) (by decide +kernel)
set_option maxRecDepth 20000 in
theorem gX4_asks_X4_asked : GoodIn wsX4_asks (wsV RX4 93 RX4 yX4_asked wsX4_asked) := goodIn_app (goodIn_of _ (by decide +kernel)) ggX4_asks_X4_asked
set_option maxRecDepth 20000 in
theorem ggX4_asks_X4_fail : GoodIn wsX4_asks wsX4_fail := goodIn_r _ [28, 1, 29, 30, 31, 32, 33, 34, 35, 36] (by decide +kernel) (by decide +kernel)
set_option maxRecDepth 20000 in
theorem gX4_asks_X4_fail : GoodIn wsX4_asks (wsV RX4 39 RX4 yX4_fail wsX4_fail) := goodIn_app (goodIn_of _ (by decide +kernel)) ggX4_asks_X4_fail
theorem dX4_asks_0 : decode cX4_asks 0 = .ok (.aload_n 0, 1) := by decide +kernel
theorem dX4_asks_1 : decode cX4_asks 1 = .ok (.iconst 0, 1) := by decide +kernel
theorem dX4_asks_2 : decode cX4_asks 2 = .ok (.putfield 28, 3) := by decide +kernel
theorem dX4_asks_5 : decode cX4_asks 5 = .ok (.aload_n 0, 1) := by decide +kernel
theorem dX4_asks_6 : decode cX4_asks 6 = .ok (.iload_n 1, 1) := by decide +kernel
theorem dX4_asks_7 : decode cX4_asks 7 = .ok (.invokevirtual 57, 3) := by decide +kernel
theorem dX4_asks_10 : decode cX4_asks 10 = .ok (.ifCond .eq 38, 3) := by decide +kernel
theorem dX4_asks_13 : decode cX4_asks 13 = .ok (.iload_n 2, 1) := by decide +kernel
theorem dX4_asks_14 : decode cX4_asks 14 = .ok (.iconst 0, 1) := by decide +kernel
theorem dX4_asks_15 : decode cX4_asks 15 = .ok (.aload_n 0, 1) := by decide +kernel
theorem dX4_asks_16 : decode cX4_asks 16 = .ok (.iload_n 1, 1) := by decide +kernel
theorem dX4_asks_17 : decode cX4_asks 17 = .ok (.iconst 5, 1) := by decide +kernel
theorem dX4_asks_18 : decode cX4_asks 18 = .ok (.invokevirtual 49, 3) := by decide +kernel
theorem dX4_asks_21 : decode cX4_asks 21 = .ok (.iconst 1, 1) := by decide +kernel
theorem dX4_asks_22 : decode cX4_asks 22 = .ok (.isub, 1) := by decide +kernel
theorem dX4_asks_23 : decode cX4_asks 23 = .ok (.invokestatic 35, 3) := by decide +kernel
theorem dX4_asks_26 : decode cX4_asks 26 = .ok (.ifCond .eq 22, 3) := by decide +kernel
theorem dX4_asks_29 : decode cX4_asks 29 = .ok (.iload_n 3, 1) := by decide +kernel
theorem dX4_asks_30 : decode cX4_asks 30 = .ok (.iconst 0, 1) := by decide +kernel
theorem dX4_asks_31 : decode cX4_asks 31 = .ok (.iconst 2, 1) := by decide +kernel
theorem dX4_asks_32 : decode cX4_asks 32 = .ok (.invokestatic 35, 3) := by decide +kernel
theorem dX4_asks_35 : decode cX4_asks 35 = .ok (.ifCond .eq 13, 3) := by decide +kernel
theorem dX4_asks_38 : decode cX4_asks 38 = .ok (.aload_n 0, 1) := by decide +kernel
theorem dX4_asks_39 : decode cX4_asks 39 = .ok (.iload_n 1, 1) := by decide +kernel
theorem dX4_asks_40 : decode cX4_asks 40 = .ok (.iload_n 2, 1) := by decide +kernel
theorem dX4_asks_41 : decode cX4_asks 41 = .ok (.iload_n 3, 1) := by decide +kernel
theorem dX4_asks_42 : decode cX4_asks 42 = .ok (.invokevirtual 93, 3) := by decide +kernel
theorem dX4_asks_45 : decode cX4_asks 45 = .ok (.goto 8, 3) := by decide +kernel
theorem dX4_asks_48 : decode cX4_asks 48 = .ok (.aload_n 0, 1) := by decide +kernel
theorem dX4_asks_49 : decode cX4_asks 49 = .ok (.iconst 1, 1) := by decide +kernel
theorem dX4_asks_50 : decode cX4_asks 50 = .ok (.invokevirtual 39, 3) := by decide +kernel
theorem dX4_asks_53 : decode cX4_asks 53 = .ok (.ireturn, 1) := by decide +kernel
set_option maxRecDepth 20000 in
theorem ggX4_voice_X4_isIn : GoodIn wsX4_voice wsX4_isIn := goodIn_r _ [7] (by decide +kernel) (by decide +kernel)
set_option maxRecDepth 20000 in
theorem gX4_voice_X4_isIn : GoodIn wsX4_voice (va_wsS RX4 35 yX4_isIn wsX4_isIn) := goodIn_app (goodIn_of _ (by decide +kernel)) ggX4_voice_X4_isIn
set_option maxRecDepth 20000 in
theorem ggX4_voice_X4_fail : GoodIn wsX4_voice wsX4_fail := goodIn_r _ [11, 1, 12, 13, 14, 15, 16, 17, 18, 19] (by decide +kernel) (by decide +kernel)
set_option maxRecDepth 20000 in
theorem gX4_voice_X4_fail : GoodIn wsX4_voice (wsV RX4 39 RX4 yX4_fail wsX4_fail) := goodIn_app (goodIn_of _ (by decide +kernel)) ggX4_voice_X4_fail
theorem dX4_voice_0 : decode cX4_voice 0 = .ok (.aload_n 0, 1) := by decide +kernel
theorem dX4_voice_1 : decode cX4_voice 1 = .ok (.iconst 0, 1) := by decide +kernel
theorem dX4_voice_2 : decode cX4_voice 2 = .ok (.putfield 28, 3) := by decide +kernel
theorem dX4_voice_5 : decode cX4_voice 5 = .ok (.iload_n 1, 1) := by decide +kernel
theorem dX4_voice_6 : decode cX4_voice 6 = .ok (.iconst 0, 1) := by decide +kernel
theorem dX4_voice_7 : decode cX4_voice 7 = .ok (.aload_n 0, 1) := by decide +kernel
theorem dX4_voice_8 : decode cX4_voice 8 = .ok (.getfield 22, 3) := by decide +kernel
theorem dX4_voice_11 : decode cX4_voice 11 = .ok (.iconst 1, 1) := by decide +kernel
theorem dX4_voice_12 : decode cX4_voice 12 = .ok (.iaload, 1) := by decide +kernel
theorem dX4_voice_13 : decode cX4_voice 13 = .ok (.iconst 1, 1) := by decide +kernel
theorem dX4_voice_14 : decode cX4_voice 14 = .ok (.isub, 1) := by decide +kernel
theorem dX4_voice_15 : decode cX4_voice 15 = .ok (.invokestatic 35, 3) := by decide +kernel
theorem dX4_voice_18 : decode cX4_voice 18 = .ok (.ifCond .eq 25, 3) := by decide +kernel
theorem dX4_voice_21 : decode cX4_voice 21 = .ok (.iload_n 2, 1) := by decide +kernel
theorem dX4_voice_22 : decode cX4_voice 22 = .ok (.iconst 0, 1) := by decide +kernel
theorem dX4_voice_23 : decode cX4_voice 23 = .ok (.iconst 3, 1) := by decide +kernel
theorem dX4_voice_24 : decode cX4_voice 24 = .ok (.invokestatic 35, 3) := by decide +kernel
theorem dX4_voice_27 : decode cX4_voice 27 = .ok (.ifCond .eq 16, 3) := by decide +kernel
theorem dX4_voice_30 : decode cX4_voice 30 = .ok (.aload_n 0, 1) := by decide +kernel
theorem dX4_voice_31 : decode cX4_voice 31 = .ok (.getfield 19, 3) := by decide +kernel
theorem dX4_voice_34 : decode cX4_voice 34 = .ok (.iconst 5, 1) := by decide +kernel
theorem dX4_voice_35 : decode cX4_voice 35 = .ok (.iload_n 1, 1) := by decide +kernel
theorem dX4_voice_36 : decode cX4_voice 36 = .ok (.imul, 1) := by decide +kernel
theorem dX4_voice_37 : decode cX4_voice 37 = .ok (.iload_n 2, 1) := by decide +kernel
theorem dX4_voice_38 : decode cX4_voice 38 = .ok (.iadd, 1) := by decide +kernel
theorem dX4_voice_39 : decode cX4_voice 39 = .ok (.iaload, 1) := by decide +kernel
theorem dX4_voice_40 : decode cX4_voice 40 = .ok (.goto 8, 3) := by decide +kernel
theorem dX4_voice_43 : decode cX4_voice 43 = .ok (.aload_n 0, 1) := by decide +kernel
theorem dX4_voice_44 : decode cX4_voice 44 = .ok (.iconst 1, 1) := by decide +kernel
theorem dX4_voice_45 : decode cX4_voice 45 = .ok (.invokevirtual 39, 3) := by decide +kernel
theorem dX4_voice_48 : decode cX4_voice 48 = .ok (.ireturn, 1) := by decide +kernel
set_option maxRecDepth 20000 in
theorem ggX4_openOnes_X4_va : GoodIn wsX4_openOnes wsX4_va := goodIn_r _ [6, 7, 8, 9, 10, 11, 12, 13, 14, 15] (by decide +kernel) (by decide +kernel)
set_option maxRecDepth 20000 in
theorem gX4_openOnes_X4_va : GoodIn wsX4_openOnes (wsV RX4 49 RX4 yX4_va wsX4_va) := goodIn_app (goodIn_of _ (by decide +kernel)) ggX4_openOnes_X4_va
theorem dX4_openOnes_0 : decode cX4_openOnes 0 = .ok (.iconst 0, 1) := by decide +kernel
theorem dX4_openOnes_1 : decode cX4_openOnes 1 = .ok (.istore_n 1, 1) := by decide +kernel
theorem dX4_openOnes_2 : decode cX4_openOnes 2 = .ok (.iconst 0, 1) := by decide +kernel
theorem dX4_openOnes_3 : decode cX4_openOnes 3 = .ok (.istore_n 2, 1) := by decide +kernel
theorem dX4_openOnes_4 : decode cX4_openOnes 4 = .ok (.iload_n 2, 1) := by decide +kernel
theorem dX4_openOnes_5 : decode cX4_openOnes 5 = .ok (.aload_n 0, 1) := by decide +kernel
theorem dX4_openOnes_6 : decode cX4_openOnes 6 = .ok (.getfield 32, 3) := by decide +kernel
theorem dX4_openOnes_9 : decode cX4_openOnes 9 = .ok (.if_icmp .ge 29, 3) := by decide +kernel
theorem dX4_openOnes_12 : decode cX4_openOnes 12 = .ok (.iload_n 1, 1) := by decide +kernel
theorem dX4_openOnes_13 : decode cX4_openOnes 13 = .ok (.aload_n 0, 1) := by decide +kernel
theorem dX4_openOnes_14 : decode cX4_openOnes 14 = .ok (.iload_n 2, 1) := by decide +kernel
theorem dX4_openOnes_15 : decode cX4_openOnes 15 = .ok (.iconst 3, 1) := by decide +kernel
theorem dX4_openOnes_16 : decode cX4_openOnes 16 = .ok (.invokevirtual 49, 3) := by decide +kernel
theorem dX4_openOnes_19 : decode cX4_openOnes 19 = .ok (.iconst 2, 1) := by decide +kernel
theorem dX4_openOnes_20 : decode cX4_openOnes 20 = .ok (.if_icmp .ne 9, 3) := by decide +kernel
theorem dX4_openOnes_23 : decode cX4_openOnes 23 = .ok (.iconst 1, 1) := by decide +kernel
theorem dX4_openOnes_24 : decode cX4_openOnes 24 = .ok (.iload_n 2, 1) := by decide +kernel
theorem dX4_openOnes_25 : decode cX4_openOnes 25 = .ok (.ishl, 1) := by decide +kernel
theorem dX4_openOnes_26 : decode cX4_openOnes 26 = .ok (.goto 4, 3) := by decide +kernel
theorem dX4_openOnes_29 : decode cX4_openOnes 29 = .ok (.iconst 0, 1) := by decide +kernel
theorem dX4_openOnes_30 : decode cX4_openOnes 30 = .ok (.ior, 1) := by decide +kernel
theorem dX4_openOnes_31 : decode cX4_openOnes 31 = .ok (.istore_n 1, 1) := by decide +kernel
theorem dX4_openOnes_32 : decode cX4_openOnes 32 = .ok (.iinc 2 1, 3) := by decide +kernel
theorem dX4_openOnes_35 : decode cX4_openOnes 35 = .ok (.goto (-31), 3) := by decide +kernel
theorem dX4_openOnes_38 : decode cX4_openOnes 38 = .ok (.iload_n 1, 1) := by decide +kernel
theorem dX4_openOnes_39 : decode cX4_openOnes 39 = .ok (.ireturn, 1) := by decide +kernel
set_option maxRecDepth 20000 in
theorem ggX4_counted_X4_va : GoodIn wsX4_counted wsX4_va := goodIn_r _ [7, 8, 13, 14, 15, 16, 17, 18, 19, 20] (by decide +kernel) (by decide +kernel)
set_option maxRecDepth 20000 in
theorem gX4_counted_X4_va : GoodIn wsX4_counted (wsV RX4 49 RX4 yX4_va wsX4_va) := goodIn_app (goodIn_of _ (by decide +kernel)) ggX4_counted_X4_va
set_option maxRecDepth 20000 in
theorem ggX4_counted_X4_openOnes : GoodIn wsX4_counted wsX4_openOnes := goodIn_r _ [12, 2, 3, 4, 5, 6, 7, 8, 13, 14, 15, 16, 17, 18, 19, 20] (by decide +kernel) (by decide +kernel)
set_option maxRecDepth 20000 in
theorem gX4_counted_X4_openOnes : GoodIn wsX4_counted (wsV RX4 96 RX4 yX4_openOnes wsX4_openOnes) := goodIn_app (goodIn_of _ (by decide +kernel)) ggX4_counted_X4_openOnes
theorem dX4_counted_0 : decode cX4_counted 0 = .ok (.iconst 0, 1) := by decide +kernel
theorem dX4_counted_1 : decode cX4_counted 1 = .ok (.istore_n 2, 1) := by decide +kernel
theorem dX4_counted_2 : decode cX4_counted 2 = .ok (.iload_n 1, 1) := by decide +kernel
theorem dX4_counted_3 : decode cX4_counted 3 = .ok (.tableswitch 109 0 7 #[45, 52, 57, 57, 57, 57, 95, 102], 45) := by decide +kernel
theorem dX4_counted_48 : decode cX4_counted 48 = .ok (.aload_n 0, 1) := by decide +kernel
theorem dX4_counted_49 : decode cX4_counted 49 = .ok (.getfield 22, 3) := by decide +kernel
theorem dX4_counted_52 : decode cX4_counted 52 = .ok (.iconst 0, 1) := by decide +kernel
theorem dX4_counted_53 : decode cX4_counted 53 = .ok (.iaload, 1) := by decide +kernel
theorem dX4_counted_54 : decode cX4_counted 54 = .ok (.ireturn, 1) := by decide +kernel
theorem dX4_counted_55 : decode cX4_counted 55 = .ok (.aload_n 0, 1) := by decide +kernel
theorem dX4_counted_56 : decode cX4_counted 56 = .ok (.getfield 32, 3) := by decide +kernel
theorem dX4_counted_59 : decode cX4_counted 59 = .ok (.ireturn, 1) := by decide +kernel
theorem dX4_counted_60 : decode cX4_counted 60 = .ok (.iconst 0, 1) := by decide +kernel
theorem dX4_counted_61 : decode cX4_counted 61 = .ok (.istore_n 3, 1) := by decide +kernel
theorem dX4_counted_62 : decode cX4_counted 62 = .ok (.iload_n 3, 1) := by decide +kernel
theorem dX4_counted_63 : decode cX4_counted 63 = .ok (.aload_n 0, 1) := by decide +kernel
theorem dX4_counted_64 : decode cX4_counted 64 = .ok (.getfield 32, 3) := by decide +kernel
theorem dX4_counted_67 : decode cX4_counted 67 = .ok (.if_icmp .ge 29, 3) := by decide +kernel
theorem dX4_counted_70 : decode cX4_counted 70 = .ok (.iload_n 2, 1) := by decide +kernel
theorem dX4_counted_71 : decode cX4_counted 71 = .ok (.aload_n 0, 1) := by decide +kernel
theorem dX4_counted_72 : decode cX4_counted 72 = .ok (.iload_n 3, 1) := by decide +kernel
theorem dX4_counted_73 : decode cX4_counted 73 = .ok (.iconst 3, 1) := by decide +kernel
theorem dX4_counted_74 : decode cX4_counted 74 = .ok (.invokevirtual 49, 3) := by decide +kernel
theorem dX4_counted_77 : decode cX4_counted 77 = .ok (.iload_n 1, 1) := by decide +kernel
theorem dX4_counted_78 : decode cX4_counted 78 = .ok (.iconst 2, 1) := by decide +kernel
theorem dX4_counted_79 : decode cX4_counted 79 = .ok (.isub, 1) := by decide +kernel
theorem dX4_counted_80 : decode cX4_counted 80 = .ok (.if_icmp .ne 7, 3) := by decide +kernel
theorem dX4_counted_83 : decode cX4_counted 83 = .ok (.iconst 1, 1) := by decide +kernel
theorem dX4_counted_84 : decode cX4_counted 84 = .ok (.goto 4, 3) := by decide +kernel
theorem dX4_counted_87 : decode cX4_counted 87 = .ok (.iconst 0, 1) := by decide +kernel
theorem dX4_counted_88 : decode cX4_counted 88 = .ok (.iadd, 1) := by decide +kernel
theorem dX4_counted_89 : decode cX4_counted 89 = .ok (.istore_n 2, 1) := by decide +kernel
theorem dX4_counted_90 : decode cX4_counted 90 = .ok (.iinc 3 1, 3) := by decide +kernel
theorem dX4_counted_93 : decode cX4_counted 93 = .ok (.goto (-31), 3) := by decide +kernel
theorem dX4_counted_96 : decode cX4_counted 96 = .ok (.iload_n 2, 1) := by decide +kernel
theorem dX4_counted_97 : decode cX4_counted 97 = .ok (.ireturn, 1) := by decide +kernel
theorem dX4_counted_98 : decode cX4_counted 98 = .ok (.aload_n 0, 1) := by decide +kernel
theorem dX4_counted_99 : decode cX4_counted 99 = .ok (.getfield 22, 3) := by decide +kernel
theorem dX4_counted_102 : decode cX4_counted 102 = .ok (.iconst 1, 1) := by decide +kernel
theorem dX4_counted_103 : decode cX4_counted 103 = .ok (.iaload, 1) := by decide +kernel
theorem dX4_counted_104 : decode cX4_counted 104 = .ok (.ireturn, 1) := by decide +kernel
theorem dX4_counted_105 : decode cX4_counted 105 = .ok (.aload_n 0, 1) := by decide +kernel
theorem dX4_counted_106 : decode cX4_counted 106 = .ok (.getfield 22, 3) := by decide +kernel
theorem dX4_counted_109 : decode cX4_counted 109 = .ok (.iconst 2, 1) := by decide +kernel
theorem dX4_counted_110 : decode cX4_counted 110 = .ok (.iaload, 1) := by decide +kernel
theorem dX4_counted_111 : decode cX4_counted 111 = .ok (.ireturn, 1) := by decide +kernel
theorem dX4_counted_112 : decode cX4_counted 112 = .ok (.aload_n 0, 1) := by decide +kernel
theorem dX4_counted_113 : decode cX4_counted 113 = .ok (.invokevirtual 96, 3) := by decide +kernel
theorem dX4_counted_116 : decode cX4_counted 116 = .ok (.ireturn, 1) := by decide +kernel
set_option maxRecDepth 20000 in
theorem ggX4_count_X4_isIn : GoodIn wsX4_count wsX4_isIn := goodIn_r _ [5] (by decide +kernel) (by decide +kernel)
set_option maxRecDepth 20000 in
theorem gX4_count_X4_isIn : GoodIn wsX4_count (va_wsS RX4 35 yX4_isIn wsX4_isIn) := goodIn_app (goodIn_of _ (by decide +kernel)) ggX4_count_X4_isIn
set_option maxRecDepth 20000 in
theorem ggX4_count_X4_counted : GoodIn wsX4_count wsX4_counted := goodIn_r _ [9, 10, 11, 12, 13, 14, 4, 15, 16, 17, 18, 19, 20, 25, 26, 27, 28, 29, 30, 31, 32] (by decide +kernel) (by decide +kernel)
set_option maxRecDepth 20000 in
theorem gX4_count_X4_counted : GoodIn wsX4_count (wsV RX4 100 RX4 yX4_counted wsX4_counted) := goodIn_app (goodIn_of _ (by decide +kernel)) ggX4_count_X4_counted
set_option maxRecDepth 20000 in
theorem ggX4_count_X4_fail : GoodIn wsX4_count wsX4_fail := goodIn_r _ [24, 1, 25, 26, 27, 28, 29, 30, 31, 32] (by decide +kernel) (by decide +kernel)
set_option maxRecDepth 20000 in
theorem gX4_count_X4_fail : GoodIn wsX4_count (wsV RX4 39 RX4 yX4_fail wsX4_fail) := goodIn_app (goodIn_of _ (by decide +kernel)) ggX4_count_X4_fail
theorem dX4_count_0 : decode cX4_count 0 = .ok (.aload_n 0, 1) := by decide +kernel
theorem dX4_count_1 : decode cX4_count 1 = .ok (.iconst 0, 1) := by decide +kernel
theorem dX4_count_2 : decode cX4_count 2 = .ok (.putfield 28, 3) := by decide +kernel
theorem dX4_count_5 : decode cX4_count 5 = .ok (.iload_n 1, 1) := by decide +kernel
theorem dX4_count_6 : decode cX4_count 6 = .ok (.iconst 0, 1) := by decide +kernel
theorem dX4_count_7 : decode cX4_count 7 = .ok (.bipush 8, 2) := by decide +kernel
theorem dX4_count_9 : decode cX4_count 9 = .ok (.invokestatic 35, 3) := by decide +kernel
theorem dX4_count_12 : decode cX4_count 12 = .ok (.ifCond .eq 11, 3) := by decide +kernel
theorem dX4_count_15 : decode cX4_count 15 = .ok (.aload_n 0, 1) := by decide +kernel
theorem dX4_count_16 : decode cX4_count 16 = .ok (.iload_n 1, 1) := by decide +kernel
theorem dX4_count_17 : decode cX4_count 17 = .ok (.invokevirtual 100, 3) := by decide +kernel
theorem dX4_count_20 : decode cX4_count 20 = .ok (.goto 8, 3) := by decide +kernel
theorem dX4_count_23 : decode cX4_count 23 = .ok (.aload_n 0, 1) := by decide +kernel
theorem dX4_count_24 : decode cX4_count 24 = .ok (.iconst 1, 1) := by decide +kernel
theorem dX4_count_25 : decode cX4_count 25 = .ok (.invokevirtual 39, 3) := by decide +kernel
theorem dX4_count_28 : decode cX4_count 28 = .ok (.ireturn, 1) := by decide +kernel
set_option maxRecDepth 20000 in
theorem ggX4_reach_X4_isDoor : GoodIn wsX4_reach wsX4_isDoor := goodIn_r _ [7, 2, 8, 9, 6, 10, 25, 26, 27, 28, 29, 30, 31, 32] (by decide +kernel) (by decide +kernel)
set_option maxRecDepth 20000 in
theorem gX4_reach_X4_isDoor : GoodIn wsX4_reach (wsV RX4 57 RX4 yX4_isDoor wsX4_isDoor) := goodIn_app (goodIn_of _ (by decide +kernel)) ggX4_reach_X4_isDoor
set_option maxRecDepth 20000 in
theorem ggX4_reach_X4_fail : GoodIn wsX4_reach wsX4_fail := goodIn_r _ [14, 1, 25, 26, 27, 28, 29, 30, 31, 32] (by decide +kernel) (by decide +kernel)
set_option maxRecDepth 20000 in
theorem gX4_reach_X4_fail : GoodIn wsX4_reach (wsV RX4 39 RX4 yX4_fail wsX4_fail) := goodIn_app (goodIn_of _ (by decide +kernel)) ggX4_reach_X4_fail
set_option maxRecDepth 20000 in
theorem ggX4_reach_X4_va : GoodIn wsX4_reach wsX4_va := goodIn_r _ [18, 19, 25, 26, 27, 28, 29, 30, 31, 32] (by decide +kernel) (by decide +kernel)
set_option maxRecDepth 20000 in
theorem gX4_reach_X4_va : GoodIn wsX4_reach (wsV RX4 49 RX4 yX4_va wsX4_va) := goodIn_app (goodIn_of _ (by decide +kernel)) ggX4_reach_X4_va
set_option maxRecDepth 20000 in
theorem ggX4_reach_X4_li : GoodIn wsX4_reach wsX4_li := goodIn_r _ [23, 24, 25, 26, 27, 28, 29, 30, 31, 32] (by decide +kernel) (by decide +kernel)
set_option maxRecDepth 20000 in
theorem gX4_reach_X4_li : GoodIn wsX4_reach (wsV RX4 53 RX4 yX4_li wsX4_li) := goodIn_app (goodIn_of _ (by decide +kernel)) ggX4_reach_X4_li
theorem dX4_reach_0 : decode cX4_reach 0 = .ok (.aload_n 0, 1) := by decide +kernel
theorem dX4_reach_1 : decode cX4_reach 1 = .ok (.iconst 0, 1) := by decide +kernel
theorem dX4_reach_2 : decode cX4_reach 2 = .ok (.putfield 28, 3) := by decide +kernel
theorem dX4_reach_5 : decode cX4_reach 5 = .ok (.aload_n 0, 1) := by decide +kernel
theorem dX4_reach_6 : decode cX4_reach 6 = .ok (.iload_n 1, 1) := by decide +kernel
theorem dX4_reach_7 : decode cX4_reach 7 = .ok (.invokevirtual 57, 3) := by decide +kernel
theorem dX4_reach_10 : decode cX4_reach 10 = .ok (.ifCond .ne 9, 3) := by decide +kernel
theorem dX4_reach_13 : decode cX4_reach 13 = .ok (.aload_n 0, 1) := by decide +kernel
theorem dX4_reach_14 : decode cX4_reach 14 = .ok (.iconst 1, 1) := by decide +kernel
theorem dX4_reach_15 : decode cX4_reach 15 = .ok (.invokevirtual 39, 3) := by decide +kernel
theorem dX4_reach_18 : decode cX4_reach 18 = .ok (.ireturn, 1) := by decide +kernel
theorem dX4_reach_19 : decode cX4_reach 19 = .ok (.iconst 0, 1) := by decide +kernel
theorem dX4_reach_20 : decode cX4_reach 20 = .ok (.istore_n 2, 1) := by decide +kernel
theorem dX4_reach_21 : decode cX4_reach 21 = .ok (.iconst 0, 1) := by decide +kernel
theorem dX4_reach_22 : decode cX4_reach 22 = .ok (.istore_n 3, 1) := by decide +kernel
theorem dX4_reach_23 : decode cX4_reach 23 = .ok (.iload_n 3, 1) := by decide +kernel
theorem dX4_reach_24 : decode cX4_reach 24 = .ok (.aload_n 0, 1) := by decide +kernel
theorem dX4_reach_25 : decode cX4_reach 25 = .ok (.iload_n 1, 1) := by decide +kernel
theorem dX4_reach_26 : decode cX4_reach 26 = .ok (.iconst 5, 1) := by decide +kernel
theorem dX4_reach_27 : decode cX4_reach 27 = .ok (.invokevirtual 49, 3) := by decide +kernel
theorem dX4_reach_30 : decode cX4_reach 30 = .ok (.if_icmp .ge 21, 3) := by decide +kernel
theorem dX4_reach_33 : decode cX4_reach 33 = .ok (.iload_n 2, 1) := by decide +kernel
theorem dX4_reach_34 : decode cX4_reach 34 = .ok (.iconst 1, 1) := by decide +kernel
theorem dX4_reach_35 : decode cX4_reach 35 = .ok (.aload_n 0, 1) := by decide +kernel
theorem dX4_reach_36 : decode cX4_reach 36 = .ok (.iload_n 1, 1) := by decide +kernel
theorem dX4_reach_37 : decode cX4_reach 37 = .ok (.iload_n 3, 1) := by decide +kernel
theorem dX4_reach_38 : decode cX4_reach 38 = .ok (.iconst 0, 1) := by decide +kernel
theorem dX4_reach_39 : decode cX4_reach 39 = .ok (.invokevirtual 53, 3) := by decide +kernel
theorem dX4_reach_42 : decode cX4_reach 42 = .ok (.ishl, 1) := by decide +kernel
theorem dX4_reach_43 : decode cX4_reach 43 = .ok (.ior, 1) := by decide +kernel
theorem dX4_reach_44 : decode cX4_reach 44 = .ok (.istore_n 2, 1) := by decide +kernel
theorem dX4_reach_45 : decode cX4_reach 45 = .ok (.iinc 3 1, 3) := by decide +kernel
theorem dX4_reach_48 : decode cX4_reach 48 = .ok (.goto (-25), 3) := by decide +kernel
theorem dX4_reach_51 : decode cX4_reach 51 = .ok (.iconst 0, 1) := by decide +kernel
theorem dX4_reach_52 : decode cX4_reach 52 = .ok (.istore_n 3, 1) := by decide +kernel
theorem dX4_reach_53 : decode cX4_reach 53 = .ok (.iload_n 3, 1) := by decide +kernel
theorem dX4_reach_54 : decode cX4_reach 54 = .ok (.aload_n 0, 1) := by decide +kernel
theorem dX4_reach_55 : decode cX4_reach 55 = .ok (.getfield 32, 3) := by decide +kernel
theorem dX4_reach_58 : decode cX4_reach 58 = .ok (.if_icmp .ge 72, 3) := by decide +kernel
theorem dX4_reach_61 : decode cX4_reach 61 = .ok (.iconst 0, 1) := by decide +kernel
theorem dX4_reach_62 : decode cX4_reach 62 = .ok (.istore 4, 2) := by decide +kernel
theorem dX4_reach_64 : decode cX4_reach 64 = .ok (.iload 4, 2) := by decide +kernel
theorem dX4_reach_66 : decode cX4_reach 66 = .ok (.aload_n 0, 1) := by decide +kernel
theorem dX4_reach_67 : decode cX4_reach 67 = .ok (.getfield 32, 3) := by decide +kernel
theorem dX4_reach_70 : decode cX4_reach 70 = .ok (.if_icmp .ge 54, 3) := by decide +kernel
theorem dX4_reach_73 : decode cX4_reach 73 = .ok (.iconst 0, 1) := by decide +kernel
theorem dX4_reach_74 : decode cX4_reach 74 = .ok (.istore 5, 2) := by decide +kernel
theorem dX4_reach_76 : decode cX4_reach 76 = .ok (.iload 5, 2) := by decide +kernel
theorem dX4_reach_78 : decode cX4_reach 78 = .ok (.aload_n 0, 1) := by decide +kernel
theorem dX4_reach_79 : decode cX4_reach 79 = .ok (.iload 4, 2) := by decide +kernel
theorem dX4_reach_81 : decode cX4_reach 81 = .ok (.iconst 5, 1) := by decide +kernel
theorem dX4_reach_82 : decode cX4_reach 82 = .ok (.invokevirtual 49, 3) := by decide +kernel
theorem dX4_reach_85 : decode cX4_reach 85 = .ok (.if_icmp .ge 33, 3) := by decide +kernel
theorem dX4_reach_88 : decode cX4_reach 88 = .ok (.iload_n 2, 1) := by decide +kernel
theorem dX4_reach_89 : decode cX4_reach 89 = .ok (.iload 4, 2) := by decide +kernel
theorem dX4_reach_91 : decode cX4_reach 91 = .ok (.ishr, 1) := by decide +kernel
theorem dX4_reach_92 : decode cX4_reach 92 = .ok (.iconst 1, 1) := by decide +kernel
theorem dX4_reach_93 : decode cX4_reach 93 = .ok (.iand, 1) := by decide +kernel
theorem dX4_reach_94 : decode cX4_reach 94 = .ok (.iconst 1, 1) := by decide +kernel
theorem dX4_reach_95 : decode cX4_reach 95 = .ok (.if_icmp .ne 23, 3) := by decide +kernel
theorem dX4_reach_98 : decode cX4_reach 98 = .ok (.iload_n 2, 1) := by decide +kernel
theorem dX4_reach_99 : decode cX4_reach 99 = .ok (.iconst 1, 1) := by decide +kernel
theorem dX4_reach_100 : decode cX4_reach 100 = .ok (.aload_n 0, 1) := by decide +kernel
theorem dX4_reach_101 : decode cX4_reach 101 = .ok (.iload 4, 2) := by decide +kernel
theorem dX4_reach_103 : decode cX4_reach 103 = .ok (.iload 5, 2) := by decide +kernel
theorem dX4_reach_105 : decode cX4_reach 105 = .ok (.iconst 0, 1) := by decide +kernel
theorem dX4_reach_106 : decode cX4_reach 106 = .ok (.invokevirtual 53, 3) := by decide +kernel
theorem dX4_reach_109 : decode cX4_reach 109 = .ok (.ishl, 1) := by decide +kernel
theorem dX4_reach_110 : decode cX4_reach 110 = .ok (.ior, 1) := by decide +kernel
theorem dX4_reach_111 : decode cX4_reach 111 = .ok (.istore_n 2, 1) := by decide +kernel
theorem dX4_reach_112 : decode cX4_reach 112 = .ok (.iinc 5 1, 3) := by decide +kernel
theorem dX4_reach_115 : decode cX4_reach 115 = .ok (.goto (-39), 3) := by decide +kernel
theorem dX4_reach_118 : decode cX4_reach 118 = .ok (.iinc 4 1, 3) := by decide +kernel
theorem dX4_reach_121 : decode cX4_reach 121 = .ok (.goto (-57), 3) := by decide +kernel
theorem dX4_reach_124 : decode cX4_reach 124 = .ok (.iinc 3 1, 3) := by decide +kernel
theorem dX4_reach_127 : decode cX4_reach 127 = .ok (.goto (-74), 3) := by decide +kernel
theorem dX4_reach_130 : decode cX4_reach 130 = .ok (.iload_n 2, 1) := by decide +kernel
theorem dX4_reach_131 : decode cX4_reach 131 = .ok (.ireturn, 1) := by decide +kernel
set_option maxRecDepth 20000 in
theorem ggX4_hear_X4_va : GoodIn wsX4_hear wsX4_va := goodIn_r _ [7, 8, 40, 41, 42, 43, 44, 45, 46, 47] (by decide +kernel) (by decide +kernel)
set_option maxRecDepth 20000 in
theorem gX4_hear_X4_va : GoodIn wsX4_hear (wsV RX4 49 RX4 yX4_va wsX4_va) := goodIn_app (goodIn_of _ (by decide +kernel)) ggX4_hear_X4_va
set_option maxRecDepth 20000 in
theorem ggX4_hear_X4_place : GoodIn wsX4_hear wsX4_place := goodIn_r _ [12, 3, 4, 5, 6, 7, 8, 13, 14, 15, 16, 17, 40, 41, 42, 43, 44, 45, 46, 47] (by decide +kernel) (by decide +kernel)
set_option maxRecDepth 20000 in
theorem gX4_hear_X4_place : GoodIn wsX4_hear (wsV RX4 61 RX4 yX4_place wsX4_place) := goodIn_app (goodIn_of _ (by decide +kernel)) ggX4_hear_X4_place
set_option maxRecDepth 20000 in
theorem ggX4_hear_X4_li : GoodIn wsX4_hear wsX4_li := goodIn_r _ [16, 17, 40, 41, 42, 43, 44, 45, 46, 47] (by decide +kernel) (by decide +kernel)
set_option maxRecDepth 20000 in
theorem gX4_hear_X4_li : GoodIn wsX4_hear (wsV RX4 53 RX4 yX4_li wsX4_li) := goodIn_app (goodIn_of _ (by decide +kernel)) ggX4_hear_X4_li
set_option maxRecDepth 20000 in
theorem ggX4_hear_X4_setLink : GoodIn wsX4_hear wsX4_setLink := goodIn_r _ [21, 17, 40, 41, 42, 43, 44, 45, 46, 47] (by decide +kernel) (by decide +kernel)
set_option maxRecDepth 20000 in
theorem gX4_hear_X4_setLink : GoodIn wsX4_hear (wsV RX4 64 RX4 yX4_setLink wsX4_setLink) := goodIn_app (goodIn_of _ (by decide +kernel)) ggX4_hear_X4_setLink
set_option maxRecDepth 20000 in
theorem ggX4_hear_X4_send : GoodIn wsX4_hear wsX4_send := goodIn_r _ [25, 26, 27, 40, 41, 42, 43, 44, 45, 46, 47] (by decide +kernel) (by decide +kernel)
set_option maxRecDepth 20000 in
theorem gX4_hear_X4_send : GoodIn wsX4_hear (wsV RX4 75 RX4 yX4_send wsX4_send) := goodIn_app (goodIn_of _ (by decide +kernel)) ggX4_hear_X4_send
set_option maxRecDepth 20000 in
theorem ggX4_hear_X4_wake : GoodIn wsX4_hear wsX4_wake := goodIn_r _ [31, 3, 4, 5, 6, 7, 8, 32, 33, 34, 35, 36, 37, 38, 39, 18, 19, 20, 21, 17, 13, 14, 15, 16, 22, 23, 24, 25, 26, 27, 40, 41, 42, 43, 44, 45, 46, 47] (by decide +kernel) (by decide +kernel)
set_option maxRecDepth 20000 in
theorem gX4_hear_X4_wake : GoodIn wsX4_hear (wsV RX4 78 RX4 yX4_wake wsX4_wake) := goodIn_app (goodIn_of _ (by decide +kernel)) ggX4_hear_X4_wake
set_option maxRecDepth 20000 in
theorem ggX4_hear_X4_put : GoodIn wsX4_hear wsX4_put := goodIn_r _ [39, 8, 40, 41, 42, 43, 44, 45, 46, 47] (by decide +kernel) (by decide +kernel)
set_option maxRecDepth 20000 in
theorem gX4_hear_X4_put : GoodIn wsX4_hear (wsV RX4 68 RX4 yX4_put wsX4_put) := goodIn_app (goodIn_of _ (by decide +kernel)) ggX4_hear_X4_put
theorem dX4_hear_0 : decode cX4_hear 0 = .ok (.aload_n 0, 1) := by decide +kernel
theorem dX4_hear_1 : decode cX4_hear 1 = .ok (.getfield 25, 3) := by decide +kernel
theorem dX4_hear_4 : decode cX4_hear 4 = .ok (.iconst 5, 1) := by decide +kernel
theorem dX4_hear_5 : decode cX4_hear 5 = .ok (.iload_n 1, 1) := by decide +kernel
theorem dX4_hear_6 : decode cX4_hear 6 = .ok (.imul, 1) := by decide +kernel
theorem dX4_hear_7 : decode cX4_hear 7 = .ok (.iconst 0, 1) := by decide +kernel
theorem dX4_hear_8 : decode cX4_hear 8 = .ok (.iadd, 1) := by decide +kernel
theorem dX4_hear_9 : decode cX4_hear 9 = .ok (.iaload, 1) := by decide +kernel
theorem dX4_hear_10 : decode cX4_hear 10 = .ok (.istore_n 2, 1) := by decide +kernel
theorem dX4_hear_11 : decode cX4_hear 11 = .ok (.aload_n 0, 1) := by decide +kernel
theorem dX4_hear_12 : decode cX4_hear 12 = .ok (.getfield 25, 3) := by decide +kernel
theorem dX4_hear_15 : decode cX4_hear 15 = .ok (.iconst 5, 1) := by decide +kernel
theorem dX4_hear_16 : decode cX4_hear 16 = .ok (.iload_n 1, 1) := by decide +kernel
theorem dX4_hear_17 : decode cX4_hear 17 = .ok (.imul, 1) := by decide +kernel
theorem dX4_hear_18 : decode cX4_hear 18 = .ok (.iconst 1, 1) := by decide +kernel
theorem dX4_hear_19 : decode cX4_hear 19 = .ok (.iadd, 1) := by decide +kernel
theorem dX4_hear_20 : decode cX4_hear 20 = .ok (.iaload, 1) := by decide +kernel
theorem dX4_hear_21 : decode cX4_hear 21 = .ok (.istore_n 3, 1) := by decide +kernel
theorem dX4_hear_22 : decode cX4_hear 22 = .ok (.aload_n 0, 1) := by decide +kernel
theorem dX4_hear_23 : decode cX4_hear 23 = .ok (.getfield 25, 3) := by decide +kernel
theorem dX4_hear_26 : decode cX4_hear 26 = .ok (.iconst 5, 1) := by decide +kernel
theorem dX4_hear_27 : decode cX4_hear 27 = .ok (.iload_n 1, 1) := by decide +kernel
theorem dX4_hear_28 : decode cX4_hear 28 = .ok (.imul, 1) := by decide +kernel
theorem dX4_hear_29 : decode cX4_hear 29 = .ok (.iconst 2, 1) := by decide +kernel
theorem dX4_hear_30 : decode cX4_hear 30 = .ok (.iadd, 1) := by decide +kernel
theorem dX4_hear_31 : decode cX4_hear 31 = .ok (.iaload, 1) := by decide +kernel
theorem dX4_hear_32 : decode cX4_hear 32 = .ok (.istore 4, 2) := by decide +kernel
theorem dX4_hear_34 : decode cX4_hear 34 = .ok (.aload_n 0, 1) := by decide +kernel
theorem dX4_hear_35 : decode cX4_hear 35 = .ok (.getfield 25, 3) := by decide +kernel
theorem dX4_hear_38 : decode cX4_hear 38 = .ok (.iconst 5, 1) := by decide +kernel
theorem dX4_hear_39 : decode cX4_hear 39 = .ok (.iload_n 1, 1) := by decide +kernel
theorem dX4_hear_40 : decode cX4_hear 40 = .ok (.imul, 1) := by decide +kernel
theorem dX4_hear_41 : decode cX4_hear 41 = .ok (.iconst 4, 1) := by decide +kernel
theorem dX4_hear_42 : decode cX4_hear 42 = .ok (.iadd, 1) := by decide +kernel
theorem dX4_hear_43 : decode cX4_hear 43 = .ok (.iaload, 1) := by decide +kernel
theorem dX4_hear_44 : decode cX4_hear 44 = .ok (.istore 5, 2) := by decide +kernel
theorem dX4_hear_46 : decode cX4_hear 46 = .ok (.aload_n 0, 1) := by decide +kernel
theorem dX4_hear_47 : decode cX4_hear 47 = .ok (.iload_n 3, 1) := by decide +kernel
theorem dX4_hear_48 : decode cX4_hear 48 = .ok (.iconst 3, 1) := by decide +kernel
theorem dX4_hear_49 : decode cX4_hear 49 = .ok (.invokevirtual 49, 3) := by decide +kernel
theorem dX4_hear_52 : decode cX4_hear 52 = .ok (.istore 6, 2) := by decide +kernel
theorem dX4_hear_54 : decode cX4_hear 54 = .ok (.iload 4, 2) := by decide +kernel
theorem dX4_hear_56 : decode cX4_hear 56 = .ok (.ifCond .eq 49, 3) := by decide +kernel
theorem dX4_hear_59 : decode cX4_hear 59 = .ok (.aload_n 0, 1) := by decide +kernel
theorem dX4_hear_60 : decode cX4_hear 60 = .ok (.iload_n 3, 1) := by decide +kernel
theorem dX4_hear_61 : decode cX4_hear 61 = .ok (.iload_n 2, 1) := by decide +kernel
theorem dX4_hear_62 : decode cX4_hear 62 = .ok (.invokevirtual 61, 3) := by decide +kernel
theorem dX4_hear_65 : decode cX4_hear 65 = .ok (.istore 7, 2) := by decide +kernel
theorem dX4_hear_67 : decode cX4_hear 67 = .ok (.iload 6, 2) := by decide +kernel
theorem dX4_hear_69 : decode cX4_hear 69 = .ok (.iconst 1, 1) := by decide +kernel
theorem dX4_hear_70 : decode cX4_hear 70 = .ok (.if_icmp .ne 34, 3) := by decide +kernel
theorem dX4_hear_73 : decode cX4_hear 73 = .ok (.aload_n 0, 1) := by decide +kernel
theorem dX4_hear_74 : decode cX4_hear 74 = .ok (.iload_n 3, 1) := by decide +kernel
theorem dX4_hear_75 : decode cX4_hear 75 = .ok (.iload 7, 2) := by decide +kernel
theorem dX4_hear_77 : decode cX4_hear 77 = .ok (.iconst 2, 1) := by decide +kernel
theorem dX4_hear_78 : decode cX4_hear 78 = .ok (.invokevirtual 53, 3) := by decide +kernel
theorem dX4_hear_81 : decode cX4_hear 81 = .ok (.iconst (-1), 1) := by decide +kernel
theorem dX4_hear_82 : decode cX4_hear 82 = .ok (.if_icmp .ne 22, 3) := by decide +kernel
theorem dX4_hear_85 : decode cX4_hear 85 = .ok (.aload_n 0, 1) := by decide +kernel
theorem dX4_hear_86 : decode cX4_hear 86 = .ok (.iload_n 3, 1) := by decide +kernel
theorem dX4_hear_87 : decode cX4_hear 87 = .ok (.iload 7, 2) := by decide +kernel
theorem dX4_hear_89 : decode cX4_hear 89 = .ok (.iconst 2, 1) := by decide +kernel
theorem dX4_hear_90 : decode cX4_hear 90 = .ok (.iload 4, 2) := by decide +kernel
theorem dX4_hear_92 : decode cX4_hear 92 = .ok (.iconst 2, 1) := by decide +kernel
theorem dX4_hear_93 : decode cX4_hear 93 = .ok (.if_icmp .ne 7, 3) := by decide +kernel
theorem dX4_hear_96 : decode cX4_hear 96 = .ok (.iconst 1, 1) := by decide +kernel
theorem dX4_hear_97 : decode cX4_hear 97 = .ok (.goto 4, 3) := by decide +kernel
theorem dX4_hear_100 : decode cX4_hear 100 = .ok (.iconst 0, 1) := by decide +kernel
theorem dX4_hear_101 : decode cX4_hear 101 = .ok (.invokevirtual 64, 3) := by decide +kernel
theorem dX4_hear_104 : decode cX4_hear 104 = .ok (.return_, 1) := by decide +kernel
theorem dX4_hear_105 : decode cX4_hear 105 = .ok (.iload 6, 2) := by decide +kernel
theorem dX4_hear_107 : decode cX4_hear 107 = .ok (.iconst 2, 1) := by decide +kernel
theorem dX4_hear_108 : decode cX4_hear 108 = .ok (.if_icmp .eq 9, 3) := by decide +kernel
theorem dX4_hear_111 : decode cX4_hear 111 = .ok (.iload 6, 2) := by decide +kernel
theorem dX4_hear_113 : decode cX4_hear 113 = .ok (.iconst 3, 1) := by decide +kernel
theorem dX4_hear_114 : decode cX4_hear 114 = .ok (.if_icmp .ne 23, 3) := by decide +kernel
theorem dX4_hear_117 : decode cX4_hear 117 = .ok (.aload_n 0, 1) := by decide +kernel
theorem dX4_hear_118 : decode cX4_hear 118 = .ok (.iload_n 3, 1) := by decide +kernel
theorem dX4_hear_119 : decode cX4_hear 119 = .ok (.iload_n 2, 1) := by decide +kernel
theorem dX4_hear_120 : decode cX4_hear 120 = .ok (.iload 6, 2) := by decide +kernel
theorem dX4_hear_122 : decode cX4_hear 122 = .ok (.iconst 2, 1) := by decide +kernel
theorem dX4_hear_123 : decode cX4_hear 123 = .ok (.if_icmp .ne 7, 3) := by decide +kernel
theorem dX4_hear_126 : decode cX4_hear 126 = .ok (.iconst 2, 1) := by decide +kernel
theorem dX4_hear_127 : decode cX4_hear 127 = .ok (.goto 4, 3) := by decide +kernel
theorem dX4_hear_130 : decode cX4_hear 130 = .ok (.iconst 1, 1) := by decide +kernel
theorem dX4_hear_131 : decode cX4_hear 131 = .ok (.iload 5, 2) := by decide +kernel
theorem dX4_hear_133 : decode cX4_hear 133 = .ok (.invokevirtual 75, 3) := by decide +kernel
theorem dX4_hear_136 : decode cX4_hear 136 = .ok (.return_, 1) := by decide +kernel
theorem dX4_hear_137 : decode cX4_hear 137 = .ok (.iload 6, 2) := by decide +kernel
theorem dX4_hear_139 : decode cX4_hear 139 = .ok (.ifCond .ne 8, 3) := by decide +kernel
theorem dX4_hear_142 : decode cX4_hear 142 = .ok (.aload_n 0, 1) := by decide +kernel
theorem dX4_hear_143 : decode cX4_hear 143 = .ok (.iload_n 3, 1) := by decide +kernel
theorem dX4_hear_144 : decode cX4_hear 144 = .ok (.invokevirtual 78, 3) := by decide +kernel
theorem dX4_hear_147 : decode cX4_hear 147 = .ok (.aload_n 0, 1) := by decide +kernel
theorem dX4_hear_148 : decode cX4_hear 148 = .ok (.getfield 16, 3) := by decide +kernel
theorem dX4_hear_151 : decode cX4_hear 151 = .ok (.iconst 2, 1) := by decide +kernel
theorem dX4_hear_152 : decode cX4_hear 152 = .ok (.bipush 100, 2) := by decide +kernel
theorem dX4_hear_154 : decode cX4_hear 154 = .ok (.iload_n 3, 1) := by decide +kernel
theorem dX4_hear_155 : decode cX4_hear 155 = .ok (.imul, 1) := by decide +kernel
theorem dX4_hear_156 : decode cX4_hear 156 = .ok (.aload_n 0, 1) := by decide +kernel
theorem dX4_hear_157 : decode cX4_hear 157 = .ok (.iload_n 3, 1) := by decide +kernel
theorem dX4_hear_158 : decode cX4_hear 158 = .ok (.bipush 8, 2) := by decide +kernel
theorem dX4_hear_160 : decode cX4_hear 160 = .ok (.invokevirtual 49, 3) := by decide +kernel
theorem dX4_hear_163 : decode cX4_hear 163 = .ok (.iadd, 1) := by decide +kernel
theorem dX4_hear_164 : decode cX4_hear 164 = .ok (.imul, 1) := by decide +kernel
theorem dX4_hear_165 : decode cX4_hear 165 = .ok (.iload_n 2, 1) := by decide +kernel
theorem dX4_hear_166 : decode cX4_hear 166 = .ok (.iastore, 1) := by decide +kernel
theorem dX4_hear_167 : decode cX4_hear 167 = .ok (.aload_n 0, 1) := by decide +kernel
theorem dX4_hear_168 : decode cX4_hear 168 = .ok (.getfield 16, 3) := by decide +kernel
theorem dX4_hear_171 : decode cX4_hear 171 = .ok (.iconst 2, 1) := by decide +kernel
theorem dX4_hear_172 : decode cX4_hear 172 = .ok (.bipush 100, 2) := by decide +kernel
theorem dX4_hear_174 : decode cX4_hear 174 = .ok (.iload_n 3, 1) := by decide +kernel
theorem dX4_hear_175 : decode cX4_hear 175 = .ok (.imul, 1) := by decide +kernel
theorem dX4_hear_176 : decode cX4_hear 176 = .ok (.aload_n 0, 1) := by decide +kernel
theorem dX4_hear_177 : decode cX4_hear 177 = .ok (.iload_n 3, 1) := by decide +kernel
theorem dX4_hear_178 : decode cX4_hear 178 = .ok (.bipush 8, 2) := by decide +kernel
theorem dX4_hear_180 : decode cX4_hear 180 = .ok (.invokevirtual 49, 3) := by decide +kernel
theorem dX4_hear_183 : decode cX4_hear 183 = .ok (.iadd, 1) := by decide +kernel
theorem dX4_hear_184 : decode cX4_hear 184 = .ok (.imul, 1) := by decide +kernel
theorem dX4_hear_185 : decode cX4_hear 185 = .ok (.iconst 1, 1) := by decide +kernel
theorem dX4_hear_186 : decode cX4_hear 186 = .ok (.iadd, 1) := by decide +kernel
theorem dX4_hear_187 : decode cX4_hear 187 = .ok (.iload 5, 2) := by decide +kernel
theorem dX4_hear_189 : decode cX4_hear 189 = .ok (.iastore, 1) := by decide +kernel
theorem dX4_hear_190 : decode cX4_hear 190 = .ok (.aload_n 0, 1) := by decide +kernel
theorem dX4_hear_191 : decode cX4_hear 191 = .ok (.iload_n 3, 1) := by decide +kernel
theorem dX4_hear_192 : decode cX4_hear 192 = .ok (.bipush 8, 2) := by decide +kernel
theorem dX4_hear_194 : decode cX4_hear 194 = .ok (.aload_n 0, 1) := by decide +kernel
theorem dX4_hear_195 : decode cX4_hear 195 = .ok (.iload_n 3, 1) := by decide +kernel
theorem dX4_hear_196 : decode cX4_hear 196 = .ok (.bipush 8, 2) := by decide +kernel
theorem dX4_hear_198 : decode cX4_hear 198 = .ok (.invokevirtual 49, 3) := by decide +kernel
theorem dX4_hear_201 : decode cX4_hear 201 = .ok (.iconst 1, 1) := by decide +kernel
theorem dX4_hear_202 : decode cX4_hear 202 = .ok (.iadd, 1) := by decide +kernel
theorem dX4_hear_203 : decode cX4_hear 203 = .ok (.invokevirtual 68, 3) := by decide +kernel
theorem dX4_hear_206 : decode cX4_hear 206 = .ok (.return_, 1) := by decide +kernel
set_option maxRecDepth 20000 in
theorem ggX4_says_X4_answers : GoodIn wsX4_says wsX4_answers := goodIn_r _ [5, 6, 7, 8, 4, 9, 10, 11, 12, 13, 14, 15, 16, 17, 18, 19, 20, 21, 22, 23] (by decide +kernel) (by decide +kernel)
set_option maxRecDepth 20000 in
theorem gX4_says_X4_answers : GoodIn wsX4_says (wsV RX4 86 RX4 yX4_answers wsX4_answers) := goodIn_app (goodIn_of _ (by decide +kernel)) ggX4_says_X4_answers
set_option maxRecDepth 20000 in
theorem ggX4_says_X4_va : GoodIn wsX4_says wsX4_va := goodIn_r _ [9, 10, 16, 17, 18, 19, 20, 21, 22, 23] (by decide +kernel) (by decide +kernel)
set_option maxRecDepth 20000 in
theorem gX4_says_X4_va : GoodIn wsX4_says (wsV RX4 49 RX4 yX4_va wsX4_va) := goodIn_app (goodIn_of _ (by decide +kernel)) ggX4_says_X4_va
theorem dX4_says_0 : decode cX4_says 0 = .ok (.aload_n 0, 1) := by decide +kernel
theorem dX4_says_1 : decode cX4_says 1 = .ok (.iload_n 1, 1) := by decide +kernel
theorem dX4_says_2 : decode cX4_says 2 = .ok (.iconst 1, 1) := by decide +kernel
theorem dX4_says_3 : decode cX4_says 3 = .ok (.invokevirtual 86, 3) := by decide +kernel
theorem dX4_says_6 : decode cX4_says 6 = .ok (.istore_n 2, 1) := by decide +kernel
theorem dX4_says_7 : decode cX4_says 7 = .ok (.aload_n 0, 1) := by decide +kernel
theorem dX4_says_8 : decode cX4_says 8 = .ok (.iload_n 1, 1) := by decide +kernel
theorem dX4_says_9 : decode cX4_says 9 = .ok (.iconst 5, 1) := by decide +kernel
theorem dX4_says_10 : decode cX4_says 10 = .ok (.invokevirtual 49, 3) := by decide +kernel
theorem dX4_says_13 : decode cX4_says 13 = .ok (.istore_n 3, 1) := by decide +kernel
theorem dX4_says_14 : decode cX4_says 14 = .ok (.aload_n 0, 1) := by decide +kernel
theorem dX4_says_15 : decode cX4_says 15 = .ok (.iload_n 1, 1) := by decide +kernel
theorem dX4_says_16 : decode cX4_says 16 = .ok (.iconst 2, 1) := by decide +kernel
theorem dX4_says_17 : decode cX4_says 17 = .ok (.invokevirtual 49, 3) := by decide +kernel
theorem dX4_says_20 : decode cX4_says 20 = .ok (.tableswitch 62 0 2 #[28, 39, 49], 28) := by decide +kernel
theorem dX4_says_48 : decode cX4_says 48 = .ok (.iload_n 2, 1) := by decide +kernel
theorem dX4_says_49 : decode cX4_says 49 = .ok (.iload_n 3, 1) := by decide +kernel
theorem dX4_says_50 : decode cX4_says 50 = .ok (.if_icmp .ne 7, 3) := by decide +kernel
theorem dX4_says_53 : decode cX4_says 53 = .ok (.iconst 1, 1) := by decide +kernel
theorem dX4_says_54 : decode cX4_says 54 = .ok (.goto 4, 3) := by decide +kernel
theorem dX4_says_57 : decode cX4_says 57 = .ok (.iconst 0, 1) := by decide +kernel
theorem dX4_says_58 : decode cX4_says 58 = .ok (.ireturn, 1) := by decide +kernel
theorem dX4_says_59 : decode cX4_says 59 = .ok (.iload_n 2, 1) := by decide +kernel
theorem dX4_says_60 : decode cX4_says 60 = .ok (.ifCond .le 7, 3) := by decide +kernel
theorem dX4_says_63 : decode cX4_says 63 = .ok (.iconst 1, 1) := by decide +kernel
theorem dX4_says_64 : decode cX4_says 64 = .ok (.goto 4, 3) := by decide +kernel
theorem dX4_says_67 : decode cX4_says 67 = .ok (.iconst 0, 1) := by decide +kernel
theorem dX4_says_68 : decode cX4_says 68 = .ok (.ireturn, 1) := by decide +kernel
theorem dX4_says_69 : decode cX4_says 69 = .ok (.iconst 2, 1) := by decide +kernel
theorem dX4_says_70 : decode cX4_says 70 = .ok (.iload_n 2, 1) := by decide +kernel
theorem dX4_says_71 : decode cX4_says 71 = .ok (.imul, 1) := by decide +kernel
theorem dX4_says_72 : decode cX4_says 72 = .ok (.iload_n 3, 1) := by decide +kernel
theorem dX4_says_73 : decode cX4_says 73 = .ok (.if_icmp .le 7, 3) := by decide +kernel
theorem dX4_says_76 : decode cX4_says 76 = .ok (.iconst 1, 1) := by decide +kernel
theorem dX4_says_77 : decode cX4_says 77 = .ok (.goto 4, 3) := by decide +kernel
theorem dX4_says_80 : decode cX4_says 80 = .ok (.iconst 0, 1) := by decide +kernel
theorem dX4_says_81 : decode cX4_says 81 = .ok (.ireturn, 1) := by decide +kernel
theorem dX4_says_82 : decode cX4_says 82 = .ok (.iload_n 2, 1) := by decide +kernel
theorem dX4_says_83 : decode cX4_says 83 = .ok (.ifCond .ne 7, 3) := by decide +kernel
theorem dX4_says_86 : decode cX4_says 86 = .ok (.iconst 1, 1) := by decide +kernel
theorem dX4_says_87 : decode cX4_says 87 = .ok (.goto 4, 3) := by decide +kernel
theorem dX4_says_90 : decode cX4_says 90 = .ok (.iconst 0, 1) := by decide +kernel
theorem dX4_says_91 : decode cX4_says 91 = .ok (.ireturn, 1) := by decide +kernel
set_option maxRecDepth 20000 in
theorem ggX4_decide_X4_says : GoodIn wsX4_decide wsX4_says := goodIn_r _ [6, 7, 8, 9, 5, 10, 11, 12, 13, 14, 15, 16, 17, 18, 19, 20, 39, 40, 41, 42, 43, 44, 45, 46] (by decide +kernel) (by decide +kernel)
set_option maxRecDepth 20000 in
theorem gX4_decide_X4_says : GoodIn wsX4_decide (wsV RX4 103 RX4 yX4_says wsX4_says) := goodIn_app (goodIn_of _ (by decide +kernel)) ggX4_decide_X4_says
set_option maxRecDepth 20000 in
theorem ggX4_decide_X4_turn : GoodIn wsX4_decide wsX4_turn := goodIn_r _ [24, 25, 26, 27, 5, 28, 29, 30, 31, 32, 15, 11, 12, 13, 14, 39, 40, 41, 42, 43, 44, 45, 46] (by decide +kernel) (by decide +kernel)
set_option maxRecDepth 20000 in
theorem gX4_decide_X4_turn : GoodIn wsX4_decide (wsV RX4 82 RX4 yX4_turn wsX4_turn) := goodIn_app (goodIn_of _ (by decide +kernel)) ggX4_decide_X4_turn
set_option maxRecDepth 20000 in
theorem ggX4_decide_X4_va : GoodIn wsX4_decide wsX4_va := goodIn_r _ [14, 15, 39, 40, 41, 42, 43, 44, 45, 46] (by decide +kernel) (by decide +kernel)
set_option maxRecDepth 20000 in
theorem gX4_decide_X4_va : GoodIn wsX4_decide (wsV RX4 49 RX4 yX4_va wsX4_va) := goodIn_app (goodIn_of _ (by decide +kernel)) ggX4_decide_X4_va
set_option maxRecDepth 20000 in
theorem ggX4_decide_X4_send : GoodIn wsX4_decide wsX4_send := goodIn_r _ [36, 37, 38, 39, 40, 41, 42, 43, 44, 45, 46] (by decide +kernel) (by decide +kernel)
set_option maxRecDepth 20000 in
theorem gX4_decide_X4_send : GoodIn wsX4_decide (wsV RX4 75 RX4 yX4_send wsX4_send) := goodIn_app (goodIn_of _ (by decide +kernel)) ggX4_decide_X4_send
set_option maxRecDepth 20000 in
theorem ggX4_decide_X4_put : GoodIn wsX4_decide wsX4_put := goodIn_r _ [32, 15, 39, 40, 41, 42, 43, 44, 45, 46] (by decide +kernel) (by decide +kernel)
set_option maxRecDepth 20000 in
theorem gX4_decide_X4_put : GoodIn wsX4_decide (wsV RX4 68 RX4 yX4_put wsX4_put) := goodIn_app (goodIn_of _ (by decide +kernel)) ggX4_decide_X4_put
theorem dX4_decide_0 : decode cX4_decide 0 = .ok (.aload_n 0, 1) := by decide +kernel
theorem dX4_decide_1 : decode cX4_decide 1 = .ok (.iload_n 1, 1) := by decide +kernel
theorem dX4_decide_2 : decode cX4_decide 2 = .ok (.invokevirtual 103, 3) := by decide +kernel
theorem dX4_decide_5 : decode cX4_decide 5 = .ok (.istore_n 2, 1) := by decide +kernel
theorem dX4_decide_6 : decode cX4_decide 6 = .ok (.aload_n 0, 1) := by decide +kernel
theorem dX4_decide_7 : decode cX4_decide 7 = .ok (.iload_n 1, 1) := by decide +kernel
theorem dX4_decide_8 : decode cX4_decide 8 = .ok (.iload_n 2, 1) := by decide +kernel
theorem dX4_decide_9 : decode cX4_decide 9 = .ok (.invokevirtual 82, 3) := by decide +kernel
theorem dX4_decide_12 : decode cX4_decide 12 = .ok (.iconst 0, 1) := by decide +kernel
theorem dX4_decide_13 : decode cX4_decide 13 = .ok (.istore_n 3, 1) := by decide +kernel
theorem dX4_decide_14 : decode cX4_decide 14 = .ok (.iload_n 3, 1) := by decide +kernel
theorem dX4_decide_15 : decode cX4_decide 15 = .ok (.aload_n 0, 1) := by decide +kernel
theorem dX4_decide_16 : decode cX4_decide 16 = .ok (.iload_n 1, 1) := by decide +kernel
theorem dX4_decide_17 : decode cX4_decide 17 = .ok (.bipush 8, 2) := by decide +kernel
theorem dX4_decide_19 : decode cX4_decide 19 = .ok (.invokevirtual 49, 3) := by decide +kernel
theorem dX4_decide_22 : decode cX4_decide 22 = .ok (.if_icmp .ge 51, 3) := by decide +kernel
theorem dX4_decide_25 : decode cX4_decide 25 = .ok (.aload_n 0, 1) := by decide +kernel
theorem dX4_decide_26 : decode cX4_decide 26 = .ok (.iload_n 1, 1) := by decide +kernel
theorem dX4_decide_27 : decode cX4_decide 27 = .ok (.aload_n 0, 1) := by decide +kernel
theorem dX4_decide_28 : decode cX4_decide 28 = .ok (.getfield 16, 3) := by decide +kernel
theorem dX4_decide_31 : decode cX4_decide 31 = .ok (.iconst 2, 1) := by decide +kernel
theorem dX4_decide_32 : decode cX4_decide 32 = .ok (.bipush 100, 2) := by decide +kernel
theorem dX4_decide_34 : decode cX4_decide 34 = .ok (.iload_n 1, 1) := by decide +kernel
theorem dX4_decide_35 : decode cX4_decide 35 = .ok (.imul, 1) := by decide +kernel
theorem dX4_decide_36 : decode cX4_decide 36 = .ok (.iload_n 3, 1) := by decide +kernel
theorem dX4_decide_37 : decode cX4_decide 37 = .ok (.iadd, 1) := by decide +kernel
theorem dX4_decide_38 : decode cX4_decide 38 = .ok (.imul, 1) := by decide +kernel
theorem dX4_decide_39 : decode cX4_decide 39 = .ok (.iaload, 1) := by decide +kernel
theorem dX4_decide_40 : decode cX4_decide 40 = .ok (.iload_n 2, 1) := by decide +kernel
theorem dX4_decide_41 : decode cX4_decide 41 = .ok (.ifCond .eq 7, 3) := by decide +kernel
theorem dX4_decide_44 : decode cX4_decide 44 = .ok (.iconst 2, 1) := by decide +kernel
theorem dX4_decide_45 : decode cX4_decide 45 = .ok (.goto 4, 3) := by decide +kernel
theorem dX4_decide_48 : decode cX4_decide 48 = .ok (.iconst 1, 1) := by decide +kernel
theorem dX4_decide_49 : decode cX4_decide 49 = .ok (.aload_n 0, 1) := by decide +kernel
theorem dX4_decide_50 : decode cX4_decide 50 = .ok (.getfield 16, 3) := by decide +kernel
theorem dX4_decide_53 : decode cX4_decide 53 = .ok (.iconst 2, 1) := by decide +kernel
theorem dX4_decide_54 : decode cX4_decide 54 = .ok (.bipush 100, 2) := by decide +kernel
theorem dX4_decide_56 : decode cX4_decide 56 = .ok (.iload_n 1, 1) := by decide +kernel
theorem dX4_decide_57 : decode cX4_decide 57 = .ok (.imul, 1) := by decide +kernel
theorem dX4_decide_58 : decode cX4_decide 58 = .ok (.iload_n 3, 1) := by decide +kernel
theorem dX4_decide_59 : decode cX4_decide 59 = .ok (.iadd, 1) := by decide +kernel
theorem dX4_decide_60 : decode cX4_decide 60 = .ok (.imul, 1) := by decide +kernel
theorem dX4_decide_61 : decode cX4_decide 61 = .ok (.iconst 1, 1) := by decide +kernel
theorem dX4_decide_62 : decode cX4_decide 62 = .ok (.iadd, 1) := by decide +kernel
theorem dX4_decide_63 : decode cX4_decide 63 = .ok (.iaload, 1) := by decide +kernel
theorem dX4_decide_64 : decode cX4_decide 64 = .ok (.invokevirtual 75, 3) := by decide +kernel
theorem dX4_decide_67 : decode cX4_decide 67 = .ok (.iinc 3 1, 3) := by decide +kernel
theorem dX4_decide_70 : decode cX4_decide 70 = .ok (.goto (-56), 3) := by decide +kernel
theorem dX4_decide_73 : decode cX4_decide 73 = .ok (.aload_n 0, 1) := by decide +kernel
theorem dX4_decide_74 : decode cX4_decide 74 = .ok (.iload_n 1, 1) := by decide +kernel
theorem dX4_decide_75 : decode cX4_decide 75 = .ok (.bipush 8, 2) := by decide +kernel
theorem dX4_decide_77 : decode cX4_decide 77 = .ok (.iconst 0, 1) := by decide +kernel
theorem dX4_decide_78 : decode cX4_decide 78 = .ok (.invokevirtual 68, 3) := by decide +kernel
theorem dX4_decide_81 : decode cX4_decide 81 = .ok (.iload_n 2, 1) := by decide +kernel
theorem dX4_decide_82 : decode cX4_decide 82 = .ok (.ireturn, 1) := by decide +kernel
set_option maxRecDepth 20000 in
theorem ggX4_listen_X4_hear : GoodIn wsX4_listen wsX4_hear := goodIn_r _ [12, 3, 13, 14, 15, 16, 11, 17, 18, 19, 20, 21, 22, 23, 24, 25, 26, 27, 28, 29, 30, 31, 32, 33, 34, 35, 1, 2, 36, 37, 38, 39, 40, 41, 42, 43, 44, 45, 46, 47, 48, 49, 50, 51, 52, 53, 54, 55] (by decide +kernel) (by decide +kernel)
set_option maxRecDepth 20000 in
theorem gX4_listen_X4_hear : GoodIn wsX4_listen (wsV RX4 106 RX4 yX4_hear wsX4_hear) := goodIn_app (goodIn_of _ (by decide +kernel)) ggX4_listen_X4_hear
theorem dX4_listen_0 : decode cX4_listen 0 = .ok (.iconst 0, 1) := by decide +kernel
theorem dX4_listen_1 : decode cX4_listen 1 = .ok (.istore_n 1, 1) := by decide +kernel
theorem dX4_listen_2 : decode cX4_listen 2 = .ok (.iconst 0, 1) := by decide +kernel
theorem dX4_listen_3 : decode cX4_listen 3 = .ok (.istore_n 2, 1) := by decide +kernel
theorem dX4_listen_4 : decode cX4_listen 4 = .ok (.iconst 0, 1) := by decide +kernel
theorem dX4_listen_5 : decode cX4_listen 5 = .ok (.istore_n 3, 1) := by decide +kernel
theorem dX4_listen_6 : decode cX4_listen 6 = .ok (.iload_n 3, 1) := by decide +kernel
theorem dX4_listen_7 : decode cX4_listen 7 = .ok (.aload_n 0, 1) := by decide +kernel
theorem dX4_listen_8 : decode cX4_listen 8 = .ok (.getfield 22, 3) := by decide +kernel
theorem dX4_listen_11 : decode cX4_listen 11 = .ok (.iconst 1, 1) := by decide +kernel
theorem dX4_listen_12 : decode cX4_listen 12 = .ok (.iaload, 1) := by decide +kernel
theorem dX4_listen_13 : decode cX4_listen 13 = .ok (.if_icmp .ge 81, 3) := by decide +kernel
theorem dX4_listen_16 : decode cX4_listen 16 = .ok (.aload_n 0, 1) := by decide +kernel
theorem dX4_listen_17 : decode cX4_listen 17 = .ok (.getfield 19, 3) := by decide +kernel
theorem dX4_listen_20 : decode cX4_listen 20 = .ok (.iconst 5, 1) := by decide +kernel
theorem dX4_listen_21 : decode cX4_listen 21 = .ok (.iload_n 3, 1) := by decide +kernel
theorem dX4_listen_22 : decode cX4_listen 22 = .ok (.imul, 1) := by decide +kernel
theorem dX4_listen_23 : decode cX4_listen 23 = .ok (.iconst 3, 1) := by decide +kernel
theorem dX4_listen_24 : decode cX4_listen 24 = .ok (.iadd, 1) := by decide +kernel
theorem dX4_listen_25 : decode cX4_listen 25 = .ok (.dup2, 1) := by decide +kernel
theorem dX4_listen_26 : decode cX4_listen 26 = .ok (.iaload, 1) := by decide +kernel
theorem dX4_listen_27 : decode cX4_listen 27 = .ok (.iconst 1, 1) := by decide +kernel
theorem dX4_listen_28 : decode cX4_listen 28 = .ok (.isub, 1) := by decide +kernel
theorem dX4_listen_29 : decode cX4_listen 29 = .ok (.iastore, 1) := by decide +kernel
theorem dX4_listen_30 : decode cX4_listen 30 = .ok (.aload_n 0, 1) := by decide +kernel
theorem dX4_listen_31 : decode cX4_listen 31 = .ok (.getfield 19, 3) := by decide +kernel
theorem dX4_listen_34 : decode cX4_listen 34 = .ok (.iconst 5, 1) := by decide +kernel
theorem dX4_listen_35 : decode cX4_listen 35 = .ok (.iload_n 3, 1) := by decide +kernel
theorem dX4_listen_36 : decode cX4_listen 36 = .ok (.imul, 1) := by decide +kernel
