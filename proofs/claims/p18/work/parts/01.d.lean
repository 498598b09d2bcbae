theorem dX1_fact_82 : decode cX1_fact 82 = .ok (.aload_n 0, 1) := by decide +kernel
theorem dX1_fact_83 : decode cX1_fact 83 = .ok (.getfield 20, 3) := by decide +kernel
theorem dX1_fact_86 : decode cX1_fact 86 = .ok (.getfield 71, 3) := by decide +kernel
theorem dX1_fact_89 : decode cX1_fact 89 = .ok (.ireturn, 1) := by decide +kernel
theorem dX1_fact_90 : decode cX1_fact 90 = .ok (.aload_n 0, 1) := by decide +kernel
theorem dX1_fact_91 : decode cX1_fact 91 = .ok (.getfield 20, 3) := by decide +kernel
theorem dX1_fact_94 : decode cX1_fact 94 = .ok (.getfield 140, 3) := by decide +kernel
theorem dX1_fact_97 : decode cX1_fact 97 = .ok (.ireturn, 1) := by decide +kernel
theorem dX1_fact_98 : decode cX1_fact 98 = .ok (.aload_n 0, 1) := by decide +kernel
theorem dX1_fact_99 : decode cX1_fact 99 = .ok (.invokevirtual 143, 3) := by decide +kernel
theorem dX1_fact_102 : decode cX1_fact 102 = .ok (.ireturn, 1) := by decide +kernel
set_option maxRecDepth 20000 in
theorem ggX1_reachedFrom_X1_askedBy : GoodIn wsX1_reachedFrom wsX1_askedBy := goodIn_r _ [6, 7, 8, 9, 10, 11, 12, 5, 13, 1, 14, 15, 16, 17, 18, 19, 20, 21, 22, 23, 24, 25, 26, 27, 28, 29, 30, 31, 32] (by decide +kernel) (by decide +kernel)
set_option maxRecDepth 20000 in
theorem gX1_reachedFrom_X1_askedBy : GoodIn wsX1_reachedFrom (wsV RX1 147 RX1 yX1_askedBy wsX1_askedBy) := goodIn_app (goodIn_of _ (by decide +kernel)) ggX1_reachedFrom_X1_askedBy
theorem dX1_reachedFrom_0 : decode cX1_reachedFrom 0 = .ok (.aload_n 0, 1) := by decide +kernel
theorem dX1_reachedFrom_1 : decode cX1_reachedFrom 1 = .ok (.iload_n 1, 1) := by decide +kernel
theorem dX1_reachedFrom_2 : decode cX1_reachedFrom 2 = .ok (.invokevirtual 147, 3) := by decide +kernel
theorem dX1_reachedFrom_5 : decode cX1_reachedFrom 5 = .ok (.istore_n 2, 1) := by decide +kernel
theorem dX1_reachedFrom_6 : decode cX1_reachedFrom 6 = .ok (.iconst 0, 1) := by decide +kernel
theorem dX1_reachedFrom_7 : decode cX1_reachedFrom 7 = .ok (.istore_n 3, 1) := by decide +kernel
theorem dX1_reachedFrom_8 : decode cX1_reachedFrom 8 = .ok (.iload_n 3, 1) := by decide +kernel
theorem dX1_reachedFrom_9 : decode cX1_reachedFrom 9 = .ok (.aload_n 0, 1) := by decide +kernel
theorem dX1_reachedFrom_10 : decode cX1_reachedFrom 10 = .ok (.getfield 32, 3) := by decide +kernel
theorem dX1_reachedFrom_13 : decode cX1_reachedFrom 13 = .ok (.if_icmp .ge 53, 3) := by decide +kernel
theorem dX1_reachedFrom_16 : decode cX1_reachedFrom 16 = .ok (.iload_n 2, 1) := by decide +kernel
theorem dX1_reachedFrom_17 : decode cX1_reachedFrom 17 = .ok (.istore 4, 2) := by decide +kernel
theorem dX1_reachedFrom_19 : decode cX1_reachedFrom 19 = .ok (.iconst 0, 1) := by decide +kernel
theorem dX1_reachedFrom_20 : decode cX1_reachedFrom 20 = .ok (.istore 5, 2) := by decide +kernel
theorem dX1_reachedFrom_22 : decode cX1_reachedFrom 22 = .ok (.iload 5, 2) := by decide +kernel
theorem dX1_reachedFrom_24 : decode cX1_reachedFrom 24 = .ok (.aload_n 0, 1) := by decide +kernel
theorem dX1_reachedFrom_25 : decode cX1_reachedFrom 25 = .ok (.getfield 32, 3) := by decide +kernel
theorem dX1_reachedFrom_28 : decode cX1_reachedFrom 28 = .ok (.if_icmp .ge 29, 3) := by decide +kernel
theorem dX1_reachedFrom_31 : decode cX1_reachedFrom 31 = .ok (.iload_n 2, 1) := by decide +kernel
theorem dX1_reachedFrom_32 : decode cX1_reachedFrom 32 = .ok (.iconst 1, 1) := by decide +kernel
theorem dX1_reachedFrom_33 : decode cX1_reachedFrom 33 = .ok (.iload 5, 2) := by decide +kernel
theorem dX1_reachedFrom_35 : decode cX1_reachedFrom 35 = .ok (.ishl, 1) := by decide +kernel
theorem dX1_reachedFrom_36 : decode cX1_reachedFrom 36 = .ok (.iand, 1) := by decide +kernel
theorem dX1_reachedFrom_37 : decode cX1_reachedFrom 37 = .ok (.ifCond .eq 14, 3) := by decide +kernel
theorem dX1_reachedFrom_40 : decode cX1_reachedFrom 40 = .ok (.iload 4, 2) := by decide +kernel
theorem dX1_reachedFrom_42 : decode cX1_reachedFrom 42 = .ok (.aload_n 0, 1) := by decide +kernel
theorem dX1_reachedFrom_43 : decode cX1_reachedFrom 43 = .ok (.iload 5, 2) := by decide +kernel
theorem dX1_reachedFrom_45 : decode cX1_reachedFrom 45 = .ok (.invokevirtual 147, 3) := by decide +kernel
theorem dX1_reachedFrom_48 : decode cX1_reachedFrom 48 = .ok (.ior, 1) := by decide +kernel
theorem dX1_reachedFrom_49 : decode cX1_reachedFrom 49 = .ok (.istore 4, 2) := by decide +kernel
theorem dX1_reachedFrom_51 : decode cX1_reachedFrom 51 = .ok (.iinc 5 1, 3) := by decide +kernel
theorem dX1_reachedFrom_54 : decode cX1_reachedFrom 54 = .ok (.goto (-32), 3) := by decide +kernel
theorem dX1_reachedFrom_57 : decode cX1_reachedFrom 57 = .ok (.iload 4, 2) := by decide +kernel
theorem dX1_reachedFrom_59 : decode cX1_reachedFrom 59 = .ok (.istore_n 2, 1) := by decide +kernel
theorem dX1_reachedFrom_60 : decode cX1_reachedFrom 60 = .ok (.iinc 3 1, 3) := by decide +kernel
theorem dX1_reachedFrom_63 : decode cX1_reachedFrom 63 = .ok (.goto (-55), 3) := by decide +kernel
theorem dX1_reachedFrom_66 : decode cX1_reachedFrom 66 = .ok (.iload_n 2, 1) := by decide +kernel
theorem dX1_reachedFrom_67 : decode cX1_reachedFrom 67 = .ok (.ireturn, 1) := by decide +kernel
set_option maxRecDepth 20000 in
theorem ggX1_askedBy_X1_isDoor : GoodIn wsX1_askedBy wsX1_isDoor := goodIn_r _ [8, 9, 10, 11, 12, 13, 14] (by decide +kernel) (by decide +kernel)
set_option maxRecDepth 20000 in
theorem gX1_askedBy_X1_isDoor : GoodIn wsX1_askedBy (wsV RX1 51 RX1 yX1_isDoor wsX1_isDoor) := goodIn_app (goodIn_of _ (by decide +kernel)) ggX1_askedBy_X1_isDoor
theorem dX1_askedBy_0 : decode cX1_askedBy 0 = .ok (.iconst 0, 1) := by decide +kernel
theorem dX1_askedBy_1 : decode cX1_askedBy 1 = .ok (.istore_n 2, 1) := by decide +kernel
theorem dX1_askedBy_2 : decode cX1_askedBy 2 = .ok (.aload_n 0, 1) := by decide +kernel
theorem dX1_askedBy_3 : decode cX1_askedBy 3 = .ok (.iload_n 1, 1) := by decide +kernel
theorem dX1_askedBy_4 : decode cX1_askedBy 4 = .ok (.invokevirtual 51, 3) := by decide +kernel
theorem dX1_askedBy_7 : decode cX1_askedBy 7 = .ok (.ifCond .eq 40, 3) := by decide +kernel
theorem dX1_askedBy_10 : decode cX1_askedBy 10 = .ok (.aload_n 0, 1) := by decide +kernel
theorem dX1_askedBy_11 : decode cX1_askedBy 11 = .ok (.getfield 11, 3) := by decide +kernel
theorem dX1_askedBy_14 : decode cX1_askedBy 14 = .ok (.iload_n 1, 1) := by decide +kernel
theorem dX1_askedBy_15 : decode cX1_askedBy 15 = .ok (.aaload, 1) := by decide +kernel
theorem dX1_askedBy_16 : decode cX1_askedBy 16 = .ok (.astore_n 3, 1) := by decide +kernel
theorem dX1_askedBy_17 : decode cX1_askedBy 17 = .ok (.iconst 0, 1) := by decide +kernel
theorem dX1_askedBy_18 : decode cX1_askedBy 18 = .ok (.istore 4, 2) := by decide +kernel
theorem dX1_askedBy_20 : decode cX1_askedBy 20 = .ok (.iload 4, 2) := by decide +kernel
theorem dX1_askedBy_22 : decode cX1_askedBy 22 = .ok (.aload_n 3, 1) := by decide +kernel
theorem dX1_askedBy_23 : decode cX1_askedBy 23 = .ok (.getfield 107, 3) := by decide +kernel
theorem dX1_askedBy_26 : decode cX1_askedBy 26 = .ok (.if_icmp .ge 21, 3) := by decide +kernel
theorem dX1_askedBy_29 : decode cX1_askedBy 29 = .ok (.iload_n 2, 1) := by decide +kernel
theorem dX1_askedBy_30 : decode cX1_askedBy 30 = .ok (.iconst 1, 1) := by decide +kernel
theorem dX1_askedBy_31 : decode cX1_askedBy 31 = .ok (.aload_n 3, 1) := by decide +kernel
theorem dX1_askedBy_32 : decode cX1_askedBy 32 = .ok (.getfield 110, 3) := by decide +kernel
theorem dX1_askedBy_35 : decode cX1_askedBy 35 = .ok (.iload 4, 2) := by decide +kernel
theorem dX1_askedBy_37 : decode cX1_askedBy 37 = .ok (.iaload, 1) := by decide +kernel
theorem dX1_askedBy_38 : decode cX1_askedBy 38 = .ok (.ishl, 1) := by decide +kernel
theorem dX1_askedBy_39 : decode cX1_askedBy 39 = .ok (.ior, 1) := by decide +kernel
theorem dX1_askedBy_40 : decode cX1_askedBy 40 = .ok (.istore_n 2, 1) := by decide +kernel
theorem dX1_askedBy_41 : decode cX1_askedBy 41 = .ok (.iinc 4 1, 3) := by decide +kernel
theorem dX1_askedBy_44 : decode cX1_askedBy 44 = .ok (.goto (-24), 3) := by decide +kernel
theorem dX1_askedBy_47 : decode cX1_askedBy 47 = .ok (.iload_n 2, 1) := by decide +kernel
theorem dX1_askedBy_48 : decode cX1_askedBy 48 = .ok (.ireturn, 1) := by decide +kernel
theorem dX2_init_0 : decode cX2_init 0 = .ok (.aload_n 0, 1) := by decide +kernel
theorem dX2_init_1 : decode cX2_init 1 = .ok (.invokespecial 3, 3) := by decide +kernel
theorem dX2_init_4 : decode cX2_init 4 = .ok (.aload_n 0, 1) := by decide +kernel
theorem dX2_init_5 : decode cX2_init 5 = .ok (.bipush 60, 2) := by decide +kernel
theorem dX2_init_7 : decode cX2_init 7 = .ok (.newarray .int, 2) := by decide +kernel
theorem dX2_init_9 : decode cX2_init 9 = .ok (.putfield 9, 3) := by decide +kernel
theorem dX2_init_12 : decode cX2_init 12 = .ok (.aload_n 0, 1) := by decide +kernel
theorem dX2_init_13 : decode cX2_init 13 = .ok (.bipush 60, 2) := by decide +kernel
theorem dX2_init_15 : decode cX2_init 15 = .ok (.newarray .int, 2) := by decide +kernel
theorem dX2_init_17 : decode cX2_init 17 = .ok (.putfield 15, 3) := by decide +kernel
theorem dX2_init_20 : decode cX2_init 20 = .ok (.aload_n 0, 1) := by decide +kernel
theorem dX2_init_21 : decode cX2_init 21 = .ok (.bipush 60, 2) := by decide +kernel
theorem dX2_init_23 : decode cX2_init 23 = .ok (.newarray .int, 2) := by decide +kernel
theorem dX2_init_25 : decode cX2_init 25 = .ok (.putfield 18, 3) := by decide +kernel
theorem dX2_init_28 : decode cX2_init 28 = .ok (.aload_n 0, 1) := by decide +kernel
theorem dX2_init_29 : decode cX2_init 29 = .ok (.bipush 60, 2) := by decide +kernel
theorem dX2_init_31 : decode cX2_init 31 = .ok (.newarray .int, 2) := by decide +kernel
theorem dX2_init_33 : decode cX2_init 33 = .ok (.putfield 21, 3) := by decide +kernel
theorem dX2_init_36 : decode cX2_init 36 = .ok (.aload_n 0, 1) := by decide +kernel
theorem dX2_init_37 : decode cX2_init 37 = .ok (.bipush 60, 2) := by decide +kernel
theorem dX2_init_39 : decode cX2_init 39 = .ok (.newarray .int, 2) := by decide +kernel
theorem dX2_init_41 : decode cX2_init 41 = .ok (.putfield 24, 3) := by decide +kernel
theorem dX2_init_44 : decode cX2_init 44 = .ok (.return_, 1) := by decide +kernel
theorem dX2_copyFrom_0 : decode cX2_copyFrom 0 = .ok (.aload_n 0, 1) := by decide +kernel
theorem dX2_copyFrom_1 : decode cX2_copyFrom 1 = .ok (.aload_n 1, 1) := by decide +kernel
theorem dX2_copyFrom_2 : decode cX2_copyFrom 2 = .ok (.getfield 27, 3) := by decide +kernel
theorem dX2_copyFrom_5 : decode cX2_copyFrom 5 = .ok (.putfield 27, 3) := by decide +kernel
theorem dX2_copyFrom_8 : decode cX2_copyFrom 8 = .ok (.aload_n 0, 1) := by decide +kernel
theorem dX2_copyFrom_9 : decode cX2_copyFrom 9 = .ok (.aload_n 1, 1) := by decide +kernel
theorem dX2_copyFrom_10 : decode cX2_copyFrom 10 = .ok (.getfield 31, 3) := by decide +kernel
theorem dX2_copyFrom_13 : decode cX2_copyFrom 13 = .ok (.putfield 31, 3) := by decide +kernel
theorem dX2_copyFrom_16 : decode cX2_copyFrom 16 = .ok (.aload_n 1, 1) := by decide +kernel
theorem dX2_copyFrom_17 : decode cX2_copyFrom 17 = .ok (.getfield 9, 3) := by decide +kernel
theorem dX2_copyFrom_20 : decode cX2_copyFrom 20 = .ok (.iconst 0, 1) := by decide +kernel
theorem dX2_copyFrom_21 : decode cX2_copyFrom 21 = .ok (.aload_n 0, 1) := by decide +kernel
theorem dX2_copyFrom_22 : decode cX2_copyFrom 22 = .ok (.getfield 9, 3) := by decide +kernel
theorem dX2_copyFrom_25 : decode cX2_copyFrom 25 = .ok (.iconst 0, 1) := by decide +kernel
theorem dX2_copyFrom_26 : decode cX2_copyFrom 26 = .ok (.bipush 60, 2) := by decide +kernel
theorem dX2_copyFrom_28 : decode cX2_copyFrom 28 = .ok (.invokestatic 34, 3) := by decide +kernel
theorem dX2_copyFrom_31 : decode cX2_copyFrom 31 = .ok (.aload_n 1, 1) := by decide +kernel
theorem dX2_copyFrom_32 : decode cX2_copyFrom 32 = .ok (.getfield 15, 3) := by decide +kernel
theorem dX2_copyFrom_35 : decode cX2_copyFrom 35 = .ok (.iconst 0, 1) := by decide +kernel
theorem dX2_copyFrom_36 : decode cX2_copyFrom 36 = .ok (.aload_n 0, 1) := by decide +kernel
theorem dX2_copyFrom_37 : decode cX2_copyFrom 37 = .ok (.getfield 15, 3) := by decide +kernel
theorem dX2_copyFrom_40 : decode cX2_copyFrom 40 = .ok (.iconst 0, 1) := by decide +kernel
theorem dX2_copyFrom_41 : decode cX2_copyFrom 41 = .ok (.bipush 60, 2) := by decide +kernel
theorem dX2_copyFrom_43 : decode cX2_copyFrom 43 = .ok (.invokestatic 34, 3) := by decide +kernel
theorem dX2_copyFrom_46 : decode cX2_copyFrom 46 = .ok (.aload_n 1, 1) := by decide +kernel
theorem dX2_copyFrom_47 : decode cX2_copyFrom 47 = .ok (.getfield 18, 3) := by decide +kernel
theorem dX2_copyFrom_50 : decode cX2_copyFrom 50 = .ok (.iconst 0, 1) := by decide +kernel
theorem dX2_copyFrom_51 : decode cX2_copyFrom 51 = .ok (.aload_n 0, 1) := by decide +kernel
theorem dX2_copyFrom_52 : decode cX2_copyFrom 52 = .ok (.getfield 18, 3) := by decide +kernel
theorem dX2_copyFrom_55 : decode cX2_copyFrom 55 = .ok (.iconst 0, 1) := by decide +kernel
theorem dX2_copyFrom_56 : decode cX2_copyFrom 56 = .ok (.bipush 60, 2) := by decide +kernel
theorem dX2_copyFrom_58 : decode cX2_copyFrom 58 = .ok (.invokestatic 34, 3) := by decide +kernel
theorem dX2_copyFrom_61 : decode cX2_copyFrom 61 = .ok (.aload_n 1, 1) := by decide +kernel
theorem dX2_copyFrom_62 : decode cX2_copyFrom 62 = .ok (.getfield 21, 3) := by decide +kernel
theorem dX2_copyFrom_65 : decode cX2_copyFrom 65 = .ok (.iconst 0, 1) := by decide +kernel
theorem dX2_copyFrom_66 : decode cX2_copyFrom 66 = .ok (.aload_n 0, 1) := by decide +kernel
theorem dX2_copyFrom_67 : decode cX2_copyFrom 67 = .ok (.getfield 21, 3) := by decide +kernel
theorem dX2_copyFrom_70 : decode cX2_copyFrom 70 = .ok (.iconst 0, 1) := by decide +kernel
theorem dX2_copyFrom_71 : decode cX2_copyFrom 71 = .ok (.bipush 60, 2) := by decide +kernel
theorem dX2_copyFrom_73 : decode cX2_copyFrom 73 = .ok (.invokestatic 34, 3) := by decide +kernel
theorem dX2_copyFrom_76 : decode cX2_copyFrom 76 = .ok (.aload_n 1, 1) := by decide +kernel
theorem dX2_copyFrom_77 : decode cX2_copyFrom 77 = .ok (.getfield 24, 3) := by decide +kernel
theorem dX2_copyFrom_80 : decode cX2_copyFrom 80 = .ok (.iconst 0, 1) := by decide +kernel
theorem dX2_copyFrom_81 : decode cX2_copyFrom 81 = .ok (.aload_n 0, 1) := by decide +kernel
theorem dX2_copyFrom_82 : decode cX2_copyFrom 82 = .ok (.getfield 24, 3) := by decide +kernel
theorem dX2_copyFrom_85 : decode cX2_copyFrom 85 = .ok (.iconst 0, 1) := by decide +kernel
theorem dX2_copyFrom_86 : decode cX2_copyFrom 86 = .ok (.bipush 60, 2) := by decide +kernel
theorem dX2_copyFrom_88 : decode cX2_copyFrom 88 = .ok (.invokestatic 34, 3) := by decide +kernel
theorem dX2_copyFrom_91 : decode cX2_copyFrom 91 = .ok (.return_, 1) := by decide +kernel
theorem dX2_add_0 : decode cX2_add 0 = .ok (.aload_n 0, 1) := by decide +kernel
theorem dX2_add_1 : decode cX2_add 1 = .ok (.getfield 27, 3) := by decide +kernel
theorem dX2_add_4 : decode cX2_add 4 = .ok (.bipush 60, 2) := by decide +kernel
theorem dX2_add_6 : decode cX2_add 6 = .ok (.if_icmp .lt 14, 3) := by decide +kernel
theorem dX2_add_9 : decode cX2_add 9 = .ok (.aload_n 0, 1) := by decide +kernel
theorem dX2_add_10 : decode cX2_add 10 = .ok (.dup, 1) := by decide +kernel
theorem dX2_add_11 : decode cX2_add 11 = .ok (.getfield 31, 3) := by decide +kernel
theorem dX2_add_14 : decode cX2_add 14 = .ok (.iconst 1, 1) := by decide +kernel
theorem dX2_add_15 : decode cX2_add 15 = .ok (.iadd, 1) := by decide +kernel
theorem dX2_add_16 : decode cX2_add 16 = .ok (.putfield 31, 3) := by decide +kernel
theorem dX2_add_19 : decode cX2_add 19 = .ok (.return_, 1) := by decide +kernel
theorem dX2_add_20 : decode cX2_add 20 = .ok (.aload_n 0, 1) := by decide +kernel
theorem dX2_add_21 : decode cX2_add 21 = .ok (.getfield 9, 3) := by decide +kernel
theorem dX2_add_24 : decode cX2_add 24 = .ok (.aload_n 0, 1) := by decide +kernel
theorem dX2_add_25 : decode cX2_add 25 = .ok (.getfield 27, 3) := by decide +kernel
theorem dX2_add_28 : decode cX2_add 28 = .ok (.iload_n 1, 1) := by decide +kernel
theorem dX2_add_29 : decode cX2_add 29 = .ok (.iastore, 1) := by decide +kernel
theorem dX2_add_30 : decode cX2_add 30 = .ok (.aload_n 0, 1) := by decide +kernel
theorem dX2_add_31 : decode cX2_add 31 = .ok (.getfield 15, 3) := by decide +kernel
theorem dX2_add_34 : decode cX2_add 34 = .ok (.aload_n 0, 1) := by decide +kernel
theorem dX2_add_35 : decode cX2_add 35 = .ok (.getfield 27, 3) := by decide +kernel
theorem dX2_add_38 : decode cX2_add 38 = .ok (.iload_n 2, 1) := by decide +kernel
theorem dX2_add_39 : decode cX2_add 39 = .ok (.iastore, 1) := by decide +kernel
theorem dX2_add_40 : decode cX2_add 40 = .ok (.aload_n 0, 1) := by decide +kernel
theorem dX2_add_41 : decode cX2_add 41 = .ok (.getfield 18, 3) := by decide +kernel
theorem dX2_add_44 : decode cX2_add 44 = .ok (.aload_n 0, 1) := by decide +kernel
theorem dX2_add_45 : decode cX2_add 45 = .ok (.getfield 27, 3) := by decide +kernel
theorem dX2_add_48 : decode cX2_add 48 = .ok (.iload_n 3, 1) := by decide +kernel
theorem dX2_add_49 : decode cX2_add 49 = .ok (.iastore, 1) := by decide +kernel
theorem dX2_add_50 : decode cX2_add 50 = .ok (.aload_n 0, 1) := by decide +kernel
theorem dX2_add_51 : decode cX2_add 51 = .ok (.getfield 21, 3) := by decide +kernel
theorem dX2_add_54 : decode cX2_add 54 = .ok (.aload_n 0, 1) := by decide +kernel
theorem dX2_add_55 : decode cX2_add 55 = .ok (.getfield 27, 3) := by decide +kernel
theorem dX2_add_58 : decode cX2_add 58 = .ok (.iload 4, 2) := by decide +kernel
theorem dX2_add_60 : decode cX2_add 60 = .ok (.iastore, 1) := by decide +kernel
theorem dX2_add_61 : decode cX2_add 61 = .ok (.aload_n 0, 1) := by decide +kernel
theorem dX2_add_62 : decode cX2_add 62 = .ok (.getfield 24, 3) := by decide +kernel
theorem dX2_add_65 : decode cX2_add 65 = .ok (.aload_n 0, 1) := by decide +kernel
theorem dX2_add_66 : decode cX2_add 66 = .ok (.getfield 27, 3) := by decide +kernel
theorem dX2_add_69 : decode cX2_add 69 = .ok (.iload 4, 2) := by decide +kernel
theorem dX2_add_71 : decode cX2_add 71 = .ok (.iastore, 1) := by decide +kernel
theorem dX2_add_72 : decode cX2_add 72 = .ok (.aload_n 0, 1) := by decide +kernel
theorem dX2_add_73 : decode cX2_add 73 = .ok (.dup, 1) := by decide +kernel
theorem dX2_add_74 : decode cX2_add 74 = .ok (.getfield 27, 3) := by decide +kernel
theorem dX2_add_77 : decode cX2_add 77 = .ok (.iconst 1, 1) := by decide +kernel
theorem dX2_add_78 : decode cX2_add 78 = .ok (.iadd, 1) := by decide +kernel
theorem dX2_add_79 : decode cX2_add 79 = .ok (.putfield 27, 3) := by decide +kernel
theorem dX2_add_82 : decode cX2_add 82 = .ok (.return_, 1) := by decide +kernel
set_option maxRecDepth 20000 in
theorem ggX2_moveOn_X2_add : GoodIn wsX2_moveOn wsX2_add := goodIn_r _ [11, 1, 12, 3, 4, 5, 2, 6, 17, 18, 19, 20, 21, 22, 23] (by decide +kernel) (by decide +kernel)
set_option maxRecDepth 20000 in
theorem gX2_moveOn_X2_add : GoodIn wsX2_moveOn (wsV RX2 40 RX2 yX2_add wsX2_add) := goodIn_app (goodIn_of _ (by decide +kernel)) ggX2_moveOn_X2_add
set_option maxRecDepth 20000 in
theorem ggX2_moveOn_X2_moveUp : GoodIn wsX2_moveOn wsX2_moveUp := goodIn_r _ [16, 3, 4, 5, 2, 6, 17, 18, 19, 20, 21, 22, 23] (by decide +kernel) (by decide +kernel)
set_option maxRecDepth 20000 in
theorem gX2_moveOn_X2_moveUp : GoodIn wsX2_moveOn (wsV RX2 44 RX2 yX2_moveUp wsX2_moveUp) := goodIn_app (goodIn_of _ (by decide +kernel)) ggX2_moveOn_X2_moveUp
theorem dX2_moveOn_0 : decode cX2_moveOn 0 = .ok (.aload_n 1, 1) := by decide +kernel
theorem dX2_moveOn_1 : decode cX2_moveOn 1 = .ok (.iconst 0, 1) := by decide +kernel
theorem dX2_moveOn_2 : decode cX2_moveOn 2 = .ok (.putfield 27, 3) := by decide +kernel
theorem dX2_moveOn_5 : decode cX2_moveOn 5 = .ok (.iconst 0, 1) := by decide +kernel
theorem dX2_moveOn_6 : decode cX2_moveOn 6 = .ok (.istore_n 2, 1) := by decide +kernel
theorem dX2_moveOn_7 : decode cX2_moveOn 7 = .ok (.iconst 0, 1) := by decide +kernel
theorem dX2_moveOn_8 : decode cX2_moveOn 8 = .ok (.istore_n 3, 1) := by decide +kernel
theorem dX2_moveOn_9 : decode cX2_moveOn 9 = .ok (.iload_n 3, 1) := by decide +kernel
theorem dX2_moveOn_10 : decode cX2_moveOn 10 = .ok (.aload_n 0, 1) := by decide +kernel
theorem dX2_moveOn_11 : decode cX2_moveOn 11 = .ok (.getfield 27, 3) := by decide +kernel
theorem dX2_moveOn_14 : decode cX2_moveOn 14 = .ok (.if_icmp .ge 68, 3) := by decide +kernel
theorem dX2_moveOn_17 : decode cX2_moveOn 17 = .ok (.aload_n 0, 1) := by decide +kernel
theorem dX2_moveOn_18 : decode cX2_moveOn 18 = .ok (.getfield 21, 3) := by decide +kernel
theorem dX2_moveOn_21 : decode cX2_moveOn 21 = .ok (.iload_n 3, 1) := by decide +kernel
theorem dX2_moveOn_22 : decode cX2_moveOn 22 = .ok (.dup2, 1) := by decide +kernel
theorem dX2_moveOn_23 : decode cX2_moveOn 23 = .ok (.iaload, 1) := by decide +kernel
theorem dX2_moveOn_24 : decode cX2_moveOn 24 = .ok (.iconst 1, 1) := by decide +kernel
theorem dX2_moveOn_25 : decode cX2_moveOn 25 = .ok (.isub, 1) := by decide +kernel
theorem dX2_moveOn_26 : decode cX2_moveOn 26 = .ok (.iastore, 1) := by decide +kernel
theorem dX2_moveOn_27 : decode cX2_moveOn 27 = .ok (.aload_n 0, 1) := by decide +kernel
theorem dX2_moveOn_28 : decode cX2_moveOn 28 = .ok (.getfield 21, 3) := by decide +kernel
theorem dX2_moveOn_31 : decode cX2_moveOn 31 = .ok (.iload_n 3, 1) := by decide +kernel
theorem dX2_moveOn_32 : decode cX2_moveOn 32 = .ok (.iaload, 1) := by decide +kernel
theorem dX2_moveOn_33 : decode cX2_moveOn 33 = .ok (.ifCond .gt 34, 3) := by decide +kernel
theorem dX2_moveOn_36 : decode cX2_moveOn 36 = .ok (.aload_n 1, 1) := by decide +kernel
theorem dX2_moveOn_37 : decode cX2_moveOn 37 = .ok (.aload_n 0, 1) := by decide +kernel
theorem dX2_moveOn_38 : decode cX2_moveOn 38 = .ok (.getfield 9, 3) := by decide +kernel
theorem dX2_moveOn_41 : decode cX2_moveOn 41 = .ok (.iload_n 3, 1) := by decide +kernel
theorem dX2_moveOn_42 : decode cX2_moveOn 42 = .ok (.iaload, 1) := by decide +kernel
theorem dX2_moveOn_43 : decode cX2_moveOn 43 = .ok (.aload_n 0, 1) := by decide +kernel
theorem dX2_moveOn_44 : decode cX2_moveOn 44 = .ok (.getfield 15, 3) := by decide +kernel
theorem dX2_moveOn_47 : decode cX2_moveOn 47 = .ok (.iload_n 3, 1) := by decide +kernel
theorem dX2_moveOn_48 : decode cX2_moveOn 48 = .ok (.iaload, 1) := by decide +kernel
theorem dX2_moveOn_49 : decode cX2_moveOn 49 = .ok (.aload_n 0, 1) := by decide +kernel
theorem dX2_moveOn_50 : decode cX2_moveOn 50 = .ok (.getfield 18, 3) := by decide +kernel
theorem dX2_moveOn_53 : decode cX2_moveOn 53 = .ok (.iload_n 3, 1) := by decide +kernel
theorem dX2_moveOn_54 : decode cX2_moveOn 54 = .ok (.iaload, 1) := by decide +kernel
theorem dX2_moveOn_55 : decode cX2_moveOn 55 = .ok (.aload_n 0, 1) := by decide +kernel
theorem dX2_moveOn_56 : decode cX2_moveOn 56 = .ok (.getfield 24, 3) := by decide +kernel
theorem dX2_moveOn_59 : decode cX2_moveOn 59 = .ok (.iload_n 3, 1) := by decide +kernel
theorem dX2_moveOn_60 : decode cX2_moveOn 60 = .ok (.iaload, 1) := by decide +kernel
theorem dX2_moveOn_61 : decode cX2_moveOn 61 = .ok (.invokevirtual 40, 3) := by decide +kernel
theorem dX2_moveOn_64 : decode cX2_moveOn 64 = .ok (.goto 12, 3) := by decide +kernel
theorem dX2_moveOn_67 : decode cX2_moveOn 67 = .ok (.aload_n 0, 1) := by decide +kernel
theorem dX2_moveOn_68 : decode cX2_moveOn 68 = .ok (.iload_n 3, 1) := by decide +kernel
theorem dX2_moveOn_69 : decode cX2_moveOn 69 = .ok (.iload_n 2, 1) := by decide +kernel
theorem dX2_moveOn_70 : decode cX2_moveOn 70 = .ok (.invokevirtual 44, 3) := by decide +kernel
theorem dX2_moveOn_73 : decode cX2_moveOn 73 = .ok (.iinc 2 1, 3) := by decide +kernel
theorem dX2_moveOn_76 : decode cX2_moveOn 76 = .ok (.iinc 3 1, 3) := by decide +kernel
theorem dX2_moveOn_79 : decode cX2_moveOn 79 = .ok (.goto (-70), 3) := by decide +kernel
theorem dX2_moveOn_82 : decode cX2_moveOn 82 = .ok (.aload_n 0, 1) := by decide +kernel
theorem dX2_moveOn_83 : decode cX2_moveOn 83 = .ok (.iload_n 2, 1) := by decide +kernel
theorem dX2_moveOn_84 : decode cX2_moveOn 84 = .ok (.putfield 27, 3) := by decide +kernel
theorem dX2_moveOn_87 : decode cX2_moveOn 87 = .ok (.return_, 1) := by decide +kernel
theorem dX2_moveUp_0 : decode cX2_moveUp 0 = .ok (.aload_n 0, 1) := by decide +kernel
theorem dX2_moveUp_1 : decode cX2_moveUp 1 = .ok (.getfield 9, 3) := by decide +kernel
theorem dX2_moveUp_4 : decode cX2_moveUp 4 = .ok (.iload_n 2, 1) := by decide +kernel
theorem dX2_moveUp_5 : decode cX2_moveUp 5 = .ok (.aload_n 0, 1) := by decide +kernel
theorem dX2_moveUp_6 : decode cX2_moveUp 6 = .ok (.getfield 9, 3) := by decide +kernel
theorem dX2_moveUp_9 : decode cX2_moveUp 9 = .ok (.iload_n 1, 1) := by decide +kernel
theorem dX2_moveUp_10 : decode cX2_moveUp 10 = .ok (.iaload, 1) := by decide +kernel
theorem dX2_moveUp_11 : decode cX2_moveUp 11 = .ok (.iastore, 1) := by decide +kernel
theorem dX2_moveUp_12 : decode cX2_moveUp 12 = .ok (.aload_n 0, 1) := by decide +kernel
theorem dX2_moveUp_13 : decode cX2_moveUp 13 = .ok (.getfield 15, 3) := by decide +kernel
theorem dX2_moveUp_16 : decode cX2_moveUp 16 = .ok (.iload_n 2, 1) := by decide +kernel
theorem dX2_moveUp_17 : decode cX2_moveUp 17 = .ok (.aload_n 0, 1) := by decide +kernel
theorem dX2_moveUp_18 : decode cX2_moveUp 18 = .ok (.getfield 15, 3) := by decide +kernel
theorem dX2_moveUp_21 : decode cX2_moveUp 21 = .ok (.iload_n 1, 1) := by decide +kernel
theorem dX2_moveUp_22 : decode cX2_moveUp 22 = .ok (.iaload, 1) := by decide +kernel
theorem dX2_moveUp_23 : decode cX2_moveUp 23 = .ok (.iastore, 1) := by decide +kernel
theorem dX2_moveUp_24 : decode cX2_moveUp 24 = .ok (.aload_n 0, 1) := by decide +kernel
theorem dX2_moveUp_25 : decode cX2_moveUp 25 = .ok (.getfield 18, 3) := by decide +kernel
theorem dX2_moveUp_28 : decode cX2_moveUp 28 = .ok (.iload_n 2, 1) := by decide +kernel
theorem dX2_moveUp_29 : decode cX2_moveUp 29 = .ok (.aload_n 0, 1) := by decide +kernel
theorem dX2_moveUp_30 : decode cX2_moveUp 30 = .ok (.getfield 18, 3) := by decide +kernel
theorem dX2_moveUp_33 : decode cX2_moveUp 33 = .ok (.iload_n 1, 1) := by decide +kernel
theorem dX2_moveUp_34 : decode cX2_moveUp 34 = .ok (.iaload, 1) := by decide +kernel
theorem dX2_moveUp_35 : decode cX2_moveUp 35 = .ok (.iastore, 1) := by decide +kernel
theorem dX2_moveUp_36 : decode cX2_moveUp 36 = .ok (.aload_n 0, 1) := by decide +kernel
theorem dX2_moveUp_37 : decode cX2_moveUp 37 = .ok (.getfield 21, 3) := by decide +kernel
theorem dX2_moveUp_40 : decode cX2_moveUp 40 = .ok (.iload_n 2, 1) := by decide +kernel
theorem dX2_moveUp_41 : decode cX2_moveUp 41 = .ok (.aload_n 0, 1) := by decide +kernel
theorem dX2_moveUp_42 : decode cX2_moveUp 42 = .ok (.getfield 21, 3) := by decide +kernel
theorem dX2_moveUp_45 : decode cX2_moveUp 45 = .ok (.iload_n 1, 1) := by decide +kernel
theorem dX2_moveUp_46 : decode cX2_moveUp 46 = .ok (.iaload, 1) := by decide +kernel
theorem dX2_moveUp_47 : decode cX2_moveUp 47 = .ok (.iastore, 1) := by decide +kernel
theorem dX2_moveUp_48 : decode cX2_moveUp 48 = .ok (.aload_n 0, 1) := by decide +kernel
theorem dX2_moveUp_49 : decode cX2_moveUp 49 = .ok (.getfield 24, 3) := by decide +kernel
theorem dX2_moveUp_52 : decode cX2_moveUp 52 = .ok (.iload_n 2, 1) := by decide +kernel
theorem dX2_moveUp_53 : decode cX2_moveUp 53 = .ok (.aload_n 0, 1) := by decide +kernel
theorem dX2_moveUp_54 : decode cX2_moveUp 54 = .ok (.getfield 24, 3) := by decide +kernel
theorem dX2_moveUp_57 : decode cX2_moveUp 57 = .ok (.iload_n 1, 1) := by decide +kernel
theorem dX2_moveUp_58 : decode cX2_moveUp 58 = .ok (.iaload, 1) := by decide +kernel
theorem dX2_moveUp_59 : decode cX2_moveUp 59 = .ok (.iastore, 1) := by decide +kernel
theorem dX2_moveUp_60 : decode cX2_moveUp 60 = .ok (.return_, 1) := by decide +kernel
set_option maxRecDepth 20000 in
theorem ggX2_fact_X3_isIn : GoodIn wsX2_fact wsX3_isIn := goodIn_r _ [8] (by decide +kernel) (by decide +kernel)
set_option maxRecDepth 20000 in
theorem gX2_fact_X3_isIn_n48 : GoodIn wsX2_fact (wsX3_isIn) := ggX2_fact_X3_isIn
theorem dX2_fact_0 : decode cX2_fact 0 = .ok (.iload_n 1, 1) := by decide +kernel
theorem dX2_fact_1 : decode cX2_fact 1 = .ok (.iconst 0, 1) := by decide +kernel
theorem dX2_fact_2 : decode cX2_fact 2 = .ok (.aload_n 0, 1) := by decide +kernel
theorem dX2_fact_3 : decode cX2_fact 3 = .ok (.getfield 27, 3) := by decide +kernel
theorem dX2_fact_6 : decode cX2_fact 6 = .ok (.iconst 1, 1) := by decide +kernel
theorem dX2_fact_7 : decode cX2_fact 7 = .ok (.isub, 1) := by decide +kernel
theorem dX2_fact_8 : decode cX2_fact 8 = .ok (.invokestatic 48, 3) := by decide +kernel
theorem dX2_fact_11 : decode cX2_fact 11 = .ok (.ifCond .ne 5, 3) := by decide +kernel
theorem dX2_fact_14 : decode cX2_fact 14 = .ok (.iconst 0, 1) := by decide +kernel
theorem dX2_fact_15 : decode cX2_fact 15 = .ok (.ireturn, 1) := by decide +kernel
theorem dX2_fact_16 : decode cX2_fact 16 = .ok (.iload_n 2, 1) := by decide +kernel
theorem dX2_fact_17 : decode cX2_fact 17 = .ok (.tableswitch 48 0 2 #[27, 34, 41], 27) := by decide +kernel
theorem dX2_fact_44 : decode cX2_fact 44 = .ok (.aload_n 0, 1) := by decide +kernel
theorem dX2_fact_45 : decode cX2_fact 45 = .ok (.getfield 9, 3) := by decide +kernel
theorem dX2_fact_48 : decode cX2_fact 48 = .ok (.iload_n 1, 1) := by decide +kernel
theorem dX2_fact_49 : decode cX2_fact 49 = .ok (.iaload, 1) := by decide +kernel
theorem dX2_fact_50 : decode cX2_fact 50 = .ok (.ireturn, 1) := by decide +kernel
theorem dX2_fact_51 : decode cX2_fact 51 = .ok (.aload_n 0, 1) := by decide +kernel
theorem dX2_fact_52 : decode cX2_fact 52 = .ok (.getfield 15, 3) := by decide +kernel
theorem dX2_fact_55 : decode cX2_fact 55 = .ok (.iload_n 1, 1) := by decide +kernel
theorem dX2_fact_56 : decode cX2_fact 56 = .ok (.iaload, 1) := by decide +kernel
theorem dX2_fact_57 : decode cX2_fact 57 = .ok (.ireturn, 1) := by decide +kernel
theorem dX2_fact_58 : decode cX2_fact 58 = .ok (.aload_n 0, 1) := by decide +kernel
theorem dX2_fact_59 : decode cX2_fact 59 = .ok (.getfield 18, 3) := by decide +kernel
theorem dX2_fact_62 : decode cX2_fact 62 = .ok (.iload_n 1, 1) := by decide +kernel
theorem dX2_fact_63 : decode cX2_fact 63 = .ok (.iaload, 1) := by decide +kernel
theorem dX2_fact_64 : decode cX2_fact 64 = .ok (.ireturn, 1) := by decide +kernel
theorem dX2_fact_65 : decode cX2_fact 65 = .ok (.aload_n 0, 1) := by decide +kernel
theorem dX2_fact_66 : decode cX2_fact 66 = .ok (.getfield 21, 3) := by decide +kernel
theorem dX2_fact_69 : decode cX2_fact 69 = .ok (.iload_n 1, 1) := by decide +kernel
theorem dX2_fact_70 : decode cX2_fact 70 = .ok (.iaload, 1) := by decide +kernel
theorem dX2_fact_71 : decode cX2_fact 71 = .ok (.ireturn, 1) := by decide +kernel
set_option maxRecDepth 20000 in
theorem ggX3_init_X1_init : GoodIn wsX3_init wsX1_init := goodIn_r _ [11, 12, 2, 3, 13, 14, 15, 16, 17, 18, 19, 20, 21, 22, 23, 24, 25, 26, 27, 28, 29, 30, 31, 32, 33, 34, 35, 36, 37, 38, 39, 40, 41, 42, 43, 46, 47, 48, 49, 50, 51, 52, 53, 54, 55, 56, 57, 58, 59, 60, 61, 62, 63, 64, 65, 66] (by decide +kernel) (by decide +kernel)
set_option maxRecDepth 20000 in
theorem gX3_init_X1_init : GoodIn wsX3_init (wsX1_init) := ggX3_init_X1_init
theorem dX3_init_0 : decode cX3_init 0 = .ok (.aload_n 0, 1) := by decide +kernel
theorem dX3_init_1 : decode cX3_init 1 = .ok (.invokespecial 1, 3) := by decide +kernel
theorem dX3_init_4 : decode cX3_init 4 = .ok (.aload_n 0, 1) := by decide +kernel
theorem dX3_init_5 : decode cX3_init 5 = .ok (.new 7, 3) := by decide +kernel
theorem dX3_init_8 : decode cX3_init 8 = .ok (.dup, 1) := by decide +kernel
theorem dX3_init_9 : decode cX3_init 9 = .ok (.invokespecial 9, 3) := by decide +kernel
theorem dX3_init_12 : decode cX3_init 12 = .ok (.putfield 10, 3) := by decide +kernel
theorem dX3_init_15 : decode cX3_init 15 = .ok (.aload_n 0, 1) := by decide +kernel
theorem dX3_init_16 : decode cX3_init 16 = .ok (.new 7, 3) := by decide +kernel
theorem dX3_init_19 : decode cX3_init 19 = .ok (.dup, 1) := by decide +kernel
theorem dX3_init_20 : decode cX3_init 20 = .ok (.invokespecial 9, 3) := by decide +kernel
theorem dX3_init_23 : decode cX3_init 23 = .ok (.putfield 16, 3) := by decide +kernel
theorem dX3_init_26 : decode cX3_init 26 = .ok (.return_, 1) := by decide +kernel
set_option maxRecDepth 20000 in
theorem ggX3_build_X3_isIn : GoodIn wsX3_build wsX3_isIn := goodIn_r _ [10] (by decide +kernel) (by decide +kernel)
set_option maxRecDepth 20000 in
theorem gX3_build_X3_isIn : GoodIn wsX3_build (va_wsS RX3 19 yX3_isIn wsX3_isIn) := goodIn_app (goodIn_of _ (by decide +kernel)) ggX3_build_X3_isIn
set_option maxRecDepth 20000 in
theorem ggX3_build_X3_isPatience : GoodIn wsX3_build wsX3_isPatience := goodIn_r _ [13, 7, 8, 9, 10] (by decide +kernel) (by decide +kernel)
set_option maxRecDepth 20000 in
theorem gX3_build_X3_isPatience : GoodIn wsX3_build (va_wsS RX3 30 yX3_isPatience wsX3_isPatience) := goodIn_app (goodIn_of _ (by decide +kernel)) ggX3_build_X3_isPatience
set_option maxRecDepth 20000 in
theorem ggX3_build_X3_isRule : GoodIn wsX3_build wsX3_isRule := goodIn_r _ [16, 7, 8, 9, 10] (by decide +kernel) (by decide +kernel)
set_option maxRecDepth 20000 in
theorem gX3_build_X3_isRule : GoodIn wsX3_build (va_wsS RX3 34 yX3_isRule wsX3_isRule) := goodIn_app (goodIn_of _ (by decide +kernel)) ggX3_build_X3_isRule
set_option maxRecDepth 20000 in
theorem ggX3_build_X1_addDoor : GoodIn wsX3_build wsX1_addDoor := goodIn_r _ [21, 22, 23, 24, 25, 26, 29, 30, 31, 32, 33, 34, 35, 36, 37, 38, 39, 40, 41, 42, 43, 44, 45, 46, 47] (by decide +kernel) (by decide +kernel)
set_option maxRecDepth 20000 in
theorem gX3_build_X1_addDoor : GoodIn wsX3_build (wsV RX3 48 RX1 yX1_addDoor wsX1_addDoor) := goodIn_app (goodIn_of _ (by decide +kernel)) ggX3_build_X1_addDoor
theorem dX3_build_0 : decode cX3_build 0 = .ok (.iload_n 1, 1) := by decide +kernel
theorem dX3_build_1 : decode cX3_build 1 = .ok (.iconst 0, 1) := by decide +kernel
theorem dX3_build_2 : decode cX3_build 2 = .ok (.bipush 99, 2) := by decide +kernel
theorem dX3_build_4 : decode cX3_build 4 = .ok (.invokestatic 19, 3) := by decide +kernel
theorem dX3_build_7 : decode cX3_build 7 = .ok (.ifCond .ne 13, 3) := by decide +kernel
theorem dX3_build_10 : decode cX3_build 10 = .ok (.new 23, 3) := by decide +kernel
theorem dX3_build_13 : decode cX3_build 13 = .ok (.dup, 1) := by decide +kernel
theorem dX3_build_14 : decode cX3_build 14 = .ok (.ldc 25, 2) := by decide +kernel
theorem dX3_build_16 : decode cX3_build 16 = .ok (.invokespecial 27, 3) := by decide +kernel
theorem dX3_build_19 : decode cX3_build 19 = .ok (.athrow, 1) := by decide +kernel
theorem dX3_build_20 : decode cX3_build 20 = .ok (.iload_n 2, 1) := by decide +kernel
theorem dX3_build_21 : decode cX3_build 21 = .ok (.invokestatic 30, 3) := by decide +kernel
theorem dX3_build_24 : decode cX3_build 24 = .ok (.ifCond .eq 10, 3) := by decide +kernel
theorem dX3_build_27 : decode cX3_build 27 = .ok (.iload_n 3, 1) := by decide +kernel
theorem dX3_build_28 : decode cX3_build 28 = .ok (.invokestatic 34, 3) := by decide +kernel
theorem dX3_build_31 : decode cX3_build 31 = .ok (.ifCond .ne 13, 3) := by decide +kernel
theorem dX3_build_34 : decode cX3_build 34 = .ok (.new 23, 3) := by decide +kernel
theorem dX3_build_37 : decode cX3_build 37 = .ok (.dup, 1) := by decide +kernel
theorem dX3_build_38 : decode cX3_build 38 = .ok (.ldc 37, 2) := by decide +kernel
theorem dX3_build_40 : decode cX3_build 40 = .ok (.invokespecial 27, 3) := by decide +kernel
theorem dX3_build_43 : decode cX3_build 43 = .ok (.athrow, 1) := by decide +kernel
theorem dX3_build_44 : decode cX3_build 44 = .ok (.aload_n 0, 1) := by decide +kernel
theorem dX3_build_45 : decode cX3_build 45 = .ok (.getfield 10, 3) := by decide +kernel
theorem dX3_build_48 : decode cX3_build 48 = .ok (.getfield 39, 3) := by decide +kernel
theorem dX3_build_51 : decode cX3_build 51 = .ok (.bipush 10, 2) := by decide +kernel
theorem dX3_build_53 : decode cX3_build 53 = .ok (.if_icmp .lt 13, 3) := by decide +kernel
theorem dX3_build_56 : decode cX3_build 56 = .ok (.new 43, 3) := by decide +kernel
theorem dX3_build_59 : decode cX3_build 59 = .ok (.dup, 1) := by decide +kernel
theorem dX3_build_60 : decode cX3_build 60 = .ok (.ldc 45, 2) := by decide +kernel
theorem dX3_build_62 : decode cX3_build 62 = .ok (.invokespecial 47, 3) := by decide +kernel
theorem dX3_build_65 : decode cX3_build 65 = .ok (.athrow, 1) := by decide +kernel
theorem dX3_build_66 : decode cX3_build 66 = .ok (.aload_n 0, 1) := by decide +kernel
theorem dX3_build_67 : decode cX3_build 67 = .ok (.getfield 10, 3) := by decide +kernel
theorem dX3_build_70 : decode cX3_build 70 = .ok (.iload_n 1, 1) := by decide +kernel
theorem dX3_build_71 : decode cX3_build 71 = .ok (.iload_n 2, 1) := by decide +kernel
theorem dX3_build_72 : decode cX3_build 72 = .ok (.iload_n 3, 1) := by decide +kernel
theorem dX3_build_73 : decode cX3_build 73 = .ok (.invokevirtual 48, 3) := by decide +kernel
theorem dX3_build_76 : decode cX3_build 76 = .ok (.ireturn, 1) := by decide +kernel
set_option maxRecDepth 20000 in
theorem ggX3_ask_X1_isDoor : GoodIn wsX3_ask wsX1_isDoor := goodIn_r _ [15, 16, 36, 37, 38, 39, 40] (by decide +kernel) (by decide +kernel)
set_option maxRecDepth 20000 in
theorem gX3_ask_X1_isDoor : GoodIn wsX3_ask (wsV RX3 52 RX1 yX1_isDoor wsX1_isDoor) := goodIn_app (goodIn_of _ (by decide +kernel)) ggX3_ask_X1_isDoor
set_option maxRecDepth 20000 in
theorem ggX3_ask_X3_isIn : GoodIn wsX3_ask wsX3_isIn := goodIn_r _ [20] (by decide +kernel) (by decide +kernel)
set_option maxRecDepth 20000 in
theorem gX3_ask_X3_isIn : GoodIn wsX3_ask (va_wsS RX3 19 yX3_isIn wsX3_isIn) := goodIn_app (goodIn_of _ (by decide +kernel)) ggX3_ask_X3_isIn
set_option maxRecDepth 20000 in
theorem ggX3_ask_X0_placeOf : GoodIn wsX3_ask wsX0_placeOf := goodIn_r _ [25, 26, 27, 41, 42, 43, 44, 45, 46, 47, 48, 49, 50, 51, 52, 53, 54] (by decide +kernel) (by decide +kernel)
set_option maxRecDepth 20000 in
theorem gX3_ask_X0_placeOf : GoodIn wsX3_ask (wsV RX3 71 RX0 yX0_placeOf wsX0_placeOf) := goodIn_app (goodIn_of _ (by decide +kernel)) ggX3_ask_X0_placeOf
set_option maxRecDepth 20000 in
theorem ggX3_ask_X0_addAsked : GoodIn wsX3_ask wsX0_addAsked := goodIn_r _ [31, 26, 27, 32, 33, 41, 42, 43, 44, 45, 46, 47, 48, 49, 50, 51, 52, 53, 54] (by decide +kernel) (by decide +kernel)
set_option maxRecDepth 20000 in
theorem gX3_ask_X0_addAsked : GoodIn wsX3_ask (wsV RX3 80 RX0 yX0_addAsked wsX0_addAsked) := goodIn_app (goodIn_of _ (by decide +kernel)) ggX3_ask_X0_addAsked
theorem dX3_ask_0 : decode cX3_ask 0 = .ok (.aload_n 0, 1) := by decide +kernel
theorem dX3_ask_1 : decode cX3_ask 1 = .ok (.getfield 10, 3) := by decide +kernel
theorem dX3_ask_4 : decode cX3_ask 4 = .ok (.iload_n 1, 1) := by decide +kernel
theorem dX3_ask_5 : decode cX3_ask 5 = .ok (.invokevirtual 52, 3) := by decide +kernel
theorem dX3_ask_8 : decode cX3_ask 8 = .ok (.ifCond .eq 14, 3) := by decide +kernel
theorem dX3_ask_11 : decode cX3_ask 11 = .ok (.aload_n 0, 1) := by decide +kernel
theorem dX3_ask_12 : decode cX3_ask 12 = .ok (.getfield 10, 3) := by decide +kernel
theorem dX3_ask_15 : decode cX3_ask 15 = .ok (.iload_n 2, 1) := by decide +kernel
theorem dX3_ask_16 : decode cX3_ask 16 = .ok (.invokevirtual 52, 3) := by decide +kernel
theorem dX3_ask_19 : decode cX3_ask 19 = .ok (.ifCond .ne 13, 3) := by decide +kernel
theorem dX3_ask_22 : decode cX3_ask 22 = .ok (.new 55, 3) := by decide +kernel
theorem dX3_ask_25 : decode cX3_ask 25 = .ok (.dup, 1) := by decide +kernel
theorem dX3_ask_26 : decode cX3_ask 26 = .ok (.ldc 57, 2) := by decide +kernel
theorem dX3_ask_28 : decode cX3_ask 28 = .ok (.invokespecial 59, 3) := by decide +kernel
theorem dX3_ask_31 : decode cX3_ask 31 = .ok (.athrow, 1) := by decide +kernel
theorem dX3_ask_32 : decode cX3_ask 32 = .ok (.iload_n 1, 1) := by decide +kernel
theorem dX3_ask_33 : decode cX3_ask 33 = .ok (.iload_n 2, 1) := by decide +kernel
theorem dX3_ask_34 : decode cX3_ask 34 = .ok (.if_icmp .eq 12, 3) := by decide +kernel
theorem dX3_ask_37 : decode cX3_ask 37 = .ok (.iload_n 3, 1) := by decide +kernel
theorem dX3_ask_38 : decode cX3_ask 38 = .ok (.iconst 1, 1) := by decide +kernel
theorem dX3_ask_39 : decode cX3_ask 39 = .ok (.iconst 5, 1) := by decide +kernel
theorem dX3_ask_40 : decode cX3_ask 40 = .ok (.invokestatic 19, 3) := by decide +kernel
theorem dX3_ask_43 : decode cX3_ask 43 = .ok (.ifCond .ne 13, 3) := by decide +kernel
theorem dX3_ask_46 : decode cX3_ask 46 = .ok (.new 23, 3) := by decide +kernel
theorem dX3_ask_49 : decode cX3_ask 49 = .ok (.dup, 1) := by decide +kernel
theorem dX3_ask_50 : decode cX3_ask 50 = .ok (.ldc 60, 2) := by decide +kernel
theorem dX3_ask_52 : decode cX3_ask 52 = .ok (.invokespecial 27, 3) := by decide +kernel
theorem dX3_ask_55 : decode cX3_ask 55 = .ok (.athrow, 1) := by decide +kernel
theorem dX3_ask_56 : decode cX3_ask 56 = .ok (.aload_n 0, 1) := by decide +kernel
theorem dX3_ask_57 : decode cX3_ask 57 = .ok (.getfield 10, 3) := by decide +kernel
theorem dX3_ask_60 : decode cX3_ask 60 = .ok (.getfield 62, 3) := by decide +kernel
theorem dX3_ask_63 : decode cX3_ask 63 = .ok (.iload_n 1, 1) := by decide +kernel
theorem dX3_ask_64 : decode cX3_ask 64 = .ok (.aaload, 1) := by decide +kernel
theorem dX3_ask_65 : decode cX3_ask 65 = .ok (.astore 4, 2) := by decide +kernel
theorem dX3_ask_67 : decode cX3_ask 67 = .ok (.aload 4, 2) := by decide +kernel
theorem dX3_ask_69 : decode cX3_ask 69 = .ok (.getfield 66, 3) := by decide +kernel
theorem dX3_ask_72 : decode cX3_ask 72 = .ok (.ifCond .ne 21, 3) := by decide +kernel
theorem dX3_ask_75 : decode cX3_ask 75 = .ok (.aload 4, 2) := by decide +kernel
theorem dX3_ask_77 : decode cX3_ask 77 = .ok (.iload_n 2, 1) := by decide +kernel
theorem dX3_ask_78 : decode cX3_ask 78 = .ok (.invokevirtual 71, 3) := by decide +kernel
theorem dX3_ask_81 : decode cX3_ask 81 = .ok (.ifCond .ge 12, 3) := by decide +kernel
theorem dX3_ask_84 : decode cX3_ask 84 = .ok (.aload 4, 2) := by decide +kernel
theorem dX3_ask_86 : decode cX3_ask 86 = .ok (.getfield 75, 3) := by decide +kernel
theorem dX3_ask_89 : decode cX3_ask 89 = .ok (.iconst 4, 1) := by decide +kernel
theorem dX3_ask_90 : decode cX3_ask 90 = .ok (.if_icmp .lt 13, 3) := by decide +kernel
theorem dX3_ask_93 : decode cX3_ask 93 = .ok (.new 43, 3) := by decide +kernel
theorem dX3_ask_96 : decode cX3_ask 96 = .ok (.dup, 1) := by decide +kernel
theorem dX3_ask_97 : decode cX3_ask 97 = .ok (.ldc 78, 2) := by decide +kernel
theorem dX3_ask_99 : decode cX3_ask 99 = .ok (.invokespecial 47, 3) := by decide +kernel
theorem dX3_ask_102 : decode cX3_ask 102 = .ok (.athrow, 1) := by decide +kernel
theorem dX3_ask_103 : decode cX3_ask 103 = .ok (.aload 4, 2) := by decide +kernel
theorem dX3_ask_105 : decode cX3_ask 105 = .ok (.iload_n 2, 1) := by decide +kernel
theorem dX3_ask_106 : decode cX3_ask 106 = .ok (.iload_n 3, 1) := by decide +kernel
theorem dX3_ask_107 : decode cX3_ask 107 = .ok (.invokevirtual 80, 3) := by decide +kernel
theorem dX3_ask_110 : decode cX3_ask 110 = .ok (.aload 4, 2) := by decide +kernel
theorem dX3_ask_112 : decode cX3_ask 112 = .ok (.getfield 75, 3) := by decide +kernel
theorem dX3_ask_115 : decode cX3_ask 115 = .ok (.ireturn, 1) := by decide +kernel
set_option maxRecDepth 20000 in
theorem ggX3_set_X1_isDoor : GoodIn wsX3_set wsX1_isDoor := goodIn_r _ [13, 14, 27, 28, 29, 30, 31] (by decide +kernel) (by decide +kernel)
set_option maxRecDepth 20000 in
theorem gX3_set_X1_isDoor : GoodIn wsX3_set (wsV RX3 52 RX1 yX1_isDoor wsX1_isDoor) := goodIn_app (goodIn_of _ (by decide +kernel)) ggX3_set_X1_isDoor
set_option maxRecDepth 20000 in
theorem ggX3_set_X3_isRule : GoodIn wsX3_set wsX3_isRule := goodIn_r _ [18, 19, 20, 17, 21] (by decide +kernel) (by decide +kernel)
set_option maxRecDepth 20000 in
theorem gX3_set_X3_isRule : GoodIn wsX3_set (va_wsS RX3 34 yX3_isRule wsX3_isRule) := goodIn_app (goodIn_of _ (by decide +kernel)) ggX3_set_X3_isRule
set_option maxRecDepth 20000 in
theorem ggX3_set_X3_isPatience : GoodIn wsX3_set wsX3_isPatience := goodIn_r _ [24, 19, 20, 17, 21] (by decide +kernel) (by decide +kernel)
set_option maxRecDepth 20000 in
theorem gX3_set_X3_isPatience : GoodIn wsX3_set (va_wsS RX3 30 yX3_isPatience wsX3_isPatience) := goodIn_app (goodIn_of _ (by decide +kernel)) ggX3_set_X3_isPatience
theorem dX3_set_0 : decode cX3_set 0 = .ok (.aload_n 0, 1) := by decide +kernel
theorem dX3_set_1 : decode cX3_set 1 = .ok (.getfield 10, 3) := by decide +kernel
theorem dX3_set_4 : decode cX3_set 4 = .ok (.iload_n 1, 1) := by decide +kernel
theorem dX3_set_5 : decode cX3_set 5 = .ok (.invokevirtual 52, 3) := by decide +kernel
theorem dX3_set_8 : decode cX3_set 8 = .ok (.ifCond .ne 13, 3) := by decide +kernel
theorem dX3_set_11 : decode cX3_set 11 = .ok (.new 55, 3) := by decide +kernel
theorem dX3_set_14 : decode cX3_set 14 = .ok (.dup, 1) := by decide +kernel
theorem dX3_set_15 : decode cX3_set 15 = .ok (.ldc 57, 2) := by decide +kernel
theorem dX3_set_17 : decode cX3_set 17 = .ok (.invokespecial 59, 3) := by decide +kernel
theorem dX3_set_20 : decode cX3_set 20 = .ok (.athrow, 1) := by decide +kernel
theorem dX3_set_21 : decode cX3_set 21 = .ok (.iload_n 2, 1) := by decide +kernel
theorem dX3_set_22 : decode cX3_set 22 = .ok (.invokestatic 34, 3) := by decide +kernel
theorem dX3_set_25 : decode cX3_set 25 = .ok (.ifCond .eq 10, 3) := by decide +kernel
theorem dX3_set_28 : decode cX3_set 28 = .ok (.iload_n 3, 1) := by decide +kernel
theorem dX3_set_29 : decode cX3_set 29 = .ok (.invokestatic 30, 3) := by decide +kernel
theorem dX3_set_32 : decode cX3_set 32 = .ok (.ifCond .ne 13, 3) := by decide +kernel
theorem dX3_set_35 : decode cX3_set 35 = .ok (.new 23, 3) := by decide +kernel
theorem dX3_set_38 : decode cX3_set 38 = .ok (.dup, 1) := by decide +kernel
theorem dX3_set_39 : decode cX3_set 39 = .ok (.ldc 84, 2) := by decide +kernel
theorem dX3_set_41 : decode cX3_set 41 = .ok (.invokespecial 27, 3) := by decide +kernel
theorem dX3_set_44 : decode cX3_set 44 = .ok (.athrow, 1) := by decide +kernel
theorem dX3_set_45 : decode cX3_set 45 = .ok (.aload_n 0, 1) := by decide +kernel
theorem dX3_set_46 : decode cX3_set 46 = .ok (.getfield 10, 3) := by decide +kernel
theorem dX3_set_49 : decode cX3_set 49 = .ok (.getfield 62, 3) := by decide +kernel
theorem dX3_set_52 : decode cX3_set 52 = .ok (.iload_n 1, 1) := by decide +kernel
theorem dX3_set_53 : decode cX3_set 53 = .ok (.aaload, 1) := by decide +kernel
theorem dX3_set_54 : decode cX3_set 54 = .ok (.astore 4, 2) := by decide +kernel
theorem dX3_set_56 : decode cX3_set 56 = .ok (.bipush 100, 2) := by decide +kernel
theorem dX3_set_58 : decode cX3_set 58 = .ok (.aload 4, 2) := by decide +kernel
theorem dX3_set_60 : decode cX3_set 60 = .ok (.getfield 86, 3) := by decide +kernel
theorem dX3_set_63 : decode cX3_set 63 = .ok (.imul, 1) := by decide +kernel
theorem dX3_set_64 : decode cX3_set 64 = .ok (.aload 4, 2) := by decide +kernel
theorem dX3_set_66 : decode cX3_set 66 = .ok (.getfield 89, 3) := by decide +kernel
theorem dX3_set_69 : decode cX3_set 69 = .ok (.iadd, 1) := by decide +kernel
theorem dX3_set_70 : decode cX3_set 70 = .ok (.istore 5, 2) := by decide +kernel
theorem dX3_set_72 : decode cX3_set 72 = .ok (.aload 4, 2) := by decide +kernel
theorem dX3_set_74 : decode cX3_set 74 = .ok (.iload_n 2, 1) := by decide +kernel
theorem dX3_set_75 : decode cX3_set 75 = .ok (.putfield 86, 3) := by decide +kernel
theorem dX3_set_78 : decode cX3_set 78 = .ok (.aload 4, 2) := by decide +kernel
theorem dX3_set_80 : decode cX3_set 80 = .ok (.iload_n 3, 1) := by decide +kernel
theorem dX3_set_81 : decode cX3_set 81 = .ok (.putfield 89, 3) := by decide +kernel
theorem dX3_set_84 : decode cX3_set 84 = .ok (.iload 5, 2) := by decide +kernel
theorem dX3_set_86 : decode cX3_set 86 = .ok (.ireturn, 1) := by decide +kernel
set_option maxRecDepth 20000 in
theorem ggX3_whisper_X1_isDoor : GoodIn wsX3_whisper wsX1_isDoor := goodIn_r _ [10, 11, 59, 60, 61, 62, 63] (by decide +kernel) (by decide +kernel)
set_option maxRecDepth 20000 in
theorem gX3_whisper_X1_isDoor : GoodIn wsX3_whisper (wsV RX3 52 RX1 yX1_isDoor wsX1_isDoor) := goodIn_app (goodIn_of _ (by decide +kernel)) ggX3_whisper_X1_isDoor
set_option maxRecDepth 20000 in
theorem ggX3_whisper_X3_isIn : GoodIn wsX3_whisper wsX3_isIn := goodIn_r _ [15] (by decide +kernel) (by decide +kernel)
set_option maxRecDepth 20000 in
theorem gX3_whisper_X3_isIn : GoodIn wsX3_whisper (va_wsS RX3 19 yX3_isIn wsX3_isIn) := goodIn_app (goodIn_of _ (by decide +kernel)) ggX3_whisper_X3_isIn
set_option maxRecDepth 20000 in
theorem ggX3_whisper_X1_hearToken : GoodIn wsX3_whisper wsX1_hearToken := goodIn_r _ [19, 20, 21, 22, 23, 7, 8, 9, 10, 11, 24, 25, 26, 27, 28, 29, 30, 31, 32, 33, 34, 35, 36, 37, 38, 39, 40, 41, 42, 43, 44, 45, 46, 47, 48, 49, 50, 51, 52, 53, 54, 55, 56, 59, 60, 61, 62, 63, 64, 65, 66, 67, 68, 69, 70, 71, 72, 73, 74, 75, 76, 77, 78, 79, 80, 81, 82, 83, 84] (by decide +kernel) (by decide +kernel)
set_option maxRecDepth 20000 in
theorem gX3_whisper_X1_hearToken : GoodIn wsX3_whisper (wsV RX3 94 RX1 yX1_hearToken wsX1_hearToken) := goodIn_app (goodIn_of _ (by decide +kernel)) ggX3_whisper_X1_hearToken
theorem dX3_whisper_0 : decode cX3_whisper 0 = .ok (.aload_n 0, 1) := by decide +kernel
theorem dX3_whisper_1 : decode cX3_whisper 1 = .ok (.getfield 10, 3) := by decide +kernel
theorem dX3_whisper_4 : decode cX3_whisper 4 = .ok (.iload_n 1, 1) := by decide +kernel
theorem dX3_whisper_5 : decode cX3_whisper 5 = .ok (.invokevirtual 52, 3) := by decide +kernel
theorem dX3_whisper_8 : decode cX3_whisper 8 = .ok (.ifCond .ne 13, 3) := by decide +kernel
theorem dX3_whisper_11 : decode cX3_whisper 11 = .ok (.new 55, 3) := by decide +kernel
theorem dX3_whisper_14 : decode cX3_whisper 14 = .ok (.dup, 1) := by decide +kernel
theorem dX3_whisper_15 : decode cX3_whisper 15 = .ok (.ldc 57, 2) := by decide +kernel
theorem dX3_whisper_17 : decode cX3_whisper 17 = .ok (.invokespecial 59, 3) := by decide +kernel
theorem dX3_whisper_20 : decode cX3_whisper 20 = .ok (.athrow, 1) := by decide +kernel
theorem dX3_whisper_21 : decode cX3_whisper 21 = .ok (.iload_n 2, 1) := by decide +kernel
theorem dX3_whisper_22 : decode cX3_whisper 22 = .ok (.iconst 0, 1) := by decide +kernel
theorem dX3_whisper_23 : decode cX3_whisper 23 = .ok (.bipush 99, 2) := by decide +kernel
theorem dX3_whisper_25 : decode cX3_whisper 25 = .ok (.invokestatic 19, 3) := by decide +kernel
theorem dX3_whisper_28 : decode cX3_whisper 28 = .ok (.ifCond .ne 13, 3) := by decide +kernel
theorem dX3_whisper_31 : decode cX3_whisper 31 = .ok (.new 23, 3) := by decide +kernel
theorem dX3_whisper_34 : decode cX3_whisper 34 = .ok (.dup, 1) := by decide +kernel
theorem dX3_whisper_35 : decode cX3_whisper 35 = .ok (.ldc 92, 2) := by decide +kernel
theorem dX3_whisper_37 : decode cX3_whisper 37 = .ok (.invokespecial 27, 3) := by decide +kernel
theorem dX3_whisper_40 : decode cX3_whisper 40 = .ok (.athrow, 1) := by decide +kernel
theorem dX3_whisper_41 : decode cX3_whisper 41 = .ok (.aload_n 0, 1) := by decide +kernel
theorem dX3_whisper_42 : decode cX3_whisper 42 = .ok (.getfield 10, 3) := by decide +kernel
theorem dX3_whisper_45 : decode cX3_whisper 45 = .ok (.iload_n 1, 1) := by decide +kernel
theorem dX3_whisper_46 : decode cX3_whisper 46 = .ok (.iload_n 2, 1) := by decide +kernel
theorem dX3_whisper_47 : decode cX3_whisper 47 = .ok (.invokevirtual 94, 3) := by decide +kernel
theorem dX3_whisper_50 : decode cX3_whisper 50 = .ok (.ireturn, 1) := by decide +kernel
set_option maxRecDepth 20000 in
theorem ggX3_door_X1_isDoor : GoodIn wsX3_door wsX1_isDoor := goodIn_r _ [9, 10, 34, 35, 36, 37, 38] (by decide +kernel) (by decide +kernel)
set_option maxRecDepth 20000 in
theorem gX3_door_X1_isDoor : GoodIn wsX3_door (wsV RX3 52 RX1 yX1_isDoor wsX1_isDoor) := goodIn_app (goodIn_of _ (by decide +kernel)) ggX3_door_X1_isDoor
set_option maxRecDepth 20000 in
theorem ggX3_door_X3_isIn : GoodIn wsX3_door wsX3_isIn := goodIn_r _ [14] (by decide +kernel) (by decide +kernel)
set_option maxRecDepth 20000 in
theorem gX3_door_X3_isIn : GoodIn wsX3_door (va_wsS RX3 19 yX3_isIn wsX3_isIn) := goodIn_app (goodIn_of _ (by decide +kernel)) ggX3_door_X3_isIn
set_option maxRecDepth 20000 in
theorem ggX3_door_X0_fact : GoodIn wsX3_door wsX0_fact := goodIn_r _ [19, 20, 21, 22, 23, 24, 25, 26, 27, 28, 29, 18, 30, 31, 39, 40, 41, 42, 43, 44, 45, 46, 47, 48, 49, 50, 51, 52] (by decide +kernel) (by decide +kernel)
set_option maxRecDepth 20000 in
theorem gX3_door_X0_fact : GoodIn wsX3_door (wsV RX3 100 RX0 yX0_fact wsX0_fact) := goodIn_app (goodIn_of _ (by decide +kernel)) ggX3_door_X0_fact
theorem dX3_door_0 : decode cX3_door 0 = .ok (.aload_n 0, 1) := by decide +kernel
theorem dX3_door_1 : decode cX3_door 1 = .ok (.getfield 10, 3) := by decide +kernel
theorem dX3_door_4 : decode cX3_door 4 = .ok (.iload_n 1, 1) := by decide +kernel
theorem dX3_door_5 : decode cX3_door 5 = .ok (.invokevirtual 52, 3) := by decide +kernel
theorem dX3_door_8 : decode cX3_door 8 = .ok (.ifCond .eq 13, 3) := by decide +kernel
theorem dX3_door_11 : decode cX3_door 11 = .ok (.iload_n 2, 1) := by decide +kernel
theorem dX3_door_12 : decode cX3_door 12 = .ok (.iconst 0, 1) := by decide +kernel
theorem dX3_door_13 : decode cX3_door 13 = .ok (.bipush 8, 2) := by decide +kernel
theorem dX3_door_15 : decode cX3_door 15 = .ok (.invokestatic 19, 3) := by decide +kernel
theorem dX3_door_18 : decode cX3_door 18 = .ok (.ifCond .ne 13, 3) := by decide +kernel
theorem dX3_door_21 : decode cX3_door 21 = .ok (.new 55, 3) := by decide +kernel
theorem dX3_door_24 : decode cX3_door 24 = .ok (.dup, 1) := by decide +kernel
theorem dX3_door_25 : decode cX3_door 25 = .ok (.ldc 98, 2) := by decide +kernel
theorem dX3_door_27 : decode cX3_door 27 = .ok (.invokespecial 59, 3) := by decide +kernel
theorem dX3_door_30 : decode cX3_door 30 = .ok (.athrow, 1) := by decide +kernel
theorem dX3_door_31 : decode cX3_door 31 = .ok (.aload_n 0, 1) := by decide +kernel
theorem dX3_door_32 : decode cX3_door 32 = .ok (.getfield 10, 3) := by decide +kernel
theorem dX3_door_35 : decode cX3_door 35 = .ok (.getfield 62, 3) := by decide +kernel
theorem dX3_door_38 : decode cX3_door 38 = .ok (.iload_n 1, 1) := by decide +kernel
theorem dX3_door_39 : decode cX3_door 39 = .ok (.aaload, 1) := by decide +kernel
theorem dX3_door_40 : decode cX3_door 40 = .ok (.iload_n 2, 1) := by decide +kernel
theorem dX3_door_41 : decode cX3_door 41 = .ok (.invokevirtual 100, 3) := by decide +kernel
theorem dX3_door_44 : decode cX3_door 44 = .ok (.ireturn, 1) := by decide +kernel
set_option maxRecDepth 20000 in
theorem ggX3_asks_X1_isDoor : GoodIn wsX3_asks wsX1_isDoor := goodIn_r _ [10, 11, 27, 28, 29, 30, 31] (by decide +kernel) (by decide +kernel)
set_option maxRecDepth 20000 in
theorem gX3_asks_X1_isDoor : GoodIn wsX3_asks (wsV RX3 52 RX1 yX1_isDoor wsX1_isDoor) := goodIn_app (goodIn_of _ (by decide +kernel)) ggX3_asks_X1_isDoor
set_option maxRecDepth 20000 in
theorem ggX3_asks_X3_isIn : GoodIn wsX3_asks wsX3_isIn := goodIn_r _ [15] (by decide +kernel) (by decide +kernel)
set_option maxRecDepth 20000 in
theorem gX3_asks_X3_isIn : GoodIn wsX3_asks (va_wsS RX3 19 yX3_isIn wsX3_isIn) := goodIn_app (goodIn_of _ (by decide +kernel)) ggX3_asks_X3_isIn
set_option maxRecDepth 20000 in
theorem ggX3_asks_X0_askedFact : GoodIn wsX3_asks wsX0_askedFact := goodIn_r _ [20, 21, 22, 23, 24, 13, 14, 15, 32, 33, 34, 35, 36, 37, 38, 39, 40, 41, 42, 43, 44, 45] (by decide +kernel) (by decide +kernel)
set_option maxRecDepth 20000 in
theorem gX3_asks_X0_askedFact : GoodIn wsX3_asks (wsV RX3 107 RX0 yX0_askedFact wsX0_askedFact) := goodIn_app (goodIn_of _ (by decide +kernel)) ggX3_asks_X0_askedFact
theorem dX3_asks_0 : decode cX3_asks 0 = .ok (.aload_n 0, 1) := by decide +kernel
theorem dX3_asks_1 : decode cX3_asks 1 = .ok (.getfield 10, 3) := by decide +kernel
theorem dX3_asks_4 : decode cX3_asks 4 = .ok (.iload_n 1, 1) := by decide +kernel
theorem dX3_asks_5 : decode cX3_asks 5 = .ok (.invokevirtual 52, 3) := by decide +kernel
theorem dX3_asks_8 : decode cX3_asks 8 = .ok (.ifCond .eq 12, 3) := by decide +kernel
theorem dX3_asks_11 : decode cX3_asks 11 = .ok (.iload_n 3, 1) := by decide +kernel
theorem dX3_asks_12 : decode cX3_asks 12 = .ok (.iconst 0, 1) := by decide +kernel
theorem dX3_asks_13 : decode cX3_asks 13 = .ok (.iconst 2, 1) := by decide +kernel
theorem dX3_asks_14 : decode cX3_asks 14 = .ok (.invokestatic 19, 3) := by decide +kernel
theorem dX3_asks_17 : decode cX3_asks 17 = .ok (.ifCond .ne 13, 3) := by decide +kernel
theorem dX3_asks_20 : decode cX3_asks 20 = .ok (.new 55, 3) := by decide +kernel
theorem dX3_asks_23 : decode cX3_asks 23 = .ok (.dup, 1) := by decide +kernel
theorem dX3_asks_24 : decode cX3_asks 24 = .ok (.ldc 103, 2) := by decide +kernel
theorem dX3_asks_26 : decode cX3_asks 26 = .ok (.invokespecial 59, 3) := by decide +kernel
theorem dX3_asks_29 : decode cX3_asks 29 = .ok (.athrow, 1) := by decide +kernel
theorem dX3_asks_30 : decode cX3_asks 30 = .ok (.aload_n 0, 1) := by decide +kernel
theorem dX3_asks_31 : decode cX3_asks 31 = .ok (.getfield 10, 3) := by decide +kernel
theorem dX3_asks_34 : decode cX3_asks 34 = .ok (.getfield 62, 3) := by decide +kernel
theorem dX3_asks_37 : decode cX3_asks 37 = .ok (.iload_n 1, 1) := by decide +kernel
theorem dX3_asks_38 : decode cX3_asks 38 = .ok (.aaload, 1) := by decide +kernel
theorem dX3_asks_39 : decode cX3_asks 39 = .ok (.astore 4, 2) := by decide +kernel
theorem dX3_asks_41 : decode cX3_asks 41 = .ok (.iload_n 2, 1) := by decide +kernel
theorem dX3_asks_42 : decode cX3_asks 42 = .ok (.iconst 0, 1) := by decide +kernel
theorem dX3_asks_43 : decode cX3_asks 43 = .ok (.aload 4, 2) := by decide +kernel
theorem dX3_asks_45 : decode cX3_asks 45 = .ok (.getfield 75, 3) := by decide +kernel
theorem dX3_asks_48 : decode cX3_asks 48 = .ok (.iconst 1, 1) := by decide +kernel
theorem dX3_asks_49 : decode cX3_asks 49 = .ok (.isub, 1) := by decide +kernel
theorem dX3_asks_50 : decode cX3_asks 50 = .ok (.invokestatic 19, 3) := by decide +kernel
theorem dX3_asks_53 : decode cX3_asks 53 = .ok (.ifCond .ne 13, 3) := by decide +kernel
theorem dX3_asks_56 : decode cX3_asks 56 = .ok (.new 55, 3) := by decide +kernel
theorem dX3_asks_59 : decode cX3_asks 59 = .ok (.dup, 1) := by decide +kernel
theorem dX3_asks_60 : decode cX3_asks 60 = .ok (.ldc 105, 2) := by decide +kernel
theorem dX3_asks_62 : decode cX3_asks 62 = .ok (.invokespecial 59, 3) := by decide +kernel
theorem dX3_asks_65 : decode cX3_asks 65 = .ok (.athrow, 1) := by decide +kernel
theorem dX3_asks_66 : decode cX3_asks 66 = .ok (.aload 4, 2) := by decide +kernel
theorem dX3_asks_68 : decode cX3_asks 68 = .ok (.iload_n 2, 1) := by decide +kernel
theorem dX3_asks_69 : decode cX3_asks 69 = .ok (.iload_n 3, 1) := by decide +kernel
theorem dX3_asks_70 : decode cX3_asks 70 = .ok (.invokevirtual 107, 3) := by decide +kernel
theorem dX3_asks_73 : decode cX3_asks 73 = .ok (.ireturn, 1) := by decide +kernel
set_option maxRecDepth 20000 in
theorem ggX3_voice_X3_isIn : GoodIn wsX3_voice wsX3_isIn := goodIn_r _ [9] (by decide +kernel) (by decide +kernel)
set_option maxRecDepth 20000 in
theorem gX3_voice_X3_isIn : GoodIn wsX3_voice (va_wsS RX3 19 yX3_isIn wsX3_isIn) := goodIn_app (goodIn_of _ (by decide +kernel)) ggX3_voice_X3_isIn
set_option maxRecDepth 20000 in
theorem ggX3_voice_X2_fact : GoodIn wsX3_voice wsX2_fact := goodIn_r _ [14, 15, 16, 17, 18, 19, 7, 8, 9, 27, 28, 29, 30, 31, 32, 33] (by decide +kernel) (by decide +kernel)
set_option maxRecDepth 20000 in
theorem gX3_voice_X2_fact : GoodIn wsX3_voice (wsV RX3 122 RX2 yX2_fact wsX2_fact) := goodIn_app (goodIn_of _ (by decide +kernel)) ggX3_voice_X2_fact
theorem dX3_voice_0 : decode cX3_voice 0 = .ok (.iload_n 1, 1) := by decide +kernel
theorem dX3_voice_1 : decode cX3_voice 1 = .ok (.iconst 0, 1) := by decide +kernel
theorem dX3_voice_2 : decode cX3_voice 2 = .ok (.aload_n 0, 1) := by decide +kernel
theorem dX3_voice_3 : decode cX3_voice 3 = .ok (.getfield 10, 3) := by decide +kernel
theorem dX3_voice_6 : decode cX3_voice 6 = .ok (.getfield 111, 3) := by decide +kernel
theorem dX3_voice_9 : decode cX3_voice 9 = .ok (.getfield 115, 3) := by decide +kernel
theorem dX3_voice_12 : decode cX3_voice 12 = .ok (.iconst 1, 1) := by decide +kernel
theorem dX3_voice_13 : decode cX3_voice 13 = .ok (.isub, 1) := by decide +kernel
theorem dX3_voice_14 : decode cX3_voice 14 = .ok (.invokestatic 19, 3) := by decide +kernel
theorem dX3_voice_17 : decode cX3_voice 17 = .ok (.ifCond .eq 12, 3) := by decide +kernel
theorem dX3_voice_20 : decode cX3_voice 20 = .ok (.iload_n 2, 1) := by decide +kernel
theorem dX3_voice_21 : decode cX3_voice 21 = .ok (.iconst 0, 1) := by decide +kernel
theorem dX3_voice_22 : decode cX3_voice 22 = .ok (.iconst 3, 1) := by decide +kernel
theorem dX3_voice_23 : decode cX3_voice 23 = .ok (.invokestatic 19, 3) := by decide +kernel
theorem dX3_voice_26 : decode cX3_voice 26 = .ok (.ifCond .ne 13, 3) := by decide +kernel
theorem dX3_voice_29 : decode cX3_voice 29 = .ok (.new 55, 3) := by decide +kernel
theorem dX3_voice_32 : decode cX3_voice 32 = .ok (.dup, 1) := by decide +kernel
theorem dX3_voice_33 : decode cX3_voice 33 = .ok (.ldc 120, 2) := by decide +kernel
theorem dX3_voice_35 : decode cX3_voice 35 = .ok (.invokespecial 59, 3) := by decide +kernel
theorem dX3_voice_38 : decode cX3_voice 38 = .ok (.athrow, 1) := by decide +kernel
theorem dX3_voice_39 : decode cX3_voice 39 = .ok (.aload_n 0, 1) := by decide +kernel
theorem dX3_voice_40 : decode cX3_voice 40 = .ok (.getfield 10, 3) := by decide +kernel
theorem dX3_voice_43 : decode cX3_voice 43 = .ok (.getfield 111, 3) := by decide +kernel
theorem dX3_voice_46 : decode cX3_voice 46 = .ok (.iload_n 1, 1) := by decide +kernel
theorem dX3_voice_47 : decode cX3_voice 47 = .ok (.iload_n 2, 1) := by decide +kernel
theorem dX3_voice_48 : decode cX3_voice 48 = .ok (.invokevirtual 122, 3) := by decide +kernel
theorem dX3_voice_51 : decode cX3_voice 51 = .ok (.ireturn, 1) := by decide +kernel
set_option maxRecDepth 20000 in
theorem ggX3_count_X3_isIn : GoodIn wsX3_count wsX3_isIn := goodIn_r _ [7] (by decide +kernel) (by decide +kernel)
set_option maxRecDepth 20000 in
theorem gX3_count_X3_isIn : GoodIn wsX3_count (va_wsS RX3 19 yX3_isIn wsX3_isIn) := goodIn_app (goodIn_of _ (by decide +kernel)) ggX3_count_X3_isIn
