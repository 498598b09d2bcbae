theorem dX4_set_15 : decode cX4_set 15 = .ok (.invokevirtual 39, 3) := by decide +kernel
theorem dX4_set_18 : decode cX4_set 18 = .ok (.ireturn, 1) := by decide +kernel
theorem dX4_set_19 : decode cX4_set 19 = .ok (.iload_n 2, 1) := by decide +kernel
theorem dX4_set_20 : decode cX4_set 20 = .ok (.iconst 0, 1) := by decide +kernel
theorem dX4_set_21 : decode cX4_set 21 = .ok (.iconst 3, 1) := by decide +kernel
theorem dX4_set_22 : decode cX4_set 22 = .ok (.invokestatic 35, 3) := by decide +kernel
theorem dX4_set_25 : decode cX4_set 25 = .ok (.ifCond .eq 13, 3) := by decide +kernel
theorem dX4_set_28 : decode cX4_set 28 = .ok (.iload_n 3, 1) := by decide +kernel
theorem dX4_set_29 : decode cX4_set 29 = .ok (.iconst 1, 1) := by decide +kernel
theorem dX4_set_30 : decode cX4_set 30 = .ok (.bipush 20, 2) := by decide +kernel
theorem dX4_set_32 : decode cX4_set 32 = .ok (.invokestatic 35, 3) := by decide +kernel
theorem dX4_set_35 : decode cX4_set 35 = .ok (.ifCond .ne 9, 3) := by decide +kernel
theorem dX4_set_38 : decode cX4_set 38 = .ok (.aload_n 0, 1) := by decide +kernel
theorem dX4_set_39 : decode cX4_set 39 = .ok (.iconst 2, 1) := by decide +kernel
theorem dX4_set_40 : decode cX4_set 40 = .ok (.invokevirtual 39, 3) := by decide +kernel
theorem dX4_set_43 : decode cX4_set 43 = .ok (.ireturn, 1) := by decide +kernel
theorem dX4_set_44 : decode cX4_set 44 = .ok (.bipush 100, 2) := by decide +kernel
theorem dX4_set_46 : decode cX4_set 46 = .ok (.aload_n 0, 1) := by decide +kernel
theorem dX4_set_47 : decode cX4_set 47 = .ok (.iload_n 1, 1) := by decide +kernel
theorem dX4_set_48 : decode cX4_set 48 = .ok (.iconst 2, 1) := by decide +kernel
theorem dX4_set_49 : decode cX4_set 49 = .ok (.invokevirtual 49, 3) := by decide +kernel
theorem dX4_set_52 : decode cX4_set 52 = .ok (.imul, 1) := by decide +kernel
theorem dX4_set_53 : decode cX4_set 53 = .ok (.aload_n 0, 1) := by decide +kernel
theorem dX4_set_54 : decode cX4_set 54 = .ok (.iload_n 1, 1) := by decide +kernel
theorem dX4_set_55 : decode cX4_set 55 = .ok (.iconst 1, 1) := by decide +kernel
theorem dX4_set_56 : decode cX4_set 56 = .ok (.invokevirtual 49, 3) := by decide +kernel
theorem dX4_set_59 : decode cX4_set 59 = .ok (.iadd, 1) := by decide +kernel
theorem dX4_set_60 : decode cX4_set 60 = .ok (.istore 4, 2) := by decide +kernel
theorem dX4_set_62 : decode cX4_set 62 = .ok (.aload_n 0, 1) := by decide +kernel
theorem dX4_set_63 : decode cX4_set 63 = .ok (.iload_n 1, 1) := by decide +kernel
theorem dX4_set_64 : decode cX4_set 64 = .ok (.iconst 2, 1) := by decide +kernel
theorem dX4_set_65 : decode cX4_set 65 = .ok (.iload_n 2, 1) := by decide +kernel
theorem dX4_set_66 : decode cX4_set 66 = .ok (.invokevirtual 68, 3) := by decide +kernel
theorem dX4_set_69 : decode cX4_set 69 = .ok (.aload_n 0, 1) := by decide +kernel
theorem dX4_set_70 : decode cX4_set 70 = .ok (.iload_n 1, 1) := by decide +kernel
theorem dX4_set_71 : decode cX4_set 71 = .ok (.iconst 1, 1) := by decide +kernel
theorem dX4_set_72 : decode cX4_set 72 = .ok (.iload_n 3, 1) := by decide +kernel
theorem dX4_set_73 : decode cX4_set 73 = .ok (.invokevirtual 68, 3) := by decide +kernel
theorem dX4_set_76 : decode cX4_set 76 = .ok (.iload 4, 2) := by decide +kernel
theorem dX4_set_78 : decode cX4_set 78 = .ok (.ireturn, 1) := by decide +kernel
set_option maxRecDepth 20000 in
theorem ggX4_wake_X4_va : GoodIn wsX4_wake wsX4_va := goodIn_r _ [5, 6, 30, 31, 32, 33, 34, 35, 36, 37] (by decide +kernel) (by decide +kernel)
set_option maxRecDepth 20000 in
theorem gX4_wake_X4_va : GoodIn wsX4_wake (wsV RX4 49 RX4 yX4_va wsX4_va) := goodIn_app (goodIn_of _ (by decide +kernel)) ggX4_wake_X4_va
set_option maxRecDepth 20000 in
theorem ggX4_wake_X4_state : GoodIn wsX4_wake wsX4_state := goodIn_r _ [10, 11, 12, 13, 4, 14, 6, 30, 31, 32, 33, 34, 35, 36, 37] (by decide +kernel) (by decide +kernel)
set_option maxRecDepth 20000 in
theorem gX4_wake_X4_state : GoodIn wsX4_wake (wsV RX4 72 RX4 yX4_state wsX4_state) := goodIn_app (goodIn_of _ (by decide +kernel)) ggX4_wake_X4_state
set_option maxRecDepth 20000 in
theorem ggX4_wake_X4_put : GoodIn wsX4_wake wsX4_put := goodIn_r _ [14, 6, 30, 31, 32, 33, 34, 35, 36, 37] (by decide +kernel) (by decide +kernel)
set_option maxRecDepth 20000 in
theorem gX4_wake_X4_put : GoodIn wsX4_wake (wsV RX4 68 RX4 yX4_put wsX4_put) := goodIn_app (goodIn_of _ (by decide +kernel)) ggX4_wake_X4_put
set_option maxRecDepth 20000 in
theorem ggX4_wake_X4_setLink : GoodIn wsX4_wake wsX4_setLink := goodIn_r _ [18, 19, 30, 31, 32, 33, 34, 35, 36, 37] (by decide +kernel) (by decide +kernel)
set_option maxRecDepth 20000 in
theorem gX4_wake_X4_setLink : GoodIn wsX4_wake (wsV RX4 64 RX4 yX4_setLink wsX4_setLink) := goodIn_app (goodIn_of _ (by decide +kernel)) ggX4_wake_X4_setLink
set_option maxRecDepth 20000 in
theorem ggX4_wake_X4_li : GoodIn wsX4_wake wsX4_li := goodIn_r _ [23, 19, 30, 31, 32, 33, 34, 35, 36, 37] (by decide +kernel) (by decide +kernel)
set_option maxRecDepth 20000 in
theorem gX4_wake_X4_li : GoodIn wsX4_wake (wsV RX4 53 RX4 yX4_li wsX4_li) := goodIn_app (goodIn_of _ (by decide +kernel)) ggX4_wake_X4_li
set_option maxRecDepth 20000 in
theorem ggX4_wake_X4_send : GoodIn wsX4_wake wsX4_send := goodIn_r _ [27, 28, 29, 30, 31, 32, 33, 34, 35, 36, 37] (by decide +kernel) (by decide +kernel)
set_option maxRecDepth 20000 in
theorem gX4_wake_X4_send : GoodIn wsX4_wake (wsV RX4 75 RX4 yX4_send wsX4_send) := goodIn_app (goodIn_of _ (by decide +kernel)) ggX4_wake_X4_send
set_option maxRecDepth 20000 in
theorem ggX4_state_X4_put : GoodIn wsX4_state wsX4_put := goodIn_r _ [5, 6, 7, 8, 9, 10, 11, 12, 13, 14] (by decide +kernel) (by decide +kernel)
set_option maxRecDepth 20000 in
theorem gX4_state_X4_put : GoodIn wsX4_state (wsV RX4 68 RX4 yX4_put wsX4_put) := goodIn_app (goodIn_of _ (by decide +kernel)) ggX4_state_X4_put
set_option maxRecDepth 20000 in
theorem ggX4_turn_X4_state : GoodIn wsX4_turn wsX4_state := goodIn_r _ [5, 6, 7, 8, 4, 9, 10, 15, 16, 17, 18, 19, 20, 21, 22] (by decide +kernel) (by decide +kernel)
set_option maxRecDepth 20000 in
theorem gX4_turn_X4_state : GoodIn wsX4_turn (wsV RX4 72 RX4 yX4_state wsX4_state) := goodIn_app (goodIn_of _ (by decide +kernel)) ggX4_turn_X4_state
set_option maxRecDepth 20000 in
theorem ggX4_turn_X4_va : GoodIn wsX4_turn wsX4_va := goodIn_r _ [14, 10, 15, 16, 17, 18, 19, 20, 21, 22] (by decide +kernel) (by decide +kernel)
set_option maxRecDepth 20000 in
theorem gX4_turn_X4_va : GoodIn wsX4_turn (wsV RX4 49 RX4 yX4_va wsX4_va) := goodIn_app (goodIn_of _ (by decide +kernel)) ggX4_turn_X4_va
set_option maxRecDepth 20000 in
theorem ggX4_turn_X4_put : GoodIn wsX4_turn wsX4_put := goodIn_r _ [9, 10, 15, 16, 17, 18, 19, 20, 21, 22] (by decide +kernel) (by decide +kernel)
set_option maxRecDepth 20000 in
theorem gX4_turn_X4_put : GoodIn wsX4_turn (wsV RX4 68 RX4 yX4_put wsX4_put) := goodIn_app (goodIn_of _ (by decide +kernel)) ggX4_turn_X4_put
set_option maxRecDepth 20000 in
theorem ggX4_whisper_X4_isDoor : GoodIn wsX4_whisper wsX4_isDoor := goodIn_r _ [6, 7, 8, 9, 5, 10, 47, 48, 49, 50, 51, 52, 53, 54] (by decide +kernel) (by decide +kernel)
set_option maxRecDepth 20000 in
theorem gX4_whisper_X4_isDoor : GoodIn wsX4_whisper (wsV RX4 57 RX4 yX4_isDoor wsX4_isDoor) := goodIn_app (goodIn_of _ (by decide +kernel)) ggX4_whisper_X4_isDoor
set_option maxRecDepth 20000 in
theorem ggX4_whisper_X4_isIn : GoodIn wsX4_whisper wsX4_isIn := goodIn_r _ [10] (by decide +kernel) (by decide +kernel)
set_option maxRecDepth 20000 in
theorem gX4_whisper_X4_isIn : GoodIn wsX4_whisper (va_wsS RX4 35 yX4_isIn wsX4_isIn) := goodIn_app (goodIn_of _ (by decide +kernel)) ggX4_whisper_X4_isIn
set_option maxRecDepth 20000 in
theorem ggX4_whisper_X4_va : GoodIn wsX4_whisper wsX4_va := goodIn_r _ [14, 15, 47, 48, 49, 50, 51, 52, 53, 54] (by decide +kernel) (by decide +kernel)
set_option maxRecDepth 20000 in
theorem gX4_whisper_X4_va : GoodIn wsX4_whisper (wsV RX4 49 RX4 yX4_va wsX4_va) := goodIn_app (goodIn_of _ (by decide +kernel)) ggX4_whisper_X4_va
set_option maxRecDepth 20000 in
theorem ggX4_whisper_X4_wake : GoodIn wsX4_whisper wsX4_wake := goodIn_r _ [19, 11, 12, 13, 5, 14, 15, 20, 21, 22, 23, 24, 25, 26, 27, 28, 29, 30, 31, 32, 33, 34, 35, 36, 37, 38, 39, 40, 41, 42, 47, 48, 49, 50, 51, 52, 53, 54] (by decide +kernel) (by decide +kernel)
set_option maxRecDepth 20000 in
theorem gX4_whisper_X4_wake : GoodIn wsX4_whisper (wsV RX4 78 RX4 yX4_wake wsX4_wake) := goodIn_app (goodIn_of _ (by decide +kernel)) ggX4_whisper_X4_wake
set_option maxRecDepth 20000 in
theorem ggX4_whisper_X4_turn : GoodIn wsX4_whisper wsX4_turn := goodIn_r _ [46, 20, 21, 22, 5, 23, 24, 25, 26, 27, 15, 11, 12, 13, 14, 47, 48, 49, 50, 51, 52, 53, 54] (by decide +kernel) (by decide +kernel)
set_option maxRecDepth 20000 in
theorem gX4_whisper_X4_turn : GoodIn wsX4_whisper (wsV RX4 82 RX4 yX4_turn wsX4_turn) := goodIn_app (goodIn_of _ (by decide +kernel)) ggX4_whisper_X4_turn
theorem dX4_whisper_0 : decode cX4_whisper 0 = .ok (.aload_n 0, 1) := by decide +kernel
theorem dX4_whisper_1 : decode cX4_whisper 1 = .ok (.aload_n 0, 1) := by decide +kernel
theorem dX4_whisper_2 : decode cX4_whisper 2 = .ok (.iload_n 1, 1) := by decide +kernel
theorem dX4_whisper_3 : decode cX4_whisper 3 = .ok (.invokevirtual 57, 3) := by decide +kernel
theorem dX4_whisper_6 : decode cX4_whisper 6 = .ok (.ifCond .ne 7, 3) := by decide +kernel
theorem dX4_whisper_9 : decode cX4_whisper 9 = .ok (.iconst 1, 1) := by decide +kernel
theorem dX4_whisper_10 : decode cX4_whisper 10 = .ok (.goto 18, 3) := by decide +kernel
theorem dX4_whisper_13 : decode cX4_whisper 13 = .ok (.iload_n 2, 1) := by decide +kernel
theorem dX4_whisper_14 : decode cX4_whisper 14 = .ok (.iconst 0, 1) := by decide +kernel
theorem dX4_whisper_15 : decode cX4_whisper 15 = .ok (.bipush 99, 2) := by decide +kernel
theorem dX4_whisper_17 : decode cX4_whisper 17 = .ok (.invokestatic 35, 3) := by decide +kernel
theorem dX4_whisper_20 : decode cX4_whisper 20 = .ok (.ifCond .ne 7, 3) := by decide +kernel
theorem dX4_whisper_23 : decode cX4_whisper 23 = .ok (.iconst 2, 1) := by decide +kernel
theorem dX4_whisper_24 : decode cX4_whisper 24 = .ok (.goto 4, 3) := by decide +kernel
theorem dX4_whisper_27 : decode cX4_whisper 27 = .ok (.iconst 0, 1) := by decide +kernel
theorem dX4_whisper_28 : decode cX4_whisper 28 = .ok (.putfield 28, 3) := by decide +kernel
theorem dX4_whisper_31 : decode cX4_whisper 31 = .ok (.aload_n 0, 1) := by decide +kernel
theorem dX4_whisper_32 : decode cX4_whisper 32 = .ok (.getfield 28, 3) := by decide +kernel
theorem dX4_whisper_35 : decode cX4_whisper 35 = .ok (.ifCond .ne 12, 3) := by decide +kernel
theorem dX4_whisper_38 : decode cX4_whisper 38 = .ok (.aload_n 0, 1) := by decide +kernel
theorem dX4_whisper_39 : decode cX4_whisper 39 = .ok (.iload_n 1, 1) := by decide +kernel
theorem dX4_whisper_40 : decode cX4_whisper 40 = .ok (.iconst 3, 1) := by decide +kernel
theorem dX4_whisper_41 : decode cX4_whisper 41 = .ok (.invokevirtual 49, 3) := by decide +kernel
theorem dX4_whisper_44 : decode cX4_whisper 44 = .ok (.ifCond .eq 5, 3) := by decide +kernel
theorem dX4_whisper_47 : decode cX4_whisper 47 = .ok (.iconst 0, 1) := by decide +kernel
theorem dX4_whisper_48 : decode cX4_whisper 48 = .ok (.ireturn, 1) := by decide +kernel
theorem dX4_whisper_49 : decode cX4_whisper 49 = .ok (.iload_n 2, 1) := by decide +kernel
theorem dX4_whisper_50 : decode cX4_whisper 50 = .ok (.aload_n 0, 1) := by decide +kernel
theorem dX4_whisper_51 : decode cX4_whisper 51 = .ok (.iload_n 1, 1) := by decide +kernel
theorem dX4_whisper_52 : decode cX4_whisper 52 = .ok (.iconst 0, 1) := by decide +kernel
theorem dX4_whisper_53 : decode cX4_whisper 53 = .ok (.invokevirtual 49, 3) := by decide +kernel
theorem dX4_whisper_56 : decode cX4_whisper 56 = .ok (.if_icmp .ne 7, 3) := by decide +kernel
theorem dX4_whisper_59 : decode cX4_whisper 59 = .ok (.iconst 1, 1) := by decide +kernel
theorem dX4_whisper_60 : decode cX4_whisper 60 = .ok (.goto 4, 3) := by decide +kernel
theorem dX4_whisper_63 : decode cX4_whisper 63 = .ok (.iconst 0, 1) := by decide +kernel
theorem dX4_whisper_64 : decode cX4_whisper 64 = .ok (.istore_n 3, 1) := by decide +kernel
theorem dX4_whisper_65 : decode cX4_whisper 65 = .ok (.iload_n 3, 1) := by decide +kernel
theorem dX4_whisper_66 : decode cX4_whisper 66 = .ok (.ifCond .eq 11, 3) := by decide +kernel
theorem dX4_whisper_69 : decode cX4_whisper 69 = .ok (.aload_n 0, 1) := by decide +kernel
theorem dX4_whisper_70 : decode cX4_whisper 70 = .ok (.iload_n 1, 1) := by decide +kernel
theorem dX4_whisper_71 : decode cX4_whisper 71 = .ok (.invokevirtual 78, 3) := by decide +kernel
theorem dX4_whisper_74 : decode cX4_whisper 74 = .ok (.goto 9, 3) := by decide +kernel
theorem dX4_whisper_77 : decode cX4_whisper 77 = .ok (.aload_n 0, 1) := by decide +kernel
theorem dX4_whisper_78 : decode cX4_whisper 78 = .ok (.iload_n 1, 1) := by decide +kernel
theorem dX4_whisper_79 : decode cX4_whisper 79 = .ok (.iconst 0, 1) := by decide +kernel
theorem dX4_whisper_80 : decode cX4_whisper 80 = .ok (.invokevirtual 82, 3) := by decide +kernel
theorem dX4_whisper_83 : decode cX4_whisper 83 = .ok (.iload_n 3, 1) := by decide +kernel
theorem dX4_whisper_84 : decode cX4_whisper 84 = .ok (.ireturn, 1) := by decide +kernel
set_option maxRecDepth 20000 in
theorem ggX4_answers_X4_va : GoodIn wsX4_answers wsX4_va := goodIn_r _ [5, 6, 12, 13, 14, 15, 16, 17, 18, 19] (by decide +kernel) (by decide +kernel)
set_option maxRecDepth 20000 in
theorem gX4_answers_X4_va : GoodIn wsX4_answers (wsV RX4 49 RX4 yX4_va wsX4_va) := goodIn_app (goodIn_of _ (by decide +kernel)) ggX4_answers_X4_va
set_option maxRecDepth 20000 in
theorem ggX4_answers_X4_li : GoodIn wsX4_answers wsX4_li := goodIn_r _ [10, 11, 12, 13, 14, 15, 16, 17, 18, 19] (by decide +kernel) (by decide +kernel)
set_option maxRecDepth 20000 in
theorem gX4_answers_X4_li : GoodIn wsX4_answers (wsV RX4 53 RX4 yX4_li wsX4_li) := goodIn_app (goodIn_of _ (by decide +kernel)) ggX4_answers_X4_li
set_option maxRecDepth 20000 in
theorem ggX4_doorTold_X4_va : GoodIn wsX4_doorTold wsX4_va := goodIn_r _ [5, 6, 16, 17, 18, 19, 20, 21, 22, 23] (by decide +kernel) (by decide +kernel)
set_option maxRecDepth 20000 in
theorem gX4_doorTold_X4_va : GoodIn wsX4_doorTold (wsV RX4 49 RX4 yX4_va wsX4_va) := goodIn_app (goodIn_of _ (by decide +kernel)) ggX4_doorTold_X4_va
set_option maxRecDepth 20000 in
theorem ggX4_doorTold_X4_answers : GoodIn wsX4_doorTold wsX4_answers := goodIn_r _ [10, 1, 2, 3, 4, 5, 6, 11, 12, 13, 14, 15, 16, 17, 18, 19, 20, 21, 22, 23] (by decide +kernel) (by decide +kernel)
set_option maxRecDepth 20000 in
theorem gX4_doorTold_X4_answers : GoodIn wsX4_doorTold (wsV RX4 86 RX4 yX4_answers wsX4_answers) := goodIn_app (goodIn_of _ (by decide +kernel)) ggX4_doorTold_X4_answers
set_option maxRecDepth 20000 in
theorem ggX4_door_X4_isDoor : GoodIn wsX4_door wsX4_isDoor := goodIn_r _ [6, 7, 8, 9, 5, 10, 33, 34, 35, 36, 37, 38, 39, 40] (by decide +kernel) (by decide +kernel)
set_option maxRecDepth 20000 in
theorem gX4_door_X4_isDoor : GoodIn wsX4_door (wsV RX4 57 RX4 yX4_isDoor wsX4_isDoor) := goodIn_app (goodIn_of _ (by decide +kernel)) ggX4_door_X4_isDoor
set_option maxRecDepth 20000 in
theorem ggX4_door_X4_isIn : GoodIn wsX4_door wsX4_isIn := goodIn_r _ [10] (by decide +kernel) (by decide +kernel)
set_option maxRecDepth 20000 in
theorem gX4_door_X4_isIn : GoodIn wsX4_door (va_wsS RX4 35 yX4_isIn wsX4_isIn) := goodIn_app (goodIn_of _ (by decide +kernel)) ggX4_door_X4_isIn
set_option maxRecDepth 20000 in
theorem ggX4_door_X4_doorTold : GoodIn wsX4_door wsX4_doorTold := goodIn_r _ [14, 15, 16, 17, 5, 18, 19, 20, 21, 22, 23, 24, 25, 26, 27, 28, 33, 34, 35, 36, 37, 38, 39, 40] (by decide +kernel) (by decide +kernel)
set_option maxRecDepth 20000 in
theorem gX4_door_X4_doorTold : GoodIn wsX4_door (wsV RX4 90 RX4 yX4_doorTold wsX4_doorTold) := goodIn_app (goodIn_of _ (by decide +kernel)) ggX4_door_X4_doorTold
set_option maxRecDepth 20000 in
theorem ggX4_door_X4_fail : GoodIn wsX4_door wsX4_fail := goodIn_r _ [32, 1, 33, 34, 35, 36, 37, 38, 39, 40] (by decide +kernel) (by decide +kernel)
set_option maxRecDepth 20000 in
theorem gX4_door_X4_fail : GoodIn wsX4_door (wsV RX4 39 RX4 yX4_fail wsX4_fail) := goodIn_app (goodIn_of _ (by decide +kernel)) ggX4_door_X4_fail
theorem dX4_door_0 : decode cX4_door 0 = .ok (.aload_n 0, 1) := by decide +kernel
theorem dX4_door_1 : decode cX4_door 1 = .ok (.iconst 0, 1) := by decide +kernel
theorem dX4_door_2 : decode cX4_door 2 = .ok (.putfield 28, 3) := by decide +kernel
theorem dX4_door_5 : decode cX4_door 5 = .ok (.aload_n 0, 1) := by decide +kernel
theorem dX4_door_6 : decode cX4_door 6 = .ok (.iload_n 1, 1) := by decide +kernel
theorem dX4_door_7 : decode cX4_door 7 = .ok (.invokevirtual 57, 3) := by decide +kernel
theorem dX4_door_10 : decode cX4_door 10 = .ok (.ifCond .eq 22, 3) := by decide +kernel
theorem dX4_door_13 : decode cX4_door 13 = .ok (.iload_n 2, 1) := by decide +kernel
theorem dX4_door_14 : decode cX4_door 14 = .ok (.iconst 0, 1) := by decide +kernel
theorem dX4_door_15 : decode cX4_door 15 = .ok (.bipush 8, 2) := by decide +kernel
theorem dX4_door_17 : decode cX4_door 17 = .ok (.invokestatic 35, 3) := by decide +kernel
theorem dX4_door_20 : decode cX4_door 20 = .ok (.ifCond .eq 12, 3) := by decide +kernel
theorem dX4_door_23 : decode cX4_door 23 = .ok (.aload_n 0, 1) := by decide +kernel
theorem dX4_door_24 : decode cX4_door 24 = .ok (.iload_n 1, 1) := by decide +kernel
theorem dX4_door_25 : decode cX4_door 25 = .ok (.iload_n 2, 1) := by decide +kernel
theorem dX4_door_26 : decode cX4_door 26 = .ok (.invokevirtual 90, 3) := by decide +kernel
theorem dX4_door_29 : decode cX4_door 29 = .ok (.goto 8, 3) := by decide +kernel
theorem dX4_door_32 : decode cX4_door 32 = .ok (.aload_n 0, 1) := by decide +kernel
theorem dX4_door_33 : decode cX4_door 33 = .ok (.iconst 1, 1) := by decide +kernel
theorem dX4_door_34 : decode cX4_door 34 = .ok (.invokevirtual 39, 3) := by decide +kernel
theorem dX4_door_37 : decode cX4_door 37 = .ok (.ireturn, 1) := by decide +kernel
set_option maxRecDepth 20000 in
theorem ggX4_asked_X4_va : GoodIn wsX4_asked wsX4_va := goodIn_r _ [5, 6, 12, 13, 14, 15, 16, 17, 18, 19] (by decide +kernel) (by decide +kernel)
set_option maxRecDepth 20000 in
theorem gX4_asked_X4_va : GoodIn wsX4_asked (wsV RX4 49 RX4 yX4_va wsX4_va) := goodIn_app (goodIn_of _ (by decide +kernel)) ggX4_asked_X4_va
set_option maxRecDepth 20000 in
theorem ggX4_asked_X4_li : GoodIn wsX4_asked wsX4_li := goodIn_r _ [10, 11, 12, 13, 14, 15, 16, 17, 18, 19] (by decide +kernel) (by decide +kernel)
set_option maxRecDepth 20000 in
theorem gX4_asked_X4_li : GoodIn wsX4_asked (wsV RX4 53 RX4 yX4_li wsX4_li) := goodIn_app (goodIn_of _ (by decide +kernel)) ggX4_asked_X4_li
set_option maxRecDepth 20000 in
theorem ggX4_asks_X4_isDoor : GoodIn wsX4_asks wsX4_isDoor := goodIn_r _ [6, 7, 8, 9, 5, 10, 29, 30, 31, 32, 33, 34, 35, 36] (by decide +kernel) (by decide +kernel)
set_option maxRecDepth 20000 in
theorem gX4_asks_X4_isDoor : GoodIn wsX4_asks (wsV RX4 57 RX4 yX4_isDoor wsX4_isDoor) := goodIn_app (goodIn_of _ (by decide +kernel)) ggX4_asks_X4_isDoor
set_option maxRecDepth 20000 in
theorem ggX4_asks_X4_va : GoodIn wsX4_asks wsX4_va := goodIn_r _ [14, 15, 29, 30, 31, 32, 33, 34, 35, 36] (by decide +kernel) (by decide +kernel)
set_option maxRecDepth 20000 in
theorem gX4_asks_X4_va : GoodIn wsX4_asks (wsV RX4 49 RX4 yX4_va wsX4_va) := goodIn_app (goodIn_of _ (by decide +kernel)) ggX4_asks_X4_va
set_option maxRecDepth 20000 in
theorem ggX4_asks_X4_isIn : GoodIn wsX4_asks wsX4_isIn := goodIn_r _ [10] (by decide +kernel) (by decide +kernel)
set_option maxRecDepth 20000 in
theorem gX4_asks_X4_isIn : GoodIn wsX4_asks (va_wsS RX4 35 yX4_isIn wsX4_isIn) := goodIn_app (goodIn_of _ (by decide +kernel)) ggX4_asks_X4_isIn
set_option maxRecDepth 20000 in
theorem ggX4_asks_X4_asked : GoodIn wsX4_asks wsX4_asked := goodIn_r _ [19, 11, 12, 13, 5, 14, 15, 20, 21, 22, 23, 24, 29, 30, 31, 32, 33, 34, 35, 36] (by decide +kernel) (by decide +kernel)
set_option maxRecDepth 20000 in
theorem gX4_asks_X4_asked : GoodIn wsX4_asks (wsV RX4 93 RX4 yX4_asked wsX4_asked) := goodIn_app (goodIn_of _ (by decide +kernel)) ggX4_asks_X4_asked
set_option maxRecDepth 20000 in
theorem ggX4_asks_X4_fail : GoodIn wsX4_asks wsX4_fail := goodIn_r _ [28, 1, 29, 30, 31, 32, 33, 34, 35, 36] (by decide +kernel) (by decide +kernel)
set_option maxRecDepth 20000 in
theorem gX4_asks_X4_fail : GoodIn wsX4_asks (wsV RX4 39 RX4 yX4_fail wsX4_fail) := goodIn_app (goodIn_of _ (by decide +kernel)) ggX4_asks_X4_fail
theorem dX4_asks_0 : decode cX4_asks 0 = .ok (.aload_n 0, 1) := by decide +kernel
theorem dX4_asks_1 : decode cX4_asks 1 = .ok (.iconst 0, 1) := by decide +kernel
theorem dX4_asks_2 : decode cX4_asks 2 = .ok (.putfield 28, 3) := by decide +kernel
theorem dX4_asks_5 : decode cX4_asks 5 = .ok (.aload_n 0, 1) := by decide +kernel
theorem dX4_asks_6 : decode cX4_asks 6 = .ok (.iload_n 1, 1) := by decide +kernel
theorem dX4_asks_7 : decode cX4_asks 7 = .ok (.invokevirtual 57, 3) := by decide +kernel
theorem dX4_asks_10 : decode cX4_asks 10 = .ok (.ifCond .eq 38, 3) := by decide +kernel
theorem dX4_asks_13 : decode cX4_asks 13 = .ok (.iload_n 2, 1) := by decide +kernel
theorem dX4_asks_14 : decode cX4_asks 14 = .ok (.iconst 0, 1) := by decide +kernel
theorem dX4_asks_15 : decode cX4_asks 15 = .ok (.aload_n 0, 1) := by decide +kernel
theorem dX4_asks_16 : decode cX4_asks 16 = .ok (.iload_n 1, 1) := by decide +kernel
theorem dX4_asks_17 : decode cX4_asks 17 = .ok (.iconst 5, 1) := by decide +kernel
theorem dX4_asks_18 : decode cX4_asks 18 = .ok (.invokevirtual 49, 3) := by decide +kernel
theorem dX4_asks_21 : decode cX4_asks 21 = .ok (.iconst 1, 1) := by decide +kernel
theorem dX4_asks_22 : decode cX4_asks 22 = .ok (.isub, 1) := by decide +kernel
theorem dX4_asks_23 : decode cX4_asks 23 = .ok (.invokestatic 35, 3) := by decide +kernel
theorem dX4_asks_26 : decode cX4_asks 26 = .ok (.ifCond .eq 22, 3) := by decide +kernel
theorem dX4_asks_29 : decode cX4_asks 29 = .ok (.iload_n 3, 1) := by decide +kernel
theorem dX4_asks_30 : decode cX4_asks 30 = .ok (.iconst 0, 1) := by decide +kernel
theorem dX4_asks_31 : decode cX4_asks 31 = .ok (.iconst 2, 1) := by decide +kernel
theorem dX4_asks_32 : decode cX4_asks 32 = .ok (.invokestatic 35, 3) := by decide +kernel
theorem dX4_asks_35 : decode cX4_asks 35 = .ok (.ifCond .eq 13, 3) := by decide +kernel
theorem dX4_asks_38 : decode cX4_asks 38 = .ok (.aload_n 0, 1) := by decide +kernel
theorem dX4_asks_39 : decode cX4_asks 39 = .ok (.iload_n 1, 1) := by decide +kernel
theorem dX4_asks_40 : decode cX4_asks 40 = .ok (.iload_n 2, 1) := by decide +kernel
theorem dX4_asks_41 : decode cX4_asks 41 = .ok (.iload_n 3, 1) := by decide +kernel
theorem dX4_asks_42 : decode cX4_asks 42 = .ok (.invokevirtual 93, 3) := by decide +kernel
theorem dX4_asks_45 : decode cX4_asks 45 = .ok (.goto 8, 3) := by decide +kernel
theorem dX4_asks_48 : decode cX4_asks 48 = .ok (.aload_n 0, 1) := by decide +kernel
theorem dX4_asks_49 : decode cX4_asks 49 = .ok (.iconst 1, 1) := by decide +kernel
theorem dX4_asks_50 : decode cX4_asks 50 = .ok (.invokevirtual 39, 3) := by decide +kernel
theorem dX4_asks_53 : decode cX4_asks 53 = .ok (.ireturn, 1) := by decide +kernel
set_option maxRecDepth 20000 in
theorem ggX4_voice_X4_isIn : GoodIn wsX4_voice wsX4_isIn := goodIn_r _ [7] (by decide +kernel) (by decide +kernel)
set_option maxRecDepth 20000 in
theorem gX4_voice_X4_isIn : GoodIn wsX4_voice (va_wsS RX4 35 yX4_isIn wsX4_isIn) := goodIn_app (goodIn_of _ (by decide +kernel)) ggX4_voice_X4_isIn
set_option maxRecDepth 20000 in
theorem ggX4_voice_X4_fail : GoodIn wsX4_voice wsX4_fail := goodIn_r _ [11, 1, 12, 13, 14, 15, 16, 17, 18, 19] (by decide +kernel) (by decide +kernel)
set_option maxRecDepth 20000 in
theorem gX4_voice_X4_fail : GoodIn wsX4_voice (wsV RX4 39 RX4 yX4_fail wsX4_fail) := goodIn_app (goodIn_of _ (by decide +kernel)) ggX4_voice_X4_fail
theorem dX4_voice_0 : decode cX4_voice 0 = .ok (.aload_n 0, 1) := by decide +kernel
theorem dX4_voice_1 : decode cX4_voice 1 = .ok (.iconst 0, 1) := by decide +kernel
theorem dX4_voice_2 : decode cX4_voice 2 = .ok (.putfield 28, 3) := by decide +kernel
theorem dX4_voice_5 : decode cX4_voice 5 = .ok (.iload_n 1, 1) := by decide +kernel
theorem dX4_voice_6 : decode cX4_voice 6 = .ok (.iconst 0, 1) := by decide +kernel
theorem dX4_voice_7 : decode cX4_voice 7 = .ok (.aload_n 0, 1) := by decide +kernel
theorem dX4_voice_8 : decode cX4_voice 8 = .ok (.getfield 22, 3) := by decide +kernel
theorem dX4_voice_11 : decode cX4_voice 11 = .ok (.iconst 1, 1) := by decide +kernel
theorem dX4_voice_12 : decode cX4_voice 12 = .ok (.iaload, 1) := by decide +kernel
theorem dX4_voice_13 : decode cX4_voice 13 = .ok (.iconst 1, 1) := by decide +kernel
theorem dX4_voice_14 : decode cX4_voice 14 = .ok (.isub, 1) := by decide +kernel
theorem dX4_voice_15 : decode cX4_voice 15 = .ok (.invokestatic 35, 3) := by decide +kernel
theorem dX4_voice_18 : decode cX4_voice 18 = .ok (.ifCond .eq 25, 3) := by decide +kernel
theorem dX4_voice_21 : decode cX4_voice 21 = .ok (.iload_n 2, 1) := by decide +kernel
theorem dX4_voice_22 : decode cX4_voice 22 = .ok (.iconst 0, 1) := by decide +kernel
theorem dX4_voice_23 : decode cX4_voice 23 = .ok (.iconst 3, 1) := by decide +kernel
theorem dX4_voice_24 : decode cX4_voice 24 = .ok (.invokestatic 35, 3) := by decide +kernel
theorem dX4_voice_27 : decode cX4_voice 27 = .ok (.ifCond .eq 16, 3) := by decide +kernel
theorem dX4_voice_30 : decode cX4_voice 30 = .ok (.aload_n 0, 1) := by decide +kernel
theorem dX4_voice_31 : decode cX4_voice 31 = .ok (.getfield 19, 3) := by decide +kernel
theorem dX4_voice_34 : decode cX4_voice 34 = .ok (.iconst 5, 1) := by decide +kernel
theorem dX4_voice_35 : decode cX4_voice 35 = .ok (.iload_n 1, 1) := by decide +kernel
theorem dX4_voice_36 : decode cX4_voice 36 = .ok (.imul, 1) := by decide +kernel
theorem dX4_voice_37 : decode cX4_voice 37 = .ok (.iload_n 2, 1) := by decide +kernel
theorem dX4_voice_38 : decode cX4_voice 38 = .ok (.iadd, 1) := by decide +kernel
theorem dX4_voice_39 : decode cX4_voice 39 = .ok (.iaload, 1) := by decide +kernel
theorem dX4_voice_40 : decode cX4_voice 40 = .ok (.goto 8, 3) := by decide +kernel
theorem dX4_voice_43 : decode cX4_voice 43 = .ok (.aload_n 0, 1) := by decide +kernel
theorem dX4_voice_44 : decode cX4_voice 44 = .ok (.iconst 1, 1) := by decide +kernel
theorem dX4_voice_45 : decode cX4_voice 45 = .ok (.invokevirtual 39, 3) := by decide +kernel
theorem dX4_voice_48 : decode cX4_voice 48 = .ok (.ireturn, 1) := by decide +kernel
set_option maxRecDepth 20000 in
theorem ggX4_openOnes_X4_va : GoodIn wsX4_openOnes wsX4_va := goodIn_r _ [6, 7, 8, 9, 10, 11, 12, 13, 14, 15] (by decide +kernel) (by decide +kernel)
set_option maxRecDepth 20000 in
theorem gX4_openOnes_X4_va : GoodIn wsX4_openOnes (wsV RX4 49 RX4 yX4_va wsX4_va) := goodIn_app (goodIn_of _ (by decide +kernel)) ggX4_openOnes_X4_va
theorem dX4_openOnes_0 : decode cX4_openOnes 0 = .ok (.iconst 0, 1) := by decide +kernel
theorem dX4_openOnes_1 : decode cX4_openOnes 1 = .ok (.istore_n 1, 1) := by decide +kernel
theorem dX4_openOnes_2 : decode cX4_openOnes 2 = .ok (.iconst 0, 1) := by decide +kernel
theorem dX4_openOnes_3 : decode cX4_openOnes 3 = .ok (.istore_n 2, 1) := by decide +kernel
theorem dX4_openOnes_4 : decode cX4_openOnes 4 = .ok (.iload_n 2, 1) := by decide +kernel
theorem dX4_openOnes_5 : decode cX4_openOnes 5 = .ok (.aload_n 0, 1) := by decide +kernel
theorem dX4_openOnes_6 : decode cX4_openOnes 6 = .ok (.getfield 32, 3) := by decide +kernel
theorem dX4_openOnes_9 : decode cX4_openOnes 9 = .ok (.if_icmp .ge 29, 3) := by decide +kernel
theorem dX4_openOnes_12 : decode cX4_openOnes 12 = .ok (.iload_n 1, 1) := by decide +kernel
theorem dX4_openOnes_13 : decode cX4_openOnes 13 = .ok (.aload_n 0, 1) := by decide +kernel
theorem dX4_openOnes_14 : decode cX4_openOnes 14 = .ok (.iload_n 2, 1) := by decide +kernel
theorem dX4_openOnes_15 : decode cX4_openOnes 15 = .ok (.iconst 3, 1) := by decide +kernel
theorem dX4_openOnes_16 : decode cX4_openOnes 16 = .ok (.invokevirtual 49, 3) := by decide +kernel
theorem dX4_openOnes_19 : decode cX4_openOnes 19 = .ok (.iconst 2, 1) := by decide +kernel
theorem dX4_openOnes_20 : decode cX4_openOnes 20 = .ok (.if_icmp .ne 9, 3) := by decide +kernel
theorem dX4_openOnes_23 : decode cX4_openOnes 23 = .ok (.iconst 1, 1) := by decide +kernel
theorem dX4_openOnes_24 : decode cX4_openOnes 24 = .ok (.iload_n 2, 1) := by decide +kernel
theorem dX4_openOnes_25 : decode cX4_openOnes 25 = .ok (.ishl, 1) := by decide +kernel
theorem dX4_openOnes_26 : decode cX4_openOnes 26 = .ok (.goto 4, 3) := by decide +kernel
theorem dX4_openOnes_29 : decode cX4_openOnes 29 = .ok (.iconst 0, 1) := by decide +kernel
theorem dX4_openOnes_30 : decode cX4_openOnes 30 = .ok (.ior, 1) := by decide +kernel
theorem dX4_openOnes_31 : decode cX4_openOnes 31 = .ok (.istore_n 1, 1) := by decide +kernel
theorem dX4_openOnes_32 : decode cX4_openOnes 32 = .ok (.iinc 2 1, 3) := by decide +kernel
theorem dX4_openOnes_35 : decode cX4_openOnes 35 = .ok (.goto (-31), 3) := by decide +kernel
theorem dX4_openOnes_38 : decode cX4_openOnes 38 = .ok (.iload_n 1, 1) := by decide +kernel
theorem dX4_openOnes_39 : decode cX4_openOnes 39 = .ok (.ireturn, 1) := by decide +kernel
set_option maxRecDepth 20000 in
theorem ggX4_counted_X4_va : GoodIn wsX4_counted wsX4_va := goodIn_r _ [7, 8, 13, 14, 15, 16, 17, 18, 19, 20] (by decide +kernel) (by decide +kernel)
set_option maxRecDepth 20000 in
theorem gX4_counted_X4_va : GoodIn wsX4_counted (wsV RX4 49 RX4 yX4_va wsX4_va) := goodIn_app (goodIn_of _ (by decide +kernel)) ggX4_counted_X4_va
set_option maxRecDepth 20000 in
theorem ggX4_counted_X4_openOnes : GoodIn wsX4_counted wsX4_openOnes := goodIn_r _ [12, 2, 3, 4, 5, 6, 7, 8, 13, 14, 15, 16, 17, 18, 19, 20] (by decide +kernel) (by decide +kernel)
set_option maxRecDepth 20000 in
theorem gX4_counted_X4_openOnes : GoodIn wsX4_counted (wsV RX4 96 RX4 yX4_openOnes wsX4_openOnes) := goodIn_app (goodIn_of _ (by decide +kernel)) ggX4_counted_X4_openOnes
theorem dX4_counted_0 : decode cX4_counted 0 = .ok (.iconst 0, 1) := by decide +kernel
theorem dX4_counted_1 : decode cX4_counted 1 = .ok (.istore_n 2, 1) := by decide +kernel
theorem dX4_counted_2 : decode cX4_counted 2 = .ok (.iload_n 1, 1) := by decide +kernel
theorem dX4_counted_3 : decode cX4_counted 3 = .ok (.tableswitch 109 0 7 #[45, 52, 57, 57, 57, 57, 95, 102], 45) := by decide +kernel
theorem dX4_counted_48 : decode cX4_counted 48 = .ok (.aload_n 0, 1) := by decide +kernel
theorem dX4_counted_49 : decode cX4_counted 49 = .ok (.getfield 22, 3) := by decide +kernel
theorem dX4_counted_52 : decode cX4_counted 52 = .ok (.iconst 0, 1) := by decide +kernel
theorem dX4_counted_53 : decode cX4_counted 53 = .ok (.iaload, 1) := by decide +kernel
theorem dX4_counted_54 : decode cX4_counted 54 = .ok (.ireturn, 1) := by decide +kernel
theorem dX4_counted_55 : decode cX4_counted 55 = .ok (.aload_n 0, 1) := by decide +kernel
theorem dX4_counted_56 : decode cX4_counted 56 = .ok (.getfield 32, 3) := by decide +kernel
theorem dX4_counted_59 : decode cX4_counted 59 = .ok (.ireturn, 1) := by decide +kernel
theorem dX4_counted_60 : decode cX4_counted 60 = .ok (.iconst 0, 1) := by decide +kernel
theorem dX4_counted_61 : decode cX4_counted 61 = .ok (.istore_n 3, 1) := by decide +kernel
theorem dX4_counted_62 : decode cX4_counted 62 = .ok (.iload_n 3, 1) := by decide +kernel
theorem dX4_counted_63 : decode cX4_counted 63 = .ok (.aload_n 0, 1) := by decide +kernel
theorem dX4_counted_64 : decode cX4_counted 64 = .ok (.getfield 32, 3) := by decide +kernel
theorem dX4_counted_67 : decode cX4_counted 67 = .ok (.if_icmp .ge 29, 3) := by decide +kernel
theorem dX4_counted_70 : decode cX4_counted 70 = .ok (.iload_n 2, 1) := by decide +kernel
theorem dX4_counted_71 : decode cX4_counted 71 = .ok (.aload_n 0, 1) := by decide +kernel
theorem dX4_counted_72 : decode cX4_counted 72 = .ok (.iload_n 3, 1) := by decide +kernel
theorem dX4_counted_73 : decode cX4_counted 73 = .ok (.iconst 3, 1) := by decide +kernel
theorem dX4_counted_74 : decode cX4_counted 74 = .ok (.invokevirtual 49, 3) := by decide +kernel
theorem dX4_counted_77 : decode cX4_counted 77 = .ok (.iload_n 1, 1) := by decide +kernel
theorem dX4_counted_78 : decode cX4_counted 78 = .ok (.iconst 2, 1) := by decide +kernel
theorem dX4_counted_79 : decode cX4_counted 79 = .ok (.isub, 1) := by decide +kernel
theorem dX4_counted_80 : decode cX4_counted 80 = .ok (.if_icmp .ne 7, 3) := by decide +kernel
theorem dX4_counted_83 : decode cX4_counted 83 = .ok (.iconst 1, 1) := by decide +kernel
theorem dX4_counted_84 : decode cX4_counted 84 = .ok (.goto 4, 3) := by decide +kernel
theorem dX4_counted_87 : decode cX4_counted 87 = .ok (.iconst 0, 1) := by decide +kernel
theorem dX4_counted_88 : decode cX4_counted 88 = .ok (.iadd, 1) := by decide +kernel
theorem dX4_counted_89 : decode cX4_counted 89 = .ok (.istore_n 2, 1) := by decide +kernel
theorem dX4_counted_90 : decode cX4_counted 90 = .ok (.iinc 3 1, 3) := by decide +kernel
theorem dX4_counted_93 : decode cX4_counted 93 = .ok (.goto (-31), 3) := by decide +kernel
theorem dX4_counted_96 : decode cX4_counted 96 = .ok (.iload_n 2, 1) := by decide +kernel
theorem dX4_counted_97 : decode cX4_counted 97 = .ok (.ireturn, 1) := by decide +kernel
theorem dX4_counted_98 : decode cX4_counted 98 = .ok (.aload_n 0, 1) := by decide +kernel
theorem dX4_counted_99 : decode cX4_counted 99 = .ok (.getfield 22, 3) := by decide +kernel
theorem dX4_counted_102 : decode cX4_counted 102 = .ok (.iconst 1, 1) := by decide +kernel
theorem dX4_counted_103 : decode cX4_counted 103 = .ok (.iaload, 1) := by decide +kernel
theorem dX4_counted_104 : decode cX4_counted 104 = .ok (.ireturn, 1) := by decide +kernel
theorem dX4_counted_105 : decode cX4_counted 105 = .ok (.aload_n 0, 1) := by decide +kernel
theorem dX4_counted_106 : decode cX4_counted 106 = .ok (.getfield 22, 3) := by decide +kernel
theorem dX4_counted_109 : decode cX4_counted 109 = .ok (.iconst 2, 1) := by decide +kernel
theorem dX4_counted_110 : decode cX4_counted 110 = .ok (.iaload, 1) := by decide +kernel
theorem dX4_counted_111 : decode cX4_counted 111 = .ok (.ireturn, 1) := by decide +kernel
theorem dX4_counted_112 : decode cX4_counted 112 = .ok (.aload_n 0, 1) := by decide +kernel
theorem dX4_counted_113 : decode cX4_counted 113 = .ok (.invokevirtual 96, 3) := by decide +kernel
theorem dX4_counted_116 : decode cX4_counted 116 = .ok (.ireturn, 1) := by decide +kernel
set_option maxRecDepth 20000 in
theorem ggX4_count_X4_isIn : GoodIn wsX4_count wsX4_isIn := goodIn_r _ [5] (by decide +kernel) (by decide +kernel)
set_option maxRecDepth 20000 in
theorem gX4_count_X4_isIn : GoodIn wsX4_count (va_wsS RX4 35 yX4_isIn wsX4_isIn) := goodIn_app (goodIn_of _ (by decide +kernel)) ggX4_count_X4_isIn
set_option maxRecDepth 20000 in
theorem ggX4_count_X4_counted : GoodIn wsX4_count wsX4_counted := goodIn_r _ [9, 10, 11, 12, 13, 14, 4, 15, 16, 17, 18, 19, 20, 25, 26, 27, 28, 29, 30, 31, 32] (by decide +kernel) (by decide +kernel)
set_option maxRecDepth 20000 in
theorem gX4_count_X4_counted : GoodIn wsX4_count (wsV RX4 100 RX4 yX4_counted wsX4_counted) := goodIn_app (goodIn_of _ (by decide +kernel)) ggX4_count_X4_counted
set_option maxRecDepth 20000 in
theorem ggX4_count_X4_fail : GoodIn wsX4_count wsX4_fail := goodIn_r _ [24, 1, 25, 26, 27, 28, 29, 30, 31, 32] (by decide +kernel) (by decide +kernel)
set_option maxRecDepth 20000 in
theorem gX4_count_X4_fail : GoodIn wsX4_count (wsV RX4 39 RX4 yX4_fail wsX4_fail) := goodIn_app (goodIn_of _ (by decide +kernel)) ggX4_count_X4_fail
theorem dX4_count_0 : decode cX4_count 0 = .ok (.aload_n 0, 1) := by decide +kernel
theorem dX4_count_1 : decode cX4_count 1 = .ok (.iconst 0, 1) := by decide +kernel
theorem dX4_count_2 : decode cX4_count 2 = .ok (.putfield 28, 3) := by decide +kernel
theorem dX4_count_5 : decode cX4_count 5 = .ok (.iload_n 1, 1) := by decide +kernel
theorem dX4_count_6 : decode cX4_count 6 = .ok (.iconst 0, 1) := by decide +kernel
theorem dX4_count_7 : decode cX4_count 7 = .ok (.bipush 8, 2) := by decide +kernel
theorem dX4_count_9 : decode cX4_count 9 = .ok (.invokestatic 35, 3) := by decide +kernel
theorem dX4_count_12 : decode cX4_count 12 = .ok (.ifCond .eq 11, 3) := by decide +kernel
theorem dX4_count_15 : decode cX4_count 15 = .ok (.aload_n 0, 1) := by decide +kernel
theorem dX4_count_16 : decode cX4_count 16 = .ok (.iload_n 1, 1) := by decide +kernel
theorem dX4_count_17 : decode cX4_count 17 = .ok (.invokevirtual 100, 3) := by decide +kernel
theorem dX4_count_20 : decode cX4_count 20 = .ok (.goto 8, 3) := by decide +kernel
theorem dX4_count_23 : decode cX4_count 23 = .ok (.aload_n 0, 1) := by decide +kernel
theorem dX4_count_24 : decode cX4_count 24 = .ok (.iconst 1, 1) := by decide +kernel
theorem dX4_count_25 : decode cX4_count 25 = .ok (.invokevirtual 39, 3) := by decide +kernel
theorem dX4_count_28 : decode cX4_count 28 = .ok (.ireturn, 1) := by decide +kernel
set_option maxRecDepth 20000 in
theorem ggX4_reach_X4_isDoor : GoodIn wsX4_reach wsX4_isDoor := goodIn_r _ [7, 2, 8, 9, 6, 10, 25, 26, 27, 28, 29, 30, 31, 32] (by decide +kernel) (by decide +kernel)
set_option maxRecDepth 20000 in
theorem gX4_reach_X4_isDoor : GoodIn wsX4_reach (wsV RX4 57 RX4 yX4_isDoor wsX4_isDoor) := goodIn_app (goodIn_of _ (by decide +kernel)) ggX4_reach_X4_isDoor
set_option maxRecDepth 20000 in
theorem ggX4_reach_X4_fail : GoodIn wsX4_reach wsX4_fail := goodIn_r _ [14, 1, 25, 26, 27, 28, 29, 30, 31, 32] (by decide +kernel) (by decide +kernel)
set_option maxRecDepth 20000 in
theorem gX4_reach_X4_fail : GoodIn wsX4_reach (wsV RX4 39 RX4 yX4_fail wsX4_fail) := goodIn_app (goodIn_of _ (by decide +kernel)) ggX4_reach_X4_fail
set_option maxRecDepth 20000 in
theorem ggX4_reach_X4_va : GoodIn wsX4_reach wsX4_va := goodIn_r _ [18, 19, 25, 26, 27, 28, 29, 30, 31, 32] (by decide +kernel) (by decide +kernel)
set_option maxRecDepth 20000 in
theorem gX4_reach_X4_va : GoodIn wsX4_reach (wsV RX4 49 RX4 yX4_va wsX4_va) := goodIn_app (goodIn_of _ (by decide +kernel)) ggX4_reach_X4_va
set_option maxRecDepth 20000 in
theorem ggX4_reach_X4_li : GoodIn wsX4_reach wsX4_li := goodIn_r _ [23, 24, 25, 26, 27, 28, 29, 30, 31, 32] (by decide +kernel) (by decide +kernel)
set_option maxRecDepth 20000 in
theorem gX4_reach_X4_li : GoodIn wsX4_reach (wsV RX4 53 RX4 yX4_li wsX4_li) := goodIn_app (goodIn_of _ (by decide +kernel)) ggX4_reach_X4_li
theorem dX4_reach_0 : decode cX4_reach 0 = .ok (.aload_n 0, 1) := by decide +kernel
theorem dX4_reach_1 : decode cX4_reach 1 = .ok (.iconst 0, 1) := by decide +kernel
theorem dX4_reach_2 : decode cX4_reach 2 = .ok (.putfield 28, 3) := by decide +kernel
theorem dX4_reach_5 : decode cX4_reach 5 = .ok (.aload_n 0, 1) := by decide +kernel
theorem dX4_reach_6 : decode cX4_reach 6 = .ok (.iload_n 1, 1) := by decide +kernel
theorem dX4_reach_7 : decode cX4_reach 7 = .ok (.invokevirtual 57, 3) := by decide +kernel
theorem dX4_reach_10 : decode cX4_reach 10 = .ok (.ifCond .ne 9, 3) := by decide +kernel
theorem dX4_reach_13 : decode cX4_reach 13 = .ok (.aload_n 0, 1) := by decide +kernel
theorem dX4_reach_14 : decode cX4_reach 14 = .ok (.iconst 1, 1) := by decide +kernel
theorem dX4_reach_15 : decode cX4_reach 15 = .ok (.invokevirtual 39, 3) := by decide +kernel
theorem dX4_reach_18 : decode cX4_reach 18 = .ok (.ireturn, 1) := by decide +kernel
theorem dX4_reach_19 : decode cX4_reach 19 = .ok (.iconst 0, 1) := by decide +kernel
theorem dX4_reach_20 : decode cX4_reach 20 = .ok (.istore_n 2, 1) := by decide +kernel
theorem dX4_reach_21 : decode cX4_reach 21 = .ok (.iconst 0, 1) := by decide +kernel
theorem dX4_reach_22 : decode cX4_reach 22 = .ok (.istore_n 3, 1) := by decide +kernel
theorem dX4_reach_23 : decode cX4_reach 23 = .ok (.iload_n 3, 1) := by decide +kernel
theorem dX4_reach_24 : decode cX4_reach 24 = .ok (.aload_n 0, 1) := by decide +kernel
theorem dX4_reach_25 : decode cX4_reach 25 = .ok (.iload_n 1, 1) := by decide +kernel
theorem dX4_reach_26 : decode cX4_reach 26 = .ok (.iconst 5, 1) := by decide +kernel
theorem dX4_reach_27 : decode cX4_reach 27 = .ok (.invokevirtual 49, 3) := by decide +kernel
theorem dX4_reach_30 : decode cX4_reach 30 = .ok (.if_icmp .ge 21, 3) := by decide +kernel
theorem dX4_reach_33 : decode cX4_reach 33 = .ok (.iload_n 2, 1) := by decide +kernel
theorem dX4_reach_34 : decode cX4_reach 34 = .ok (.iconst 1, 1) := by decide +kernel
theorem dX4_reach_35 : decode cX4_reach 35 = .ok (.aload_n 0, 1) := by decide +kernel
theorem dX4_reach_36 : decode cX4_reach 36 = .ok (.iload_n 1, 1) := by decide +kernel
theorem dX4_reach_37 : decode cX4_reach 37 = .ok (.iload_n 3, 1) := by decide +kernel
theorem dX4_reach_38 : decode cX4_reach 38 = .ok (.iconst 0, 1) := by decide +kernel
theorem dX4_reach_39 : decode cX4_reach 39 = .ok (.invokevirtual 53, 3) := by decide +kernel
theorem dX4_reach_42 : decode cX4_reach 42 = .ok (.ishl, 1) := by decide +kernel
theorem dX4_reach_43 : decode cX4_reach 43 = .ok (.ior, 1) := by decide +kernel
theorem dX4_reach_44 : decode cX4_reach 44 = .ok (.istore_n 2, 1) := by decide +kernel
theorem dX4_reach_45 : decode cX4_reach 45 = .ok (.iinc 3 1, 3) := by decide +kernel
theorem dX4_reach_48 : decode cX4_reach 48 = .ok (.goto (-25), 3) := by decide +kernel
theorem dX4_reach_51 : decode cX4_reach 51 = .ok (.iconst 0, 1) := by decide +kernel
theorem dX4_reach_52 : decode cX4_reach 52 = .ok (.istore_n 3, 1) := by decide +kernel
theorem dX4_reach_53 : decode cX4_reach 53 = .ok (.iload_n 3, 1) := by decide +kernel
theorem dX4_reach_54 : decode cX4_reach 54 = .ok (.aload_n 0, 1) := by decide +kernel
theorem dX4_reach_55 : decode cX4_reach 55 = .ok (.getfield 32, 3) := by decide +kernel
theorem dX4_reach_58 : decode cX4_reach 58 = .ok (.if_icmp .ge 72, 3) := by decide +kernel
theorem dX4_reach_61 : decode cX4_reach 61 = .ok (.iconst 0, 1) := by decide +kernel
theorem dX4_reach_62 : decode cX4_reach 62 = .ok (.istore 4, 2) := by decide +kernel
theorem dX4_reach_64 : decode cX4_reach 64 = .ok (.iload 4, 2) := by decide +kernel
theorem dX4_reach_66 : decode cX4_reach 66 = .ok (.aload_n 0, 1) := by decide +kernel
theorem dX4_reach_67 : decode cX4_reach 67 = .ok (.getfield 32, 3) := by decide +kernel
theorem dX4_reach_70 : decode cX4_reach 70 = .ok (.if_icmp .ge 54, 3) := by decide +kernel
theorem dX4_reach_73 : decode cX4_reach 73 = .ok (.iconst 0, 1) := by decide +kernel
theorem dX4_reach_74 : decode cX4_reach 74 = .ok (.istore 5, 2) := by decide +kernel
theorem dX4_reach_76 : decode cX4_reach 76 = .ok (.iload 5, 2) := by decide +kernel
theorem dX4_reach_78 : decode cX4_reach 78 = .ok (.aload_n 0, 1) := by decide +kernel
theorem dX4_reach_79 : decode cX4_reach 79 = .ok (.iload 4, 2) := by decide +kernel
theorem dX4_reach_81 : decode cX4_reach 81 = .ok (.iconst 5, 1) := by decide +kernel
theorem dX4_reach_82 : decode cX4_reach 82 = .ok (.invokevirtual 49, 3) := by decide +kernel
theorem dX4_reach_85 : decode cX4_reach 85 = .ok (.if_icmp .ge 33, 3) := by decide +kernel
theorem dX4_reach_88 : decode cX4_reach 88 = .ok (.iload_n 2, 1) := by decide +kernel
theorem dX4_reach_89 : decode cX4_reach 89 = .ok (.iload 4, 2) := by decide +kernel
theorem dX4_reach_91 : decode cX4_reach 91 = .ok (.ishr, 1) := by decide +kernel
theorem dX4_reach_92 : decode cX4_reach 92 = .ok (.iconst 1, 1) := by decide +kernel
theorem dX4_reach_93 : decode cX4_reach 93 = .ok (.iand, 1) := by decide +kernel
theorem dX4_reach_94 : decode cX4_reach 94 = .ok (.iconst 1, 1) := by decide +kernel
theorem dX4_reach_95 : decode cX4_reach 95 = .ok (.if_icmp .ne 23, 3) := by decide +kernel
theorem dX4_reach_98 : decode cX4_reach 98 = .ok (.iload_n 2, 1) := by decide +kernel
theorem dX4_reach_99 : decode cX4_reach 99 = .ok (.iconst 1, 1) := by decide +kernel
theorem dX4_reach_100 : decode cX4_reach 100 = .ok (.aload_n 0, 1) := by decide +kernel
theorem dX4_reach_101 : decode cX4_reach 101 = .ok (.iload 4, 2) := by decide +kernel
theorem dX4_reach_103 : decode cX4_reach 103 = .ok (.iload 5, 2) := by decide +kernel
theorem dX4_reach_105 : decode cX4_reach 105 = .ok (.iconst 0, 1) := by decide +kernel
theorem dX4_reach_106 : decode cX4_reach 106 = .ok (.invokevirtual 53, 3) := by decide +kernel
theorem dX4_reach_109 : decode cX4_reach 109 = .ok (.ishl, 1) := by decide +kernel
theorem dX4_reach_110 : decode cX4_reach 110 = .ok (.ior, 1) := by decide +kernel
theorem dX4_reach_111 : decode cX4_reach 111 = .ok (.istore_n 2, 1) := by decide +kernel
theorem dX4_reach_112 : decode cX4_reach 112 = .ok (.iinc 5 1, 3) := by decide +kernel
theorem dX4_reach_115 : decode cX4_reach 115 = .ok (.goto (-39), 3) := by decide +kernel
theorem dX4_reach_118 : decode cX4_reach 118 = .ok (.iinc 4 1, 3) := by decide +kernel
theorem dX4_reach_121 : decode cX4_reach 121 = .ok (.goto (-57), 3) := by decide +kernel
theorem dX4_reach_124 : decode cX4_reach 124 = .ok (.iinc 3 1, 3) := by decide +kernel
theorem dX4_reach_127 : decode cX4_reach 127 = .ok (.goto (-74), 3) := by decide +kernel
theorem dX4_reach_130 : decode cX4_reach 130 = .ok (.iload_n 2, 1) := by decide +kernel
theorem dX4_reach_131 : decode cX4_reach 131 = .ok (.ireturn, 1) := by decide +kernel
set_option maxRecDepth 20000 in
theorem ggX4_hear_X4_va : GoodIn wsX4_hear wsX4_va := goodIn_r _ [7, 8, 40, 41, 42, 43, 44, 45, 46, 47] (by decide +kernel) (by decide +kernel)
set_option maxRecDepth 20000 in
theorem gX4_hear_X4_va : GoodIn wsX4_hear (wsV RX4 49 RX4 yX4_va wsX4_va) := goodIn_app (goodIn_of _ (by decide +kernel)) ggX4_hear_X4_va
set_option maxRecDepth 20000 in
theorem ggX4_hear_X4_place : GoodIn wsX4_hear wsX4_place := goodIn_r _ [12, 3, 4, 5, 6, 7, 8, 13, 14, 15, 16, 17, 40, 41, 42, 43, 44, 45, 46, 47] (by decide +kernel) (by decide +kernel)
set_option maxRecDepth 20000 in
theorem gX4_hear_X4_place : GoodIn wsX4_hear (wsV RX4 61 RX4 yX4_place wsX4_place) := goodIn_app (goodIn_of _ (by decide +kernel)) ggX4_hear_X4_place
set_option maxRecDepth 20000 in
theorem ggX4_hear_X4_li : GoodIn wsX4_hear wsX4_li := goodIn_r _ [16, 17, 40, 41, 42, 43, 44, 45, 46, 47] (by decide +kernel) (by decide +kernel)
set_option maxRecDepth 20000 in
theorem gX4_hear_X4_li : GoodIn wsX4_hear (wsV RX4 53 RX4 yX4_li wsX4_li) := goodIn_app (goodIn_of _ (by decide +kernel)) ggX4_hear_X4_li
set_option maxRecDepth 20000 in
theorem ggX4_hear_X4_setLink : GoodIn wsX4_hear wsX4_setLink := goodIn_r _ [21, 17, 40, 41, 42, 43, 44, 45, 46, 47] (by decide +kernel) (by decide +kernel)
set_option maxRecDepth 20000 in
theorem gX4_hear_X4_setLink : GoodIn wsX4_hear (wsV RX4 64 RX4 yX4_setLink wsX4_setLink) := goodIn_app (goodIn_of _ (by decide +kernel)) ggX4_hear_X4_setLink
set_option maxRecDepth 20000 in
theorem ggX4_hear_X4_send : GoodIn wsX4_hear wsX4_send := goodIn_r _ [25, 26, 27, 40, 41, 42, 43, 44, 45, 46, 47] (by decide +kernel) (by decide +kernel)
set_option maxRecDepth 20000 in
theorem gX4_hear_X4_send : GoodIn wsX4_hear (wsV RX4 75 RX4 yX4_send wsX4_send) := goodIn_app (goodIn_of _ (by decide +kernel)) ggX4_hear_X4_send
set_option maxRecDepth 20000 in
theorem ggX4_hear_X4_wake : GoodIn wsX4_hear wsX4_wake := goodIn_r _ [31, 3, 4, 5, 6, 7, 8, 32, 33, 34, 35, 36, 37, 38, 39, 18, 19, 20, 21, 17, 13, 14, 15, 16, 22, 23, 24, 25, 26, 27, 40, 41, 42, 43, 44, 45, 46, 47] (by decide +kernel) (by decide +kernel)
set_option maxRecDepth 20000 in
theorem gX4_hear_X4_wake : GoodIn wsX4_hear (wsV RX4 78 RX4 yX4_wake wsX4_wake) := goodIn_app (goodIn_of _ (by decide +kernel)) ggX4_hear_X4_wake
set_option maxRecDepth 20000 in
theorem ggX4_hear_X4_put : GoodIn wsX4_hear wsX4_put := goodIn_r _ [39, 8, 40, 41, 42, 43, 44, 45, 46, 47] (by decide +kernel) (by decide +kernel)
set_option maxRecDepth 20000 in
theorem gX4_hear_X4_put : GoodIn wsX4_hear (wsV RX4 68 RX4 yX4_put wsX4_put) := goodIn_app (goodIn_of _ (by decide +kernel)) ggX4_hear_X4_put
set_option maxRecDepth 20000 in
theorem ggX4_says_X4_answers : GoodIn wsX4_says wsX4_answers := goodIn_r _ [5, 6, 7, 8, 4, 9, 10, 11, 12, 13, 14, 15, 16, 17, 18, 19, 20, 21, 22, 23] (by decide +kernel) (by decide +kernel)
set_option maxRecDepth 20000 in
theorem gX4_says_X4_answers : GoodIn wsX4_says (wsV RX4 86 RX4 yX4_answers wsX4_answers) := goodIn_app (goodIn_of _ (by decide +kernel)) ggX4_says_X4_answers
set_option maxRecDepth 20000 in
theorem ggX4_says_X4_va : GoodIn wsX4_says wsX4_va := goodIn_r _ [9, 10, 16, 17, 18, 19, 20, 21, 22, 23] (by decide +kernel) (by decide +kernel)
set_option maxRecDepth 20000 in
theorem gX4_says_X4_va : GoodIn wsX4_says (wsV RX4 49 RX4 yX4_va wsX4_va) := goodIn_app (goodIn_of _ (by decide +kernel)) ggX4_says_X4_va
set_option maxRecDepth 20000 in
theorem ggX4_decide_X4_says : GoodIn wsX4_decide wsX4_says := goodIn_r _ [6, 7, 8, 9, 5, 10, 11, 12, 13, 14, 15, 16, 17, 18, 19, 20, 39, 40, 41, 42, 43, 44, 45, 46] (by decide +kernel) (by decide +kernel)
set_option maxRecDepth 20000 in
theorem gX4_decide_X4_says : GoodIn wsX4_decide (wsV RX4 103 RX4 yX4_says wsX4_says) := goodIn_app (goodIn_of _ (by decide +kernel)) ggX4_decide_X4_says
set_option maxRecDepth 20000 in
theorem ggX4_decide_X4_turn : GoodIn wsX4_decide wsX4_turn := goodIn_r _ [24, 25, 26, 27, 5, 28, 29, 30, 31, 32, 15, 11, 12, 13, 14, 39, 40, 41, 42, 43, 44, 45, 46] (by decide +kernel) (by decide +kernel)
set_option maxRecDepth 20000 in
theorem gX4_decide_X4_turn : GoodIn wsX4_decide (wsV RX4 82 RX4 yX4_turn wsX4_turn) := goodIn_app (goodIn_of _ (by decide +kernel)) ggX4_decide_X4_turn
set_option maxRecDepth 20000 in
theorem ggX4_decide_X4_va : GoodIn wsX4_decide wsX4_va := goodIn_r _ [14, 15, 39, 40, 41, 42, 43, 44, 45, 46] (by decide +kernel) (by decide +kernel)
set_option maxRecDepth 20000 in
theorem gX4_decide_X4_va : GoodIn wsX4_decide (wsV RX4 49 RX4 yX4_va wsX4_va) := goodIn_app (goodIn_of _ (by decide +kernel)) ggX4_decide_X4_va
set_option maxRecDepth 20000 in
theorem ggX4_decide_X4_send : GoodIn wsX4_decide wsX4_send := goodIn_r _ [36, 37, 38, 39, 40, 41, 42, 43, 44, 45, 46] (by decide +kernel) (by decide +kernel)
set_option maxRecDepth 20000 in
theorem gX4_decide_X4_send : GoodIn wsX4_decide (wsV RX4 75 RX4 yX4_send wsX4_send) := goodIn_app (goodIn_of _ (by decide +kernel)) ggX4_decide_X4_send
set_option maxRecDepth 20000 in
theorem ggX4_decide_X4_put : GoodIn wsX4_decide wsX4_put := goodIn_r _ [32, 15, 39, 40, 41, 42, 43, 44, 45, 46] (by decide +kernel) (by decide +kernel)
set_option maxRecDepth 20000 in
theorem gX4_decide_X4_put : GoodIn wsX4_decide (wsV RX4 68 RX4 yX4_put wsX4_put) := goodIn_app (goodIn_of _ (by decide +kernel)) ggX4_decide_X4_put
set_option maxRecDepth 20000 in
theorem ggX4_listen_X4_hear : GoodIn wsX4_listen wsX4_hear := goodIn_r _ [12, 3, 13, 14, 15, 16, 11, 17, 18, 19, 20, 21, 22, 23, 24, 25, 26, 27, 28, 29, 30, 31, 32, 33, 34, 35, 1, 2, 36, 37, 38, 39, 40, 41, 42, 43, 44, 45, 46, 47, 48, 49, 50, 51, 52, 53, 54, 55] (by decide +kernel) (by decide +kernel)
set_option maxRecDepth 20000 in
theorem gX4_listen_X4_hear : GoodIn wsX4_listen (wsV RX4 106 RX4 yX4_hear wsX4_hear) := goodIn_app (goodIn_of _ (by decide +kernel)) ggX4_listen_X4_hear
theorem dX4_listen_0 : decode cX4_listen 0 = .ok (.iconst 0, 1) := by decide +kernel
theorem dX4_listen_1 : decode cX4_listen 1 = .ok (.istore_n 1, 1) := by decide +kernel
theorem dX4_listen_2 : decode cX4_listen 2 = .ok (.iconst 0, 1) := by decide +kernel
theorem dX4_listen_3 : decode cX4_listen 3 = .ok (.istore_n 2, 1) := by decide +kernel
theorem dX4_listen_4 : decode cX4_listen 4 = .ok (.iconst 0, 1) := by decide +kernel
theorem dX4_listen_5 : decode cX4_listen 5 = .ok (.istore_n 3, 1) := by decide +kernel
theorem dX4_listen_6 : decode cX4_listen 6 = .ok (.iload_n 3, 1) := by decide +kernel
theorem dX4_listen_7 : decode cX4_listen 7 = .ok (.aload_n 0, 1) := by decide +kernel
theorem dX4_listen_8 : decode cX4_listen 8 = .ok (.getfield 22, 3) := by decide +kernel
theorem dX4_listen_11 : decode cX4_listen 11 = .ok (.iconst 1, 1) := by decide +kernel
theorem dX4_listen_12 : decode cX4_listen 12 = .ok (.iaload, 1) := by decide +kernel
theorem dX4_listen_13 : decode cX4_listen 13 = .ok (.if_icmp .ge 81, 3) := by decide +kernel
theorem dX4_listen_16 : decode cX4_listen 16 = .ok (.aload_n 0, 1) := by decide +kernel
theorem dX4_listen_17 : decode cX4_listen 17 = .ok (.getfield 19, 3) := by decide +kernel
theorem dX4_listen_20 : decode cX4_listen 20 = .ok (.iconst 5, 1) := by decide +kernel
theorem dX4_listen_21 : decode cX4_listen 21 = .ok (.iload_n 3, 1) := by decide +kernel
theorem dX4_listen_22 : decode cX4_listen 22 = .ok (.imul, 1) := by decide +kernel
theorem dX4_listen_23 : decode cX4_listen 23 = .ok (.iconst 3, 1) := by decide +kernel
theorem dX4_listen_24 : decode cX4_listen 24 = .ok (.iadd, 1) := by decide +kernel
theorem dX4_listen_25 : decode cX4_listen 25 = .ok (.dup2, 1) := by decide +kernel
theorem dX4_listen_26 : decode cX4_listen 26 = .ok (.iaload, 1) := by decide +kernel
theorem dX4_listen_27 : decode cX4_listen 27 = .ok (.iconst 1, 1) := by decide +kernel
theorem dX4_listen_28 : decode cX4_listen 28 = .ok (.isub, 1) := by decide +kernel
theorem dX4_listen_29 : decode cX4_listen 29 = .ok (.iastore, 1) := by decide +kernel
theorem dX4_listen_30 : decode cX4_listen 30 = .ok (.aload_n 0, 1) := by decide +kernel
theorem dX4_listen_31 : decode cX4_listen 31 = .ok (.getfield 19, 3) := by decide +kernel
theorem dX4_listen_34 : decode cX4_listen 34 = .ok (.iconst 5, 1) := by decide +kernel
theorem dX4_listen_35 : decode cX4_listen 35 = .ok (.iload_n 3, 1) := by decide +kernel
theorem dX4_listen_36 : decode cX4_listen 36 = .ok (.imul, 1) := by decide +kernel
theorem dX4_listen_37 : decode cX4_listen 37 = .ok (.iconst 3, 1) := by decide +kernel
theorem dX4_listen_38 : decode cX4_listen 38 = .ok (.iadd, 1) := by decide +kernel
theorem dX4_listen_39 : decode cX4_listen 39 = .ok (.iaload, 1) := by decide +kernel
theorem dX4_listen_40 : decode cX4_listen 40 = .ok (.ifCond .ne 27, 3) := by decide +kernel
theorem dX4_listen_43 : decode cX4_listen 43 = .ok (.aload_n 0, 1) := by decide +kernel
theorem dX4_listen_44 : decode cX4_listen 44 = .ok (.getfield 19, 3) := by decide +kernel
theorem dX4_listen_47 : decode cX4_listen 47 = .ok (.iconst 5, 1) := by decide +kernel
theorem dX4_listen_48 : decode cX4_listen 48 = .ok (.iload_n 3, 1) := by decide +kernel
theorem dX4_listen_49 : decode cX4_listen 49 = .ok (.imul, 1) := by decide +kernel
theorem dX4_listen_50 : decode cX4_listen 50 = .ok (.aload_n 0, 1) := by decide +kernel
theorem dX4_listen_51 : decode cX4_listen 51 = .ok (.getfield 25, 3) := by decide +kernel
theorem dX4_listen_54 : decode cX4_listen 54 = .ok (.iconst 5, 1) := by decide +kernel
theorem dX4_listen_55 : decode cX4_listen 55 = .ok (.iload_n 1, 1) := by decide +kernel
theorem dX4_listen_56 : decode cX4_listen 56 = .ok (.imul, 1) := by decide +kernel
theorem dX4_listen_57 : decode cX4_listen 57 = .ok (.iconst 5, 1) := by decide +kernel
theorem dX4_listen_58 : decode cX4_listen 58 = .ok (.invokestatic 43, 3) := by decide +kernel
theorem dX4_listen_61 : decode cX4_listen 61 = .ok (.iinc 1 1, 3) := by decide +kernel
theorem dX4_listen_64 : decode cX4_listen 64 = .ok (.goto 24, 3) := by decide +kernel
theorem dX4_listen_67 : decode cX4_listen 67 = .ok (.aload_n 0, 1) := by decide +kernel
theorem dX4_listen_68 : decode cX4_listen 68 = .ok (.getfield 19, 3) := by decide +kernel
theorem dX4_listen_71 : decode cX4_listen 71 = .ok (.iconst 5, 1) := by decide +kernel
theorem dX4_listen_72 : decode cX4_listen 72 = .ok (.iload_n 3, 1) := by decide +kernel
theorem dX4_listen_73 : decode cX4_listen 73 = .ok (.imul, 1) := by decide +kernel
theorem dX4_listen_74 : decode cX4_listen 74 = .ok (.aload_n 0, 1) := by decide +kernel
theorem dX4_listen_75 : decode cX4_listen 75 = .ok (.getfield 19, 3) := by decide +kernel
theorem dX4_listen_78 : decode cX4_listen 78 = .ok (.iconst 5, 1) := by decide +kernel
theorem dX4_listen_79 : decode cX4_listen 79 = .ok (.iload_n 2, 1) := by decide +kernel
theorem dX4_listen_80 : decode cX4_listen 80 = .ok (.imul, 1) := by decide +kernel
theorem dX4_listen_81 : decode cX4_listen 81 = .ok (.iconst 5, 1) := by decide +kernel
theorem dX4_listen_82 : decode cX4_listen 82 = .ok (.invokestatic 43, 3) := by decide +kernel
theorem dX4_listen_85 : decode cX4_listen 85 = .ok (.iinc 2 1, 3) := by decide +kernel
theorem dX4_listen_88 : decode cX4_listen 88 = .ok (.iinc 3 1, 3) := by decide +kernel
theorem dX4_listen_91 : decode cX4_listen 91 = .ok (.goto (-85), 3) := by decide +kernel
theorem dX4_listen_94 : decode cX4_listen 94 = .ok (.aload_n 0, 1) := by decide +kernel
theorem dX4_listen_95 : decode cX4_listen 95 = .ok (.getfield 22, 3) := by decide +kernel
theorem dX4_listen_98 : decode cX4_listen 98 = .ok (.iconst 1, 1) := by decide +kernel
theorem dX4_listen_99 : decode cX4_listen 99 = .ok (.iload_n 2, 1) := by decide +kernel
theorem dX4_listen_100 : decode cX4_listen 100 = .ok (.iastore, 1) := by decide +kernel
theorem dX4_listen_101 : decode cX4_listen 101 = .ok (.iconst 0, 1) := by decide +kernel
theorem dX4_listen_102 : decode cX4_listen 102 = .ok (.istore_n 3, 1) := by decide +kernel
theorem dX4_listen_103 : decode cX4_listen 103 = .ok (.iload_n 3, 1) := by decide +kernel
theorem dX4_listen_104 : decode cX4_listen 104 = .ok (.iload_n 1, 1) := by decide +kernel
theorem dX4_listen_105 : decode cX4_listen 105 = .ok (.if_icmp .ge 14, 3) := by decide +kernel
theorem dX4_listen_108 : decode cX4_listen 108 = .ok (.aload_n 0, 1) := by decide +kernel
theorem dX4_listen_109 : decode cX4_listen 109 = .ok (.iload_n 3, 1) := by decide +kernel
theorem dX4_listen_110 : decode cX4_listen 110 = .ok (.invokevirtual 106, 3) := by decide +kernel
theorem dX4_listen_113 : decode cX4_listen 113 = .ok (.iinc 3 1, 3) := by decide +kernel
theorem dX4_listen_116 : decode cX4_listen 116 = .ok (.goto (-13), 3) := by decide +kernel
theorem dX4_listen_119 : decode cX4_listen 119 = .ok (.return_, 1) := by decide +kernel
set_option maxRecDepth 20000 in
theorem ggX4_tickOn_X4_va : GoodIn wsX4_tickOn wsX4_va := goodIn_r _ [7, 8, 69, 70, 71, 72, 73, 74, 75, 76] (by decide +kernel) (by decide +kernel)
set_option maxRecDepth 20000 in
theorem gX4_tickOn_X4_va : GoodIn wsX4_tickOn (wsV RX4 49 RX4 yX4_va wsX4_va) := goodIn_app (goodIn_of _ (by decide +kernel)) ggX4_tickOn_X4_va
set_option maxRecDepth 20000 in
theorem ggX4_tickOn_X4_put : GoodIn wsX4_tickOn wsX4_put := goodIn_r _ [12, 8, 69, 70, 71, 72, 73, 74, 75, 76] (by decide +kernel) (by decide +kernel)
set_option maxRecDepth 20000 in
theorem gX4_tickOn_X4_put : GoodIn wsX4_tickOn (wsV RX4 68 RX4 yX4_put wsX4_put) := goodIn_app (goodIn_of _ (by decide +kernel)) ggX4_tickOn_X4_put
set_option maxRecDepth 20000 in
theorem ggX4_tickOn_X4_listen : GoodIn wsX4_tickOn wsX4_listen := goodIn_r _ [16, 2, 17, 18, 19, 20, 21, 22, 23, 24, 25, 6, 26, 27, 3, 4, 5, 7, 8, 28, 29, 30, 31, 32, 33, 34, 35, 36, 37, 38, 39, 40, 41, 42, 43, 44, 45, 46, 47, 48, 49, 50, 51, 52, 9, 10, 11, 12, 69, 70, 71, 72, 73, 74, 75, 76] (by decide +kernel) (by decide +kernel)
set_option maxRecDepth 20000 in
theorem gX4_tickOn_X4_listen : GoodIn wsX4_tickOn (wsV RX4 109 RX4 yX4_listen wsX4_listen) := goodIn_app (goodIn_of _ (by decide +kernel)) ggX4_tickOn_X4_listen
set_option maxRecDepth 20000 in
theorem ggX4_tickOn_X4_answers : GoodIn wsX4_tickOn wsX4_answers := goodIn_r _ [56, 3, 4, 5, 6, 7, 8, 32, 33, 34, 35, 36, 69, 70, 71, 72, 73, 74, 75, 76] (by decide +kernel) (by decide +kernel)
set_option maxRecDepth 20000 in
theorem gX4_tickOn_X4_answers : GoodIn wsX4_tickOn (wsV RX4 86 RX4 yX4_answers wsX4_answers) := goodIn_app (goodIn_of _ (by decide +kernel)) ggX4_tickOn_X4_answers
set_option maxRecDepth 20000 in
theorem ggX4_tickOn_X4_decide : GoodIn wsX4_tickOn wsX4_decide := goodIn_r _ [60, 27, 61, 62, 63, 6, 64, 53, 54, 55, 56, 3, 4, 5, 7, 8, 32, 33, 34, 35, 36, 65, 66, 67, 68, 49, 50, 51, 52, 9, 10, 11, 12, 41, 42, 43, 44, 2, 17, 69, 70, 71, 72, 73, 74, 75, 76] (by decide +kernel) (by decide +kernel)
set_option maxRecDepth 20000 in
theorem gX4_tickOn_X4_decide : GoodIn wsX4_tickOn (wsV RX4 112 RX4 yX4_decide wsX4_decide) := goodIn_app (goodIn_of _ (by decide +kernel)) ggX4_tickOn_X4_decide
theorem dX4_tickOn_0 : decode cX4_tickOn 0 = .ok (.iconst 0, 1) := by decide +kernel
theorem dX4_tickOn_1 : decode cX4_tickOn 1 = .ok (.istore_n 1, 1) := by decide +kernel
theorem dX4_tickOn_2 : decode cX4_tickOn 2 = .ok (.iconst 0, 1) := by decide +kernel
theorem dX4_tickOn_3 : decode cX4_tickOn 3 = .ok (.istore_n 2, 1) := by decide +kernel
theorem dX4_tickOn_4 : decode cX4_tickOn 4 = .ok (.iload_n 2, 1) := by decide +kernel
theorem dX4_tickOn_5 : decode cX4_tickOn 5 = .ok (.aload_n 0, 1) := by decide +kernel
theorem dX4_tickOn_6 : decode cX4_tickOn 6 = .ok (.getfield 32, 3) := by decide +kernel
theorem dX4_tickOn_9 : decode cX4_tickOn 9 = .ok (.if_icmp .ge 62, 3) := by decide +kernel
theorem dX4_tickOn_12 : decode cX4_tickOn 12 = .ok (.aload_n 0, 1) := by decide +kernel
theorem dX4_tickOn_13 : decode cX4_tickOn 13 = .ok (.iload_n 2, 1) := by decide +kernel
theorem dX4_tickOn_14 : decode cX4_tickOn 14 = .ok (.iconst 3, 1) := by decide +kernel
theorem dX4_tickOn_15 : decode cX4_tickOn 15 = .ok (.invokevirtual 49, 3) := by decide +kernel
theorem dX4_tickOn_18 : decode cX4_tickOn 18 = .ok (.iconst 2, 1) := by decide +kernel
theorem dX4_tickOn_19 : decode cX4_tickOn 19 = .ok (.if_icmp .eq 16, 3) := by decide +kernel
theorem dX4_tickOn_22 : decode cX4_tickOn 22 = .ok (.aload_n 0, 1) := by decide +kernel
theorem dX4_tickOn_23 : decode cX4_tickOn 23 = .ok (.iload_n 2, 1) := by decide +kernel
theorem dX4_tickOn_24 : decode cX4_tickOn 24 = .ok (.iconst 3, 1) := by decide +kernel
theorem dX4_tickOn_25 : decode cX4_tickOn 25 = .ok (.invokevirtual 49, 3) := by decide +kernel
theorem dX4_tickOn_28 : decode cX4_tickOn 28 = .ok (.iconst 3, 1) := by decide +kernel
theorem dX4_tickOn_29 : decode cX4_tickOn 29 = .ok (.if_icmp .eq 6, 3) := by decide +kernel
theorem dX4_tickOn_32 : decode cX4_tickOn 32 = .ok (.goto 33, 3) := by decide +kernel
theorem dX4_tickOn_35 : decode cX4_tickOn 35 = .ok (.aload_n 0, 1) := by decide +kernel
theorem dX4_tickOn_36 : decode cX4_tickOn 36 = .ok (.iload_n 2, 1) := by decide +kernel
theorem dX4_tickOn_37 : decode cX4_tickOn 37 = .ok (.iconst 4, 1) := by decide +kernel
theorem dX4_tickOn_38 : decode cX4_tickOn 38 = .ok (.aload_n 0, 1) := by decide +kernel
theorem dX4_tickOn_39 : decode cX4_tickOn 39 = .ok (.iload_n 2, 1) := by decide +kernel
theorem dX4_tickOn_40 : decode cX4_tickOn 40 = .ok (.iconst 4, 1) := by decide +kernel
theorem dX4_tickOn_41 : decode cX4_tickOn 41 = .ok (.invokevirtual 49, 3) := by decide +kernel
theorem dX4_tickOn_44 : decode cX4_tickOn 44 = .ok (.iconst 1, 1) := by decide +kernel
theorem dX4_tickOn_45 : decode cX4_tickOn 45 = .ok (.isub, 1) := by decide +kernel
theorem dX4_tickOn_46 : decode cX4_tickOn 46 = .ok (.invokevirtual 68, 3) := by decide +kernel
theorem dX4_tickOn_49 : decode cX4_tickOn 49 = .ok (.aload_n 0, 1) := by decide +kernel
theorem dX4_tickOn_50 : decode cX4_tickOn 50 = .ok (.iload_n 2, 1) := by decide +kernel
theorem dX4_tickOn_51 : decode cX4_tickOn 51 = .ok (.iconst 4, 1) := by decide +kernel
theorem dX4_tickOn_52 : decode cX4_tickOn 52 = .ok (.invokevirtual 49, 3) := by decide +kernel
theorem dX4_tickOn_55 : decode cX4_tickOn 55 = .ok (.ifCond .ne 10, 3) := by decide +kernel
theorem dX4_tickOn_58 : decode cX4_tickOn 58 = .ok (.aload_n 0, 1) := by decide +kernel
theorem dX4_tickOn_59 : decode cX4_tickOn 59 = .ok (.iload_n 2, 1) := by decide +kernel
theorem dX4_tickOn_60 : decode cX4_tickOn 60 = .ok (.iconst 3, 1) := by decide +kernel
theorem dX4_tickOn_61 : decode cX4_tickOn 61 = .ok (.iconst 0, 1) := by decide +kernel
theorem dX4_tickOn_62 : decode cX4_tickOn 62 = .ok (.invokevirtual 68, 3) := by decide +kernel
theorem dX4_tickOn_65 : decode cX4_tickOn 65 = .ok (.iinc 2 1, 3) := by decide +kernel
theorem dX4_tickOn_68 : decode cX4_tickOn 68 = .ok (.goto (-64), 3) := by decide +kernel
theorem dX4_tickOn_71 : decode cX4_tickOn 71 = .ok (.aload_n 0, 1) := by decide +kernel
theorem dX4_tickOn_72 : decode cX4_tickOn 72 = .ok (.invokevirtual 109, 3) := by decide +kernel
theorem dX4_tickOn_75 : decode cX4_tickOn 75 = .ok (.iconst 0, 1) := by decide +kernel
theorem dX4_tickOn_76 : decode cX4_tickOn 76 = .ok (.istore_n 2, 1) := by decide +kernel
theorem dX4_tickOn_77 : decode cX4_tickOn 77 = .ok (.iload_n 2, 1) := by decide +kernel
theorem dX4_tickOn_78 : decode cX4_tickOn 78 = .ok (.aload_n 0, 1) := by decide +kernel
theorem dX4_tickOn_79 : decode cX4_tickOn 79 = .ok (.getfield 32, 3) := by decide +kernel
theorem dX4_tickOn_82 : decode cX4_tickOn 82 = .ok (.if_icmp .ge 76, 3) := by decide +kernel
theorem dX4_tickOn_85 : decode cX4_tickOn 85 = .ok (.aload_n 0, 1) := by decide +kernel
theorem dX4_tickOn_86 : decode cX4_tickOn 86 = .ok (.iload_n 2, 1) := by decide +kernel
theorem dX4_tickOn_87 : decode cX4_tickOn 87 = .ok (.iconst 3, 1) := by decide +kernel
theorem dX4_tickOn_88 : decode cX4_tickOn 88 = .ok (.invokevirtual 49, 3) := by decide +kernel
theorem dX4_tickOn_91 : decode cX4_tickOn 91 = .ok (.iconst 1, 1) := by decide +kernel
theorem dX4_tickOn_92 : decode cX4_tickOn 92 = .ok (.if_icmp .eq 6, 3) := by decide +kernel
theorem dX4_tickOn_95 : decode cX4_tickOn 95 = .ok (.goto 57, 3) := by decide +kernel
theorem dX4_tickOn_98 : decode cX4_tickOn 98 = .ok (.aload_n 0, 1) := by decide +kernel
theorem dX4_tickOn_99 : decode cX4_tickOn 99 = .ok (.iload_n 2, 1) := by decide +kernel
theorem dX4_tickOn_100 : decode cX4_tickOn 100 = .ok (.iconst 4, 1) := by decide +kernel
theorem dX4_tickOn_101 : decode cX4_tickOn 101 = .ok (.aload_n 0, 1) := by decide +kernel
theorem dX4_tickOn_102 : decode cX4_tickOn 102 = .ok (.iload_n 2, 1) := by decide +kernel
theorem dX4_tickOn_103 : decode cX4_tickOn 103 = .ok (.iconst 4, 1) := by decide +kernel
theorem dX4_tickOn_104 : decode cX4_tickOn 104 = .ok (.invokevirtual 49, 3) := by decide +kernel
theorem dX4_tickOn_107 : decode cX4_tickOn 107 = .ok (.iconst 1, 1) := by decide +kernel
theorem dX4_tickOn_108 : decode cX4_tickOn 108 = .ok (.isub, 1) := by decide +kernel
theorem dX4_tickOn_109 : decode cX4_tickOn 109 = .ok (.invokevirtual 68, 3) := by decide +kernel
theorem dX4_tickOn_112 : decode cX4_tickOn 112 = .ok (.aload_n 0, 1) := by decide +kernel
theorem dX4_tickOn_113 : decode cX4_tickOn 113 = .ok (.iload_n 2, 1) := by decide +kernel
theorem dX4_tickOn_114 : decode cX4_tickOn 114 = .ok (.iconst 4, 1) := by decide +kernel
theorem dX4_tickOn_115 : decode cX4_tickOn 115 = .ok (.invokevirtual 49, 3) := by decide +kernel
theorem dX4_tickOn_118 : decode cX4_tickOn 118 = .ok (.ifCond .eq 18, 3) := by decide +kernel
theorem dX4_tickOn_121 : decode cX4_tickOn 121 = .ok (.aload_n 0, 1) := by decide +kernel
theorem dX4_tickOn_122 : decode cX4_tickOn 122 = .ok (.iload_n 2, 1) := by decide +kernel
theorem dX4_tickOn_123 : decode cX4_tickOn 123 = .ok (.iconst 0, 1) := by decide +kernel
theorem dX4_tickOn_124 : decode cX4_tickOn 124 = .ok (.invokevirtual 86, 3) := by decide +kernel
theorem dX4_tickOn_127 : decode cX4_tickOn 127 = .ok (.aload_n 0, 1) := by decide +kernel
theorem dX4_tickOn_128 : decode cX4_tickOn 128 = .ok (.iload_n 2, 1) := by decide +kernel
theorem dX4_tickOn_129 : decode cX4_tickOn 129 = .ok (.iconst 5, 1) := by decide +kernel
theorem dX4_tickOn_130 : decode cX4_tickOn 130 = .ok (.invokevirtual 49, 3) := by decide +kernel
theorem dX4_tickOn_133 : decode cX4_tickOn 133 = .ok (.if_icmp .ne 19, 3) := by decide +kernel
theorem dX4_tickOn_136 : decode cX4_tickOn 136 = .ok (.iload_n 1, 1) := by decide +kernel
theorem dX4_tickOn_137 : decode cX4_tickOn 137 = .ok (.aload_n 0, 1) := by decide +kernel
theorem dX4_tickOn_138 : decode cX4_tickOn 138 = .ok (.iload_n 2, 1) := by decide +kernel
theorem dX4_tickOn_139 : decode cX4_tickOn 139 = .ok (.invokevirtual 112, 3) := by decide +kernel
theorem dX4_tickOn_142 : decode cX4_tickOn 142 = .ok (.ifCond .eq 7, 3) := by decide +kernel
theorem dX4_tickOn_145 : decode cX4_tickOn 145 = .ok (.iconst 1, 1) := by decide +kernel
theorem dX4_tickOn_146 : decode cX4_tickOn 146 = .ok (.goto 4, 3) := by decide +kernel
theorem dX4_tickOn_149 : decode cX4_tickOn 149 = .ok (.iconst 0, 1) := by decide +kernel
theorem dX4_tickOn_150 : decode cX4_tickOn 150 = .ok (.iadd, 1) := by decide +kernel
theorem dX4_tickOn_151 : decode cX4_tickOn 151 = .ok (.istore_n 1, 1) := by decide +kernel
theorem dX4_tickOn_152 : decode cX4_tickOn 152 = .ok (.iinc 2 1, 3) := by decide +kernel
theorem dX4_tickOn_155 : decode cX4_tickOn 155 = .ok (.goto (-78), 3) := by decide +kernel
theorem dX4_tickOn_158 : decode cX4_tickOn 158 = .ok (.aload_n 0, 1) := by decide +kernel
theorem dX4_tickOn_159 : decode cX4_tickOn 159 = .ok (.getfield 22, 3) := by decide +kernel
theorem dX4_tickOn_162 : decode cX4_tickOn 162 = .ok (.iconst 0, 1) := by decide +kernel
theorem dX4_tickOn_163 : decode cX4_tickOn 163 = .ok (.dup2, 1) := by decide +kernel
theorem dX4_tickOn_164 : decode cX4_tickOn 164 = .ok (.iaload, 1) := by decide +kernel
theorem dX4_tickOn_165 : decode cX4_tickOn 165 = .ok (.iconst 1, 1) := by decide +kernel
theorem dX4_tickOn_166 : decode cX4_tickOn 166 = .ok (.iadd, 1) := by decide +kernel
theorem dX4_tickOn_167 : decode cX4_tickOn 167 = .ok (.iastore, 1) := by decide +kernel
theorem dX4_tickOn_168 : decode cX4_tickOn 168 = .ok (.iload_n 1, 1) := by decide +kernel
theorem dX4_tickOn_169 : decode cX4_tickOn 169 = .ok (.ireturn, 1) := by decide +kernel
set_option maxRecDepth 20000 in
theorem ggX4_pass_X4_isIn : GoodIn wsX4_pass wsX4_isIn := goodIn_r _ [5] (by decide +kernel) (by decide +kernel)
set_option maxRecDepth 20000 in
theorem gX4_pass_X4_isIn : GoodIn wsX4_pass (va_wsS RX4 35 yX4_isIn wsX4_isIn) := goodIn_app (goodIn_of _ (by decide +kernel)) ggX4_pass_X4_isIn
set_option maxRecDepth 20000 in
theorem ggX4_pass_X4_fail : GoodIn wsX4_pass wsX4_fail := goodIn_r _ [9, 1, 81, 82, 83, 84, 85, 86, 87, 88] (by decide +kernel) (by decide +kernel)
