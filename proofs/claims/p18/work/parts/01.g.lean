set_option maxRecDepth 20000 in
theorem gL_build_X5_build : GoodIn wsL_build (wsV RL 28 RX5 yX5_build wsX5_build) := goodIn_app (goodIn_of _ (by decide +kernel)) ggL_build_X5_build
set_option maxRecDepth 20000 in
theorem ggL_build_L_link : GoodIn wsL_build wsL_link := goodIn_ca (goodIn_ca (goodIn_ca (goodIn_r _ [69, 70, 71, 72, 73, 74, 75, 3, 76, 11, 77, 78, 79, 25, 80, 81, 82, 27, 28, 29, 30, 31, 83, 84, 85, 86, 87, 88, 45, 89, 47, 33, 34, 35, 90, 91, 92, 93, 94, 95, 96, 97, 98, 99, 100, 101, 102, 103, 104, 105, 106, 128, 129, 130, 131, 132, 133, 134, 135, 136, 107, 108, 109, 110, 111, 112, 113, 114, 115, 116, 117, 118, 119, 120, 121, 122, 123, 124, 125, 126, 127] (by decide +kernel) (by decide +kernel)) (goodIn_sub (fun _ h => List.mem_cons_of_mem _ (List.mem_append_right _ h)) (by decide +kernel))) (goodIn_sub (fun _ h => List.mem_cons_of_mem _ (List.mem_append_left _ (List.mem_append_left _ (List.mem_append_right _ h)))) (by decide +kernel))) (goodIn_sub (fun _ h => List.mem_cons_of_mem _ (List.mem_append_left _ (List.mem_append_right _ h))) (by decide +kernel))
set_option maxRecDepth 20000 in
theorem gL_build_L_link : GoodIn wsL_build (va_wsS RL 31 yL_link wsL_link) := goodIn_app (goodIn_of _ (by decide +kernel)) ggL_build_L_link
theorem dL_build_0 : decode cL_build 0 = .ok (.new 9, 3) := by decide +kernel
theorem dL_build_3 : decode cL_build 3 = .ok (.dup, 1) := by decide +kernel
theorem dL_build_4 : decode cL_build 4 = .ok (.invokespecial 11, 3) := by decide +kernel
theorem dL_build_7 : decode cL_build 7 = .ok (.astore_n 2, 1) := by decide +kernel
theorem dL_build_8 : decode cL_build 8 = .ok (.iconst 1, 1) := by decide +kernel
theorem dL_build_9 : decode cL_build 9 = .ok (.aload_n 1, 1) := by decide +kernel
theorem dL_build_10 : decode cL_build 10 = .ok (.iconst 0, 1) := by decide +kernel
theorem dL_build_11 : decode cL_build 11 = .ok (.invokestatic 12, 3) := by decide +kernel
theorem dL_build_14 : decode cL_build 14 = .ok (.bipush 10, 2) := by decide +kernel
theorem dL_build_16 : decode cL_build 16 = .ok (.invokestatic 18, 3) := by decide +kernel
theorem dL_build_19 : decode cL_build 19 = .ok (.iadd, 1) := by decide +kernel
theorem dL_build_20 : decode cL_build 20 = .ok (.istore_n 3, 1) := by decide +kernel
theorem dL_build_21 : decode cL_build 21 = .ok (.iconst 0, 1) := by decide +kernel
theorem dL_build_22 : decode cL_build 22 = .ok (.istore 4, 2) := by decide +kernel
theorem dL_build_24 : decode cL_build 24 = .ok (.iload 4, 2) := by decide +kernel
theorem dL_build_26 : decode cL_build 26 = .ok (.iload_n 3, 1) := by decide +kernel
theorem dL_build_27 : decode cL_build 27 = .ok (.if_icmp .ge 106, 3) := by decide +kernel
theorem dL_build_30 : decode cL_build 30 = .ok (.aload_n 1, 1) := by decide +kernel
theorem dL_build_31 : decode cL_build 31 = .ok (.iconst 1, 1) := by decide +kernel
theorem dL_build_32 : decode cL_build 32 = .ok (.invokestatic 12, 3) := by decide +kernel
theorem dL_build_35 : decode cL_build 35 = .ok (.iload 4, 2) := by decide +kernel
theorem dL_build_37 : decode cL_build 37 = .ok (.ishr, 1) := by decide +kernel
theorem dL_build_38 : decode cL_build 38 = .ok (.bipush 100, 2) := by decide +kernel
theorem dL_build_40 : decode cL_build 40 = .ok (.invokestatic 18, 3) := by decide +kernel
theorem dL_build_43 : decode cL_build 43 = .ok (.istore 5, 2) := by decide +kernel
theorem dL_build_45 : decode cL_build 45 = .ok (.iconst 1, 1) := by decide +kernel
theorem dL_build_46 : decode cL_build 46 = .ok (.aload_n 1, 1) := by decide +kernel
theorem dL_build_47 : decode cL_build 47 = .ok (.iconst 2, 1) := by decide +kernel
theorem dL_build_48 : decode cL_build 48 = .ok (.invokestatic 12, 3) := by decide +kernel
theorem dL_build_51 : decode cL_build 51 = .ok (.iconst 2, 1) := by decide +kernel
theorem dL_build_52 : decode cL_build 52 = .ok (.iload 4, 2) := by decide +kernel
theorem dL_build_54 : decode cL_build 54 = .ok (.imul, 1) := by decide +kernel
theorem dL_build_55 : decode cL_build 55 = .ok (.ishr, 1) := by decide +kernel
theorem dL_build_56 : decode cL_build 56 = .ok (.aload_n 1, 1) := by decide +kernel
theorem dL_build_57 : decode cL_build 57 = .ok (.iconst 3, 1) := by decide +kernel
theorem dL_build_58 : decode cL_build 58 = .ok (.invokestatic 12, 3) := by decide +kernel
theorem dL_build_61 : decode cL_build 61 = .ok (.iload 4, 2) := by decide +kernel
theorem dL_build_63 : decode cL_build 63 = .ok (.ishr, 1) := by decide +kernel
theorem dL_build_64 : decode cL_build 64 = .ok (.iconst 2, 1) := by decide +kernel
theorem dL_build_65 : decode cL_build 65 = .ok (.invokestatic 18, 3) := by decide +kernel
theorem dL_build_68 : decode cL_build 68 = .ok (.ifCond .ne 8, 3) := by decide +kernel
theorem dL_build_71 : decode cL_build 71 = .ok (.bipush 20, 2) := by decide +kernel
theorem dL_build_73 : decode cL_build 73 = .ok (.goto 5, 3) := by decide +kernel
theorem dL_build_76 : decode cL_build 76 = .ok (.bipush 6, 2) := by decide +kernel
theorem dL_build_78 : decode cL_build 78 = .ok (.invokestatic 18, 3) := by decide +kernel
theorem dL_build_81 : decode cL_build 81 = .ok (.iadd, 1) := by decide +kernel
theorem dL_build_82 : decode cL_build 82 = .ok (.istore 6, 2) := by decide +kernel
theorem dL_build_84 : decode cL_build 84 = .ok (.aload_n 1, 1) := by decide +kernel
theorem dL_build_85 : decode cL_build 85 = .ok (.iconst 4, 1) := by decide +kernel
theorem dL_build_86 : decode cL_build 86 = .ok (.invokestatic 12, 3) := by decide +kernel
theorem dL_build_89 : decode cL_build 89 = .ok (.iconst 2, 1) := by decide +kernel
theorem dL_build_90 : decode cL_build 90 = .ok (.iload 4, 2) := by decide +kernel
theorem dL_build_92 : decode cL_build 92 = .ok (.imul, 1) := by decide +kernel
theorem dL_build_93 : decode cL_build 93 = .ok (.ishr, 1) := by decide +kernel
theorem dL_build_94 : decode cL_build 94 = .ok (.iconst 4, 1) := by decide +kernel
theorem dL_build_95 : decode cL_build 95 = .ok (.invokestatic 18, 3) := by decide +kernel
theorem dL_build_98 : decode cL_build 98 = .ok (.istore 7, 2) := by decide +kernel
theorem dL_build_100 : decode cL_build 100 = .ok (.aload_n 0, 1) := by decide +kernel
theorem dL_build_101 : decode cL_build 101 = .ok (.iload 5, 2) := by decide +kernel
theorem dL_build_103 : decode cL_build 103 = .ok (.iload 6, 2) := by decide +kernel
theorem dL_build_105 : decode cL_build 105 = .ok (.iload 7, 2) := by decide +kernel
theorem dL_build_107 : decode cL_build 107 = .ok (.invokevirtual 22, 3) := by decide +kernel
theorem dL_build_110 : decode cL_build 110 = .ok (.iload 4, 2) := by decide +kernel
theorem dL_build_112 : decode cL_build 112 = .ok (.if_icmp .eq 5, 3) := by decide +kernel
theorem dL_build_115 : decode cL_build 115 = .ok (.aconst_null, 1) := by decide +kernel
theorem dL_build_116 : decode cL_build 116 = .ok (.areturn, 1) := by decide +kernel
theorem dL_build_117 : decode cL_build 117 = .ok (.aload_n 2, 1) := by decide +kernel
theorem dL_build_118 : decode cL_build 118 = .ok (.iload 5, 2) := by decide +kernel
theorem dL_build_120 : decode cL_build 120 = .ok (.iload 6, 2) := by decide +kernel
theorem dL_build_122 : decode cL_build 122 = .ok (.iload 7, 2) := by decide +kernel
theorem dL_build_124 : decode cL_build 124 = .ok (.invokevirtual 28, 3) := by decide +kernel
theorem dL_build_127 : decode cL_build 127 = .ok (.iinc 4 1, 3) := by decide +kernel
theorem dL_build_130 : decode cL_build 130 = .ok (.goto (-106), 3) := by decide +kernel
theorem dL_build_133 : decode cL_build 133 = .ok (.iconst 0, 1) := by decide +kernel
theorem dL_build_134 : decode cL_build 134 = .ok (.istore 4, 2) := by decide +kernel
theorem dL_build_136 : decode cL_build 136 = .ok (.iload 4, 2) := by decide +kernel
theorem dL_build_138 : decode cL_build 138 = .ok (.bipush 24, 2) := by decide +kernel
theorem dL_build_140 : decode cL_build 140 = .ok (.if_icmp .ge 75, 3) := by decide +kernel
theorem dL_build_143 : decode cL_build 143 = .ok (.iload_n 3, 1) := by decide +kernel
theorem dL_build_144 : decode cL_build 144 = .ok (.iconst 1, 1) := by decide +kernel
theorem dL_build_145 : decode cL_build 145 = .ok (.if_icmp .le 70, 3) := by decide +kernel
theorem dL_build_148 : decode cL_build 148 = .ok (.aload_n 1, 1) := by decide +kernel
theorem dL_build_149 : decode cL_build 149 = .ok (.iconst 5, 1) := by decide +kernel
theorem dL_build_150 : decode cL_build 150 = .ok (.iload 4, 2) := by decide +kernel
theorem dL_build_152 : decode cL_build 152 = .ok (.bipush 6, 2) := by decide +kernel
theorem dL_build_154 : decode cL_build 154 = .ok (.irem, 1) := by decide +kernel
theorem dL_build_155 : decode cL_build 155 = .ok (.iadd, 1) := by decide +kernel
theorem dL_build_156 : decode cL_build 156 = .ok (.invokestatic 12, 3) := by decide +kernel
theorem dL_build_159 : decode cL_build 159 = .ok (.iload 4, 2) := by decide +kernel
theorem dL_build_161 : decode cL_build 161 = .ok (.bipush 6, 2) := by decide +kernel
theorem dL_build_163 : decode cL_build 163 = .ok (.idiv, 1) := by decide +kernel
theorem dL_build_164 : decode cL_build 164 = .ok (.iconst 3, 1) := by decide +kernel
theorem dL_build_165 : decode cL_build 165 = .ok (.imul, 1) := by decide +kernel
theorem dL_build_166 : decode cL_build 166 = .ok (.ishr, 1) := by decide +kernel
theorem dL_build_167 : decode cL_build 167 = .ok (.bipush 31, 2) := by decide +kernel
theorem dL_build_169 : decode cL_build 169 = .ok (.iload 4, 2) := by decide +kernel
theorem dL_build_171 : decode cL_build 171 = .ok (.imul, 1) := by decide +kernel
theorem dL_build_172 : decode cL_build 172 = .ok (.iadd, 1) := by decide +kernel
theorem dL_build_173 : decode cL_build 173 = .ok (.istore 5, 2) := by decide +kernel
theorem dL_build_175 : decode cL_build 175 = .ok (.aload_n 0, 1) := by decide +kernel
theorem dL_build_176 : decode cL_build 176 = .ok (.aload_n 2, 1) := by decide +kernel
theorem dL_build_177 : decode cL_build 177 = .ok (.iload 5, 2) := by decide +kernel
theorem dL_build_179 : decode cL_build 179 = .ok (.iload_n 3, 1) := by decide +kernel
theorem dL_build_180 : decode cL_build 180 = .ok (.invokestatic 18, 3) := by decide +kernel
theorem dL_build_183 : decode cL_build 183 = .ok (.iload 5, 2) := by decide +kernel
theorem dL_build_185 : decode cL_build 185 = .ok (.iconst 2, 1) := by decide +kernel
theorem dL_build_186 : decode cL_build 186 = .ok (.ishr, 1) := by decide +kernel
theorem dL_build_187 : decode cL_build 187 = .ok (.iload_n 3, 1) := by decide +kernel
theorem dL_build_188 : decode cL_build 188 = .ok (.invokestatic 18, 3) := by decide +kernel
theorem dL_build_191 : decode cL_build 191 = .ok (.iconst 1, 1) := by decide +kernel
theorem dL_build_192 : decode cL_build 192 = .ok (.iload 5, 2) := by decide +kernel
theorem dL_build_194 : decode cL_build 194 = .ok (.iconst 4, 1) := by decide +kernel
theorem dL_build_195 : decode cL_build 195 = .ok (.ishr, 1) := by decide +kernel
theorem dL_build_196 : decode cL_build 196 = .ok (.iconst 5, 1) := by decide +kernel
theorem dL_build_197 : decode cL_build 197 = .ok (.invokestatic 18, 3) := by decide +kernel
theorem dL_build_200 : decode cL_build 200 = .ok (.iadd, 1) := by decide +kernel
theorem dL_build_201 : decode cL_build 201 = .ok (.invokestatic 31, 3) := by decide +kernel
theorem dL_build_204 : decode cL_build 204 = .ok (.ifCond .ne 5, 3) := by decide +kernel
theorem dL_build_207 : decode cL_build 207 = .ok (.aconst_null, 1) := by decide +kernel
theorem dL_build_208 : decode cL_build 208 = .ok (.areturn, 1) := by decide +kernel
theorem dL_build_209 : decode cL_build 209 = .ok (.iinc 4 1, 3) := by decide +kernel
theorem dL_build_212 : decode cL_build 212 = .ok (.goto (-76), 3) := by decide +kernel
theorem dL_build_215 : decode cL_build 215 = .ok (.aload_n 2, 1) := by decide +kernel
theorem dL_build_216 : decode cL_build 216 = .ok (.areturn, 1) := by decide +kernel
set_option maxRecDepth 20000 in
theorem ggL_link_X5_more : GoodIn wsL_link wsX5_more := goodIn_r _ [8, 9] (by decide +kernel) (by decide +kernel)
set_option maxRecDepth 20000 in
theorem gL_link_X5_more : GoodIn wsL_link (va_wsS RL 49 yX5_more wsX5_more) := goodIn_app (goodIn_of _ (by decide +kernel)) ggL_link_X5_more
set_option maxRecDepth 20000 in
theorem ggL_link_X3_ask : GoodIn wsL_link wsX3_ask := goodIn_ca (goodIn_ca (goodIn_ca (goodIn_r _ [14, 15, 16, 17, 18, 19, 20, 21, 22, 23, 24, 25, 26, 27, 28, 29, 30, 31, 32, 13, 33, 34, 35, 36, 37, 38, 39, 40, 41, 42, 43, 44, 45, 46, 60, 61, 62, 63, 64, 65, 66, 67, 68, 69, 70, 71, 72, 73, 74, 75, 76, 77, 78, 79, 80] (by decide +kernel) (by decide +kernel)) (goodIn_sub (fun _ h => List.mem_cons_of_mem _ (List.mem_append_left _ (List.mem_append_left _ (List.mem_append_right _ h)))) (by decide +kernel))) (goodIn_sub (fun _ h => List.mem_cons_of_mem _ (List.mem_append_left _ (List.mem_append_right _ h))) (by decide +kernel))) (goodIn_sub (fun _ h => List.mem_cons_of_mem _ (List.mem_append_right _ h)) (by decide +kernel))
set_option maxRecDepth 20000 in
theorem gL_link_X3_ask : GoodIn wsL_link (wsV RL 53 RX3 yX3_ask wsX3_ask) := goodIn_app (goodIn_of _ (by decide +kernel)) ggL_link_X3_ask
theorem dL_link_0 : decode cL_link 0 = .ok (.aload_n 1, 1) := by decide +kernel
theorem dL_link_1 : decode cL_link 1 = .ok (.getfield 35, 3) := by decide +kernel
theorem dL_link_4 : decode cL_link 4 = .ok (.iload_n 2, 1) := by decide +kernel
theorem dL_link_5 : decode cL_link 5 = .ok (.aaload, 1) := by decide +kernel
theorem dL_link_6 : decode cL_link 6 = .ok (.astore 5, 2) := by decide +kernel
theorem dL_link_8 : decode cL_link 8 = .ok (.iload_n 2, 1) := by decide +kernel
theorem dL_link_9 : decode cL_link 9 = .ok (.iload_n 3, 1) := by decide +kernel
theorem dL_link_10 : decode cL_link 10 = .ok (.if_icmp .eq 25, 3) := by decide +kernel
theorem dL_link_13 : decode cL_link 13 = .ok (.aload 5, 2) := by decide +kernel
theorem dL_link_15 : decode cL_link 15 = .ok (.getfield 39, 3) := by decide +kernel
theorem dL_link_18 : decode cL_link 18 = .ok (.ifCond .ne 17, 3) := by decide +kernel
theorem dL_link_21 : decode cL_link 21 = .ok (.aload 5, 2) := by decide +kernel
theorem dL_link_23 : decode cL_link 23 = .ok (.getfield 45, 3) := by decide +kernel
theorem dL_link_26 : decode cL_link 26 = .ok (.arraylength, 1) := by decide +kernel
theorem dL_link_27 : decode cL_link 27 = .ok (.iconst 4, 1) := by decide +kernel
theorem dL_link_28 : decode cL_link 28 = .ok (.if_icmp .ge 7, 3) := by decide +kernel
theorem dL_link_31 : decode cL_link 31 = .ok (.iconst 1, 1) := by decide +kernel
theorem dL_link_32 : decode cL_link 32 = .ok (.goto 4, 3) := by decide +kernel
theorem dL_link_35 : decode cL_link 35 = .ok (.iconst 0, 1) := by decide +kernel
theorem dL_link_36 : decode cL_link 36 = .ok (.istore 6, 2) := by decide +kernel
theorem dL_link_38 : decode cL_link 38 = .ok (.aload 5, 2) := by decide +kernel
theorem dL_link_40 : decode cL_link 40 = .ok (.getfield 45, 3) := by decide +kernel
theorem dL_link_43 : decode cL_link 43 = .ok (.astore 7, 2) := by decide +kernel
theorem dL_link_45 : decode cL_link 45 = .ok (.aload 7, 2) := by decide +kernel
theorem dL_link_47 : decode cL_link 47 = .ok (.arraylength, 1) := by decide +kernel
theorem dL_link_48 : decode cL_link 48 = .ok (.istore 8, 2) := by decide +kernel
theorem dL_link_50 : decode cL_link 50 = .ok (.iconst 0, 1) := by decide +kernel
theorem dL_link_51 : decode cL_link 51 = .ok (.istore 9, 2) := by decide +kernel
theorem dL_link_53 : decode cL_link 53 = .ok (.iload 9, 2) := by decide +kernel
theorem dL_link_55 : decode cL_link 55 = .ok (.iload 8, 2) := by decide +kernel
theorem dL_link_57 : decode cL_link 57 = .ok (.if_icmp .ge 36, 3) := by decide +kernel
theorem dL_link_60 : decode cL_link 60 = .ok (.aload 7, 2) := by decide +kernel
theorem dL_link_62 : decode cL_link 62 = .ok (.iload 9, 2) := by decide +kernel
theorem dL_link_64 : decode cL_link 64 = .ok (.aaload, 1) := by decide +kernel
theorem dL_link_65 : decode cL_link 65 = .ok (.astore 10, 2) := by decide +kernel
theorem dL_link_67 : decode cL_link 67 = .ok (.iload 6, 2) := by decide +kernel
theorem dL_link_69 : decode cL_link 69 = .ok (.ifCond .eq 15, 3) := by decide +kernel
theorem dL_link_72 : decode cL_link 72 = .ok (.aload 10, 2) := by decide +kernel
theorem dL_link_74 : decode cL_link 74 = .ok (.iconst 0, 1) := by decide +kernel
theorem dL_link_75 : decode cL_link 75 = .ok (.iaload, 1) := by decide +kernel
theorem dL_link_76 : decode cL_link 76 = .ok (.iload_n 3, 1) := by decide +kernel
theorem dL_link_77 : decode cL_link 77 = .ok (.if_icmp .eq 7, 3) := by decide +kernel
theorem dL_link_80 : decode cL_link 80 = .ok (.iconst 1, 1) := by decide +kernel
theorem dL_link_81 : decode cL_link 81 = .ok (.goto 4, 3) := by decide +kernel
theorem dL_link_84 : decode cL_link 84 = .ok (.iconst 0, 1) := by decide +kernel
theorem dL_link_85 : decode cL_link 85 = .ok (.istore 6, 2) := by decide +kernel
theorem dL_link_87 : decode cL_link 87 = .ok (.iinc 9 1, 3) := by decide +kernel
theorem dL_link_90 : decode cL_link 90 = .ok (.goto (-37), 3) := by decide +kernel
theorem dL_link_93 : decode cL_link 93 = .ok (.iload 6, 2) := by decide +kernel
theorem dL_link_95 : decode cL_link 95 = .ok (.ifCond .ne 5, 3) := by decide +kernel
theorem dL_link_98 : decode cL_link 98 = .ok (.iconst 1, 1) := by decide +kernel
theorem dL_link_99 : decode cL_link 99 = .ok (.ireturn, 1) := by decide +kernel
theorem dL_link_100 : decode cL_link 100 = .ok (.aload 5, 2) := by decide +kernel
theorem dL_link_102 : decode cL_link 102 = .ok (.aload 5, 2) := by decide +kernel
theorem dL_link_104 : decode cL_link 104 = .ok (.getfield 45, 3) := by decide +kernel
theorem dL_link_107 : decode cL_link 107 = .ok (.iconst 3, 1) := by decide +kernel
theorem dL_link_108 : decode cL_link 108 = .ok (.newarray .int, 2) := by decide +kernel
theorem dL_link_110 : decode cL_link 110 = .ok (.dup, 1) := by decide +kernel
theorem dL_link_111 : decode cL_link 111 = .ok (.iconst 0, 1) := by decide +kernel
theorem dL_link_112 : decode cL_link 112 = .ok (.iload_n 3, 1) := by decide +kernel
theorem dL_link_113 : decode cL_link 113 = .ok (.iastore, 1) := by decide +kernel
theorem dL_link_114 : decode cL_link 114 = .ok (.dup, 1) := by decide +kernel
theorem dL_link_115 : decode cL_link 115 = .ok (.iconst 1, 1) := by decide +kernel
theorem dL_link_116 : decode cL_link 116 = .ok (.iload 4, 2) := by decide +kernel
theorem dL_link_118 : decode cL_link 118 = .ok (.iastore, 1) := by decide +kernel
theorem dL_link_119 : decode cL_link 119 = .ok (.dup, 1) := by decide +kernel
theorem dL_link_120 : decode cL_link 120 = .ok (.iconst 2, 1) := by decide +kernel
theorem dL_link_121 : decode cL_link 121 = .ok (.iconst (-1), 1) := by decide +kernel
theorem dL_link_122 : decode cL_link 122 = .ok (.iastore, 1) := by decide +kernel
theorem dL_link_123 : decode cL_link 123 = .ok (.invokestatic 49, 3) := by decide +kernel
theorem dL_link_126 : decode cL_link 126 = .ok (.putfield 45, 3) := by decide +kernel
theorem dL_link_129 : decode cL_link 129 = .ok (.aload_n 0, 1) := by decide +kernel
theorem dL_link_130 : decode cL_link 130 = .ok (.iload_n 2, 1) := by decide +kernel
theorem dL_link_131 : decode cL_link 131 = .ok (.iload_n 3, 1) := by decide +kernel
theorem dL_link_132 : decode cL_link 132 = .ok (.iload 4, 2) := by decide +kernel
theorem dL_link_134 : decode cL_link 134 = .ok (.invokevirtual 53, 3) := by decide +kernel
theorem dL_link_137 : decode cL_link 137 = .ok (.aload 5, 2) := by decide +kernel
theorem dL_link_139 : decode cL_link 139 = .ok (.getfield 45, 3) := by decide +kernel
theorem dL_link_142 : decode cL_link 142 = .ok (.arraylength, 1) := by decide +kernel
theorem dL_link_143 : decode cL_link 143 = .ok (.if_icmp .ne 7, 3) := by decide +kernel
theorem dL_link_146 : decode cL_link 146 = .ok (.iconst 1, 1) := by decide +kernel
theorem dL_link_147 : decode cL_link 147 = .ok (.goto 4, 3) := by decide +kernel
theorem dL_link_150 : decode cL_link 150 = .ok (.iconst 0, 1) := by decide +kernel
theorem dL_link_151 : decode cL_link 151 = .ok (.ireturn, 1) := by decide +kernel
set_option maxRecDepth 20000 in
theorem ggL_act_L_below : GoodIn wsL_act wsL_below := goodIn_r _ [8, 9] (by decide +kernel) (by decide +kernel)
set_option maxRecDepth 20000 in
theorem gL_act_L_below : GoodIn wsL_act (va_wsS RL 18 yL_below wsL_below) := goodIn_app (goodIn_of _ (by decide +kernel)) ggL_act_L_below
set_option maxRecDepth 20000 in
theorem ggL_act_X3_whisper : GoodIn wsL_act wsX3_whisper := goodIn_ca (goodIn_ca (goodIn_r _ [14, 15, 16, 17, 18, 19, 20, 21, 22, 23, 24, 25, 26, 27, 13, 28, 29, 30, 31, 32, 33, 34, 35, 36, 37, 38, 39, 40, 41, 42, 43, 44, 45, 46, 47, 48, 49, 50, 51, 52, 53, 54, 55, 56, 57, 58, 59, 60, 61, 62, 63, 64, 65, 66, 67, 68, 69, 155, 156, 157, 158, 159, 160, 161, 162, 163, 164, 165, 166, 167, 168, 169, 170, 171, 172, 173, 174, 175, 176, 177, 178, 179, 180, 181, 182] (by decide +kernel) (by decide +kernel)) (goodIn_sub (fun _ h => List.mem_cons_of_mem _ (List.mem_append_left _ (List.mem_append_left _ (List.mem_append_right _ h)))) (by decide +kernel))) (goodIn_sub (fun _ h => List.mem_cons_of_mem _ (List.mem_append_left _ (List.mem_append_right _ h))) (by decide +kernel))
set_option maxRecDepth 20000 in
theorem gL_act_X3_whisper : GoodIn wsL_act (wsV RL 59 RX3 yX3_whisper wsX3_whisper) := goodIn_app (goodIn_of _ (by decide +kernel)) ggL_act_X3_whisper
set_option maxRecDepth 20000 in
theorem ggL_act_X5_whisper : GoodIn wsL_act wsX5_whisper := goodIn_r _ [74, 75, 76, 77, 78, 79, 80, 73, 81, 82, 83, 84, 85, 86, 87, 88, 89, 90, 91, 92, 93, 94, 95, 96, 97, 98, 99, 100, 101, 102, 142, 143, 144, 145, 146, 147, 148, 149, 150, 151, 152, 153, 154] (by decide +kernel) (by decide +kernel)
set_option maxRecDepth 20000 in
theorem gL_act_X5_whisper : GoodIn wsL_act (wsV RL 63 RX5 yX5_whisper wsX5_whisper) := goodIn_app (goodIn_of _ (by decide +kernel)) ggL_act_X5_whisper
set_option maxRecDepth 20000 in
theorem ggL_act_X3_set : GoodIn wsL_act wsX3_set := goodIn_ca (goodIn_ca (goodIn_r _ [106, 15, 16, 17, 18, 19, 107, 108, 109, 20, 21, 22, 23, 24, 25, 110, 111, 13, 112, 26, 27, 28, 113, 114, 115, 155, 156, 157, 158, 159, 160, 161, 162, 163, 164, 165, 166, 167, 168, 169, 170, 171, 172, 173, 174, 175] (by decide +kernel) (by decide +kernel)) (goodIn_sub (fun _ h => List.mem_cons_of_mem _ (List.mem_append_left _ (List.mem_append_left _ (List.mem_append_right _ h)))) (by decide +kernel))) (goodIn_sub (fun _ h => List.mem_cons_of_mem _ (List.mem_append_left _ (List.mem_append_right _ h))) (by decide +kernel))
set_option maxRecDepth 20000 in
theorem gL_act_X3_set : GoodIn wsL_act (wsV RL 70 RX3 yX3_set wsX3_set) := goodIn_app (goodIn_of _ (by decide +kernel)) ggL_act_X3_set
set_option maxRecDepth 20000 in
theorem ggL_act_L_link : GoodIn wsL_act wsL_link := goodIn_ca (goodIn_ca (goodIn_ca (goodIn_r _ [118, 1, 119, 120, 98, 121, 101, 73, 102, 90, 122, 123, 124, 13, 125, 15, 16, 17, 18, 126, 127, 19, 107, 128, 129, 20, 21, 22, 23, 24, 25, 26, 27, 28, 130, 131, 132, 40, 133, 134, 135, 136, 137, 138, 139, 140, 141, 142, 143, 144, 145, 146, 147, 148, 149, 150, 151, 152, 153, 154, 155, 156, 157, 158, 159, 160, 161, 162, 163, 164, 165, 166, 167, 168, 169, 170, 171, 172, 173, 174, 175] (by decide +kernel) (by decide +kernel)) (goodIn_sub (fun _ h => List.mem_cons_of_mem _ (List.mem_append_left _ (List.mem_append_left _ (List.mem_append_right _ h)))) (by decide +kernel))) (goodIn_sub (fun _ h => List.mem_cons_of_mem _ (List.mem_append_left _ (List.mem_append_right _ h))) (by decide +kernel))) (goodIn_sub (fun _ h => List.mem_cons_of_mem _ (List.mem_append_right _ h)) (by decide +kernel))
set_option maxRecDepth 20000 in
theorem gL_act_L_link : GoodIn wsL_act (va_wsS RL 31 yL_link wsL_link) := goodIn_app (goodIn_of _ (by decide +kernel)) ggL_act_L_link
theorem dL_act_0 : decode cL_act 0 = .ok (.aload_n 1, 1) := by decide +kernel
theorem dL_act_1 : decode cL_act 1 = .ok (.getfield 35, 3) := by decide +kernel
theorem dL_act_4 : decode cL_act 4 = .ok (.arraylength, 1) := by decide +kernel
theorem dL_act_5 : decode cL_act 5 = .ok (.istore_n 3, 1) := by decide +kernel
theorem dL_act_6 : decode cL_act 6 = .ok (.iload_n 2, 1) := by decide +kernel
theorem dL_act_7 : decode cL_act 7 = .ok (.iload_n 3, 1) := by decide +kernel
theorem dL_act_8 : decode cL_act 8 = .ok (.invokestatic 18, 3) := by decide +kernel
theorem dL_act_11 : decode cL_act 11 = .ok (.istore 4, 2) := by decide +kernel
theorem dL_act_13 : decode cL_act 13 = .ok (.iload_n 2, 1) := by decide +kernel
theorem dL_act_14 : decode cL_act 14 = .ok (.bipush 8, 2) := by decide +kernel
theorem dL_act_16 : decode cL_act 16 = .ok (.ishr, 1) := by decide +kernel
theorem dL_act_17 : decode cL_act 17 = .ok (.bipush 6, 2) := by decide +kernel
theorem dL_act_19 : decode cL_act 19 = .ok (.invokestatic 18, 3) := by decide +kernel
theorem dL_act_22 : decode cL_act 22 = .ok (.tableswitch 222 0 4 #[34, 34, 34, 75, 122], 34) := by decide +kernel
theorem dL_act_56 : decode cL_act 56 = .ok (.aload_n 0, 1) := by decide +kernel
theorem dL_act_57 : decode cL_act 57 = .ok (.iload 4, 2) := by decide +kernel
theorem dL_act_59 : decode cL_act 59 = .ok (.aload_n 1, 1) := by decide +kernel
theorem dL_act_60 : decode cL_act 60 = .ok (.getfield 35, 3) := by decide +kernel
theorem dL_act_63 : decode cL_act 63 = .ok (.iload 4, 2) := by decide +kernel
theorem dL_act_65 : decode cL_act 65 = .ok (.aaload, 1) := by decide +kernel
theorem dL_act_66 : decode cL_act 66 = .ok (.getfield 56, 3) := by decide +kernel
theorem dL_act_69 : decode cL_act 69 = .ok (.invokevirtual 59, 3) := by decide +kernel
theorem dL_act_72 : decode cL_act 72 = .ok (.aload_n 1, 1) := by decide +kernel
theorem dL_act_73 : decode cL_act 73 = .ok (.iload 4, 2) := by decide +kernel
theorem dL_act_75 : decode cL_act 75 = .ok (.aload_n 1, 1) := by decide +kernel
theorem dL_act_76 : decode cL_act 76 = .ok (.getfield 35, 3) := by decide +kernel
theorem dL_act_79 : decode cL_act 79 = .ok (.iload 4, 2) := by decide +kernel
theorem dL_act_81 : decode cL_act 81 = .ok (.aaload, 1) := by decide +kernel
theorem dL_act_82 : decode cL_act 82 = .ok (.getfield 56, 3) := by decide +kernel
theorem dL_act_85 : decode cL_act 85 = .ok (.invokevirtual 63, 3) := by decide +kernel
theorem dL_act_88 : decode cL_act 88 = .ok (.if_icmp .ne 7, 3) := by decide +kernel
theorem dL_act_91 : decode cL_act 91 = .ok (.iconst 1, 1) := by decide +kernel
theorem dL_act_92 : decode cL_act 92 = .ok (.goto 4, 3) := by decide +kernel
theorem dL_act_95 : decode cL_act 95 = .ok (.iconst 0, 1) := by decide +kernel
theorem dL_act_96 : decode cL_act 96 = .ok (.ireturn, 1) := by decide +kernel
theorem dL_act_97 : decode cL_act 97 = .ok (.iload_n 2, 1) := by decide +kernel
theorem dL_act_98 : decode cL_act 98 = .ok (.iconst 4, 1) := by decide +kernel
theorem dL_act_99 : decode cL_act 99 = .ok (.ishr, 1) := by decide +kernel
theorem dL_act_100 : decode cL_act 100 = .ok (.iconst 2, 1) := by decide +kernel
theorem dL_act_101 : decode cL_act 101 = .ok (.invokestatic 18, 3) := by decide +kernel
theorem dL_act_104 : decode cL_act 104 = .ok (.ifCond .eq 34, 3) := by decide +kernel
theorem dL_act_107 : decode cL_act 107 = .ok (.aload_n 0, 1) := by decide +kernel
theorem dL_act_108 : decode cL_act 108 = .ok (.iload 4, 2) := by decide +kernel
theorem dL_act_110 : decode cL_act 110 = .ok (.iload_n 2, 1) := by decide +kernel
theorem dL_act_111 : decode cL_act 111 = .ok (.iconst 2, 1) := by decide +kernel
theorem dL_act_112 : decode cL_act 112 = .ok (.ishr, 1) := by decide +kernel
theorem dL_act_113 : decode cL_act 113 = .ok (.bipush 100, 2) := by decide +kernel
theorem dL_act_115 : decode cL_act 115 = .ok (.invokestatic 18, 3) := by decide +kernel
theorem dL_act_118 : decode cL_act 118 = .ok (.invokevirtual 59, 3) := by decide +kernel
theorem dL_act_121 : decode cL_act 121 = .ok (.aload_n 1, 1) := by decide +kernel
theorem dL_act_122 : decode cL_act 122 = .ok (.iload 4, 2) := by decide +kernel
theorem dL_act_124 : decode cL_act 124 = .ok (.iload_n 2, 1) := by decide +kernel
theorem dL_act_125 : decode cL_act 125 = .ok (.iconst 2, 1) := by decide +kernel
theorem dL_act_126 : decode cL_act 126 = .ok (.ishr, 1) := by decide +kernel
theorem dL_act_127 : decode cL_act 127 = .ok (.bipush 100, 2) := by decide +kernel
theorem dL_act_129 : decode cL_act 129 = .ok (.invokestatic 18, 3) := by decide +kernel
theorem dL_act_132 : decode cL_act 132 = .ok (.invokevirtual 63, 3) := by decide +kernel
theorem dL_act_135 : decode cL_act 135 = .ok (.if_icmp .ne 7, 3) := by decide +kernel
theorem dL_act_138 : decode cL_act 138 = .ok (.iconst 1, 1) := by decide +kernel
theorem dL_act_139 : decode cL_act 139 = .ok (.goto 4, 3) := by decide +kernel
theorem dL_act_142 : decode cL_act 142 = .ok (.iconst 0, 1) := by decide +kernel
theorem dL_act_143 : decode cL_act 143 = .ok (.ireturn, 1) := by decide +kernel
theorem dL_act_144 : decode cL_act 144 = .ok (.bipush 100, 2) := by decide +kernel
theorem dL_act_146 : decode cL_act 146 = .ok (.aload_n 1, 1) := by decide +kernel
theorem dL_act_147 : decode cL_act 147 = .ok (.getfield 35, 3) := by decide +kernel
theorem dL_act_150 : decode cL_act 150 = .ok (.iload 4, 2) := by decide +kernel
theorem dL_act_152 : decode cL_act 152 = .ok (.aaload, 1) := by decide +kernel
theorem dL_act_153 : decode cL_act 153 = .ok (.getfield 64, 3) := by decide +kernel
theorem dL_act_156 : decode cL_act 156 = .ok (.imul, 1) := by decide +kernel
theorem dL_act_157 : decode cL_act 157 = .ok (.aload_n 1, 1) := by decide +kernel
theorem dL_act_158 : decode cL_act 158 = .ok (.getfield 35, 3) := by decide +kernel
theorem dL_act_161 : decode cL_act 161 = .ok (.iload 4, 2) := by decide +kernel
theorem dL_act_163 : decode cL_act 163 = .ok (.aaload, 1) := by decide +kernel
theorem dL_act_164 : decode cL_act 164 = .ok (.getfield 67, 3) := by decide +kernel
theorem dL_act_167 : decode cL_act 167 = .ok (.iadd, 1) := by decide +kernel
theorem dL_act_168 : decode cL_act 168 = .ok (.istore 5, 2) := by decide +kernel
theorem dL_act_170 : decode cL_act 170 = .ok (.aload_n 1, 1) := by decide +kernel
theorem dL_act_171 : decode cL_act 171 = .ok (.getfield 35, 3) := by decide +kernel
theorem dL_act_174 : decode cL_act 174 = .ok (.iload 4, 2) := by decide +kernel
theorem dL_act_176 : decode cL_act 176 = .ok (.aaload, 1) := by decide +kernel
theorem dL_act_177 : decode cL_act 177 = .ok (.iload_n 2, 1) := by decide +kernel
theorem dL_act_178 : decode cL_act 178 = .ok (.iconst 3, 1) := by decide +kernel
theorem dL_act_179 : decode cL_act 179 = .ok (.ishr, 1) := by decide +kernel
theorem dL_act_180 : decode cL_act 180 = .ok (.iconst 4, 1) := by decide +kernel
theorem dL_act_181 : decode cL_act 181 = .ok (.invokestatic 18, 3) := by decide +kernel
theorem dL_act_184 : decode cL_act 184 = .ok (.putfield 64, 3) := by decide +kernel
theorem dL_act_187 : decode cL_act 187 = .ok (.aload_n 1, 1) := by decide +kernel
theorem dL_act_188 : decode cL_act 188 = .ok (.getfield 35, 3) := by decide +kernel
theorem dL_act_191 : decode cL_act 191 = .ok (.iload 4, 2) := by decide +kernel
theorem dL_act_193 : decode cL_act 193 = .ok (.aaload, 1) := by decide +kernel
theorem dL_act_194 : decode cL_act 194 = .ok (.iconst 1, 1) := by decide +kernel
theorem dL_act_195 : decode cL_act 195 = .ok (.iload_n 2, 1) := by decide +kernel
theorem dL_act_196 : decode cL_act 196 = .ok (.iconst 5, 1) := by decide +kernel
theorem dL_act_197 : decode cL_act 197 = .ok (.ishr, 1) := by decide +kernel
theorem dL_act_198 : decode cL_act 198 = .ok (.bipush 20, 2) := by decide +kernel
theorem dL_act_200 : decode cL_act 200 = .ok (.invokestatic 18, 3) := by decide +kernel
theorem dL_act_203 : decode cL_act 203 = .ok (.iadd, 1) := by decide +kernel
theorem dL_act_204 : decode cL_act 204 = .ok (.putfield 67, 3) := by decide +kernel
theorem dL_act_207 : decode cL_act 207 = .ok (.aload_n 0, 1) := by decide +kernel
theorem dL_act_208 : decode cL_act 208 = .ok (.iload 4, 2) := by decide +kernel
theorem dL_act_210 : decode cL_act 210 = .ok (.aload_n 1, 1) := by decide +kernel
theorem dL_act_211 : decode cL_act 211 = .ok (.getfield 35, 3) := by decide +kernel
theorem dL_act_214 : decode cL_act 214 = .ok (.iload 4, 2) := by decide +kernel
theorem dL_act_216 : decode cL_act 216 = .ok (.aaload, 1) := by decide +kernel
theorem dL_act_217 : decode cL_act 217 = .ok (.getfield 64, 3) := by decide +kernel
theorem dL_act_220 : decode cL_act 220 = .ok (.aload_n 1, 1) := by decide +kernel
theorem dL_act_221 : decode cL_act 221 = .ok (.getfield 35, 3) := by decide +kernel
theorem dL_act_224 : decode cL_act 224 = .ok (.iload 4, 2) := by decide +kernel
theorem dL_act_226 : decode cL_act 226 = .ok (.aaload, 1) := by decide +kernel
theorem dL_act_227 : decode cL_act 227 = .ok (.getfield 67, 3) := by decide +kernel
theorem dL_act_230 : decode cL_act 230 = .ok (.invokevirtual 70, 3) := by decide +kernel
theorem dL_act_233 : decode cL_act 233 = .ok (.iload 5, 2) := by decide +kernel
theorem dL_act_235 : decode cL_act 235 = .ok (.if_icmp .ne 7, 3) := by decide +kernel
theorem dL_act_238 : decode cL_act 238 = .ok (.iconst 1, 1) := by decide +kernel
theorem dL_act_239 : decode cL_act 239 = .ok (.goto 4, 3) := by decide +kernel
theorem dL_act_242 : decode cL_act 242 = .ok (.iconst 0, 1) := by decide +kernel
theorem dL_act_243 : decode cL_act 243 = .ok (.ireturn, 1) := by decide +kernel
theorem dL_act_244 : decode cL_act 244 = .ok (.aload_n 0, 1) := by decide +kernel
theorem dL_act_245 : decode cL_act 245 = .ok (.aload_n 1, 1) := by decide +kernel
theorem dL_act_246 : decode cL_act 246 = .ok (.iload 4, 2) := by decide +kernel
theorem dL_act_248 : decode cL_act 248 = .ok (.iload_n 2, 1) := by decide +kernel
theorem dL_act_249 : decode cL_act 249 = .ok (.iconst 3, 1) := by decide +kernel
theorem dL_act_250 : decode cL_act 250 = .ok (.ishr, 1) := by decide +kernel
theorem dL_act_251 : decode cL_act 251 = .ok (.iload_n 3, 1) := by decide +kernel
theorem dL_act_252 : decode cL_act 252 = .ok (.invokestatic 18, 3) := by decide +kernel
theorem dL_act_255 : decode cL_act 255 = .ok (.iconst 1, 1) := by decide +kernel
theorem dL_act_256 : decode cL_act 256 = .ok (.iload_n 2, 1) := by decide +kernel
theorem dL_act_257 : decode cL_act 257 = .ok (.iconst 5, 1) := by decide +kernel
theorem dL_act_258 : decode cL_act 258 = .ok (.ishr, 1) := by decide +kernel
theorem dL_act_259 : decode cL_act 259 = .ok (.iconst 5, 1) := by decide +kernel
theorem dL_act_260 : decode cL_act 260 = .ok (.invokestatic 18, 3) := by decide +kernel
theorem dL_act_263 : decode cL_act 263 = .ok (.iadd, 1) := by decide +kernel
theorem dL_act_264 : decode cL_act 264 = .ok (.invokestatic 31, 3) := by decide +kernel
theorem dL_act_267 : decode cL_act 267 = .ok (.ireturn, 1) := by decide +kernel
set_option maxRecDepth 20000 in
theorem ggL_law_X3_init : GoodIn wsL_law wsX3_init := goodIn_r _ [8, 9, 10, 11, 12, 13, 14, 15, 16, 17, 18, 19, 20, 21, 22, 23, 24, 25, 26, 27, 28, 29, 30, 31, 32, 5, 33, 34, 35, 36, 37, 38, 39, 40, 41, 42, 43, 44, 45, 415, 416, 417, 418, 419, 409, 410, 420, 421, 422, 423, 424, 425, 426, 427, 428, 429, 430, 431, 432, 433, 434, 435, 436, 437, 438, 439, 440] (by decide +kernel) (by decide +kernel)
set_option maxRecDepth 20000 in
theorem gL_law_X3_init : GoodIn wsL_law (wsX3_init) := ggL_law_X3_init
set_option maxRecDepth 20000 in
theorem ggL_law_L_build : GoodIn wsL_law wsL_build := goodIn_ca (goodIn_ca (goodIn_ca (goodIn_r _ [49, 50, 51, 52, 53, 54, 55, 10, 11, 56, 57, 58, 59, 60, 61, 48, 62, 63, 64, 65, 66, 67, 68, 69, 70, 2, 71, 72, 73, 74, 75, 15, 76, 77, 78, 79, 80, 81, 82, 83, 84, 85, 86, 87, 88, 14, 89, 90, 22, 91, 92, 93, 94, 95, 96, 97, 98, 99, 100, 101, 102, 103, 104, 105, 106, 107, 108, 109, 110, 111, 3, 112, 113, 5, 114, 115, 116, 117, 118, 119, 120, 121, 122, 123, 124, 125, 126, 127, 128, 129, 130, 131, 132, 29, 133, 134, 41, 135, 136, 137, 138, 42, 43, 411, 412, 413, 414, 409, 410, 415, 416, 417, 418, 419, 427, 428, 429, 430, 431, 432, 433, 434, 435, 436, 437, 438, 439, 440, 441, 442, 443, 444, 445, 446, 447, 448, 449] (by decide +kernel) (by decide +kernel)) (goodIn_sub (fun _ h => List.mem_append_left _ (List.mem_append_left _ (List.mem_append_right _ h))) (by decide +kernel))) (goodIn_sub (fun _ h => List.mem_append_left _ (List.mem_append_right _ h)) (by decide +kernel))) (goodIn_sub (fun _ h => List.mem_append_right _ h) (by decide +kernel))
set_option maxRecDepth 20000 in
theorem gL_law_L_build : GoodIn wsL_law (va_wsS RL 74 yL_build wsL_build) := goodIn_app (goodIn_of _ (by decide +kernel)) ggL_law_L_build
set_option maxRecDepth 20000 in
theorem ggL_law_L_cell : GoodIn wsL_law wsL_cell := goodIn_r _ [62, 63] (by decide +kernel) (by decide +kernel)
set_option maxRecDepth 20000 in
theorem gL_law_L_cell : GoodIn wsL_law (va_wsS RL 12 yL_cell wsL_cell) := goodIn_app (goodIn_of _ (by decide +kernel)) ggL_law_L_cell
set_option maxRecDepth 20000 in
theorem ggL_law_L_below : GoodIn wsL_law wsL_below := goodIn_r _ [66, 67] (by decide +kernel) (by decide +kernel)
set_option maxRecDepth 20000 in
theorem gL_law_L_below : GoodIn wsL_law (va_wsS RL 18 yL_below wsL_below) := goodIn_app (goodIn_of _ (by decide +kernel)) ggL_law_L_below
set_option maxRecDepth 20000 in
theorem ggL_law_X3_would : GoodIn wsL_law wsX3_would := goodIn_ca (goodIn_ca (goodIn_r _ [142, 121, 122, 72, 73, 15, 126, 127, 128, 14, 129, 90, 77, 78, 2, 79, 143, 144, 145, 146, 16, 123, 147, 148, 149, 150, 151, 152, 22, 26, 153, 154, 155, 29, 156, 157, 158, 159, 160, 161, 162, 163, 134, 41, 164, 165, 166, 167, 42, 43, 168, 44, 45, 169, 170, 171, 25, 172, 173, 174, 33, 175, 34, 35, 36, 37, 176, 177, 178, 179, 180, 91, 181, 182, 183, 184, 185, 186, 187, 188, 189, 190, 191, 192, 193, 194, 195, 196, 197, 198, 199, 200, 201, 202, 203, 204, 27, 205, 206, 207, 208, 209, 210, 211, 212, 213, 214, 215, 216, 217, 218, 219, 220, 221, 222, 223, 224, 225, 226, 227, 228, 229, 230, 231, 131, 132, 133, 232, 233, 234, 235, 236, 237, 238, 239, 240, 241, 242, 243, 244, 245, 246, 247, 248, 249, 250, 251, 252, 253, 254, 255, 256, 257, 258, 259, 260, 261, 262, 263, 264, 265, 266, 267, 268, 269, 270, 271, 272, 409, 410, 415, 416, 417, 418, 419, 427, 428, 429, 430, 431, 432, 433, 434, 435, 436, 437, 438, 439, 440, 420, 421, 422, 423, 424, 425, 426] (by decide +kernel) (by decide +kernel)) (goodIn_sub (fun _ h => List.mem_append_right _ h) (by decide +kernel))) (goodIn_sub (fun _ h => List.mem_append_left _ (List.mem_append_left _ (List.mem_append_right _ h))) (by decide +kernel))
set_option maxRecDepth 20000 in
theorem gL_law_X3_would : GoodIn wsL_law (wsV RL 77 RX3 yX3_would wsX3_would) := goodIn_app (goodIn_of _ (by decide +kernel)) ggL_law_X3_would
set_option maxRecDepth 20000 in
theorem ggL_law_L_act : GoodIn wsL_law wsL_act := goodIn_ca (goodIn_ca (goodIn_ca (goodIn_r _ [275, 3, 276, 277, 278, 64, 65, 48, 66, 67, 279, 280, 281, 2, 282, 121, 122, 72, 73, 15, 126, 127, 128, 14, 129, 90, 77, 78, 79, 176, 177, 178, 179, 22, 180, 91, 181, 182, 183, 184, 29, 185, 160, 161, 163, 186, 187, 188, 189, 190, 26, 191, 192, 193, 194, 195, 196, 158, 197, 198, 199, 25, 200, 173, 174, 33, 34, 35, 36, 37, 283, 284, 285, 52, 286, 57, 287, 100, 288, 289, 290, 291, 292, 293, 294, 295, 296, 297, 298, 101, 58, 299, 300, 301, 302, 303, 304, 59, 5, 305, 306, 115, 116, 307, 308, 309, 310, 123, 311, 312, 83, 84, 85, 80, 81, 82, 109, 110, 111, 112, 113, 114, 117, 118, 119, 120, 74, 75, 124, 125, 130, 131, 132, 133, 134, 41, 135, 136, 137, 138, 42, 43, 411, 412, 413, 414, 441, 442, 443, 444, 445, 446, 447, 448, 449, 409, 410, 415, 416, 417, 418, 419, 427, 428, 429, 430, 431, 432, 433, 434, 435, 436, 437, 438, 439, 440, 420, 421, 422, 423, 424, 425, 426] (by decide +kernel) (by decide +kernel)) (goodIn_sub (fun _ h => List.mem_append_right _ h) (by decide +kernel))) (goodIn_sub (fun _ h => List.mem_append_left _ (List.mem_append_left _ (List.mem_append_right _ h))) (by decide +kernel))) (goodIn_sub (fun _ h => List.mem_append_left _ (List.mem_append_right _ h)) (by decide +kernel))
set_option maxRecDepth 20000 in
theorem gL_law_L_act : GoodIn wsL_law (va_wsS RL 80 yL_act wsL_act) := goodIn_app (goodIn_of _ (by decide +kernel)) ggL_law_L_act
set_option maxRecDepth 20000 in
theorem ggL_law_X3_door : GoodIn wsL_law wsX3_door := goodIn_ca (goodIn_r _ [316, 121, 122, 15, 123, 126, 127, 128, 14, 129, 90, 77, 78, 2, 79, 317, 318, 319, 29, 320, 160, 161, 159, 134, 168, 162, 163, 248, 249, 250, 251, 43, 409, 410, 415, 416, 417, 418, 419, 427, 428, 429, 430, 431, 432, 433, 434, 435, 436, 437, 438, 439, 440] (by decide +kernel) (by decide +kernel)) (goodIn_sub (fun _ h => List.mem_append_right _ h) (by decide +kernel))
set_option maxRecDepth 20000 in
theorem gL_law_X3_door : GoodIn wsL_law (wsV RL 85 RX3 yX3_door wsX3_door) := goodIn_app (goodIn_of _ (by decide +kernel)) ggL_law_X3_door
set_option maxRecDepth 20000 in
theorem ggL_law_X3_count : GoodIn wsL_law wsX3_count := goodIn_ca (goodIn_r _ [324, 121, 122, 15, 77, 78, 2, 79, 325, 326, 327, 14, 328, 152, 90, 26, 205, 329, 330, 331, 332, 333, 22, 180, 334, 270, 271, 272, 409, 410, 415, 416, 417, 418, 419, 420, 421, 422, 423, 424, 425, 426, 427, 428, 429, 430, 431, 432, 433, 434, 435, 436, 437, 438, 439, 440] (by decide +kernel) (by decide +kernel)) (goodIn_sub (fun _ h => List.mem_append_right _ h) (by decide +kernel))
set_option maxRecDepth 20000 in
theorem gL_law_X3_count : GoodIn wsL_law (wsV RL 88 RX3 yX3_count wsX3_count) := goodIn_app (goodIn_of _ (by decide +kernel)) ggL_law_X3_count
set_option maxRecDepth 20000 in
theorem ggL_law_X3_opens : GoodIn wsL_law wsX3_opens := goodIn_ca (goodIn_r _ [338, 121, 122, 15, 123, 124, 16, 126, 127, 128, 14, 129, 90, 148, 149, 150, 151, 152, 22, 26, 153, 154, 155, 29, 156, 157, 158, 159, 160, 161, 162, 163, 134, 41, 164, 165, 166, 167, 42, 43, 168, 44, 45, 169, 170, 171, 25, 172, 173, 174, 33, 175, 34, 35, 36, 37, 201, 202, 203, 204, 27, 205, 206, 207, 208, 209, 180, 210, 211, 212, 213, 214, 215, 216, 217, 218, 198, 199, 200, 219, 220, 221, 222, 223, 224, 225, 226, 181, 227, 228, 229, 230, 231, 131, 132, 133, 197, 186, 187, 188, 189, 190, 191, 192, 193, 194, 195, 196, 232, 233, 234, 235, 236, 237, 238, 239, 240, 241, 242, 243, 244, 245, 246, 247, 248, 249, 250, 251, 252, 253, 254, 255, 256, 257, 258, 259, 260, 261, 262, 263, 264, 183, 184, 185, 265, 266, 267, 268, 409, 410, 415, 416, 417, 418, 419, 427, 428, 429, 430, 431, 432, 433, 434, 435, 436, 437, 438, 439, 440, 420, 421, 422, 423, 424, 425, 426] (by decide +kernel) (by decide +kernel)) (goodIn_sub (fun _ h => List.mem_append_right _ h) (by decide +kernel))
set_option maxRecDepth 20000 in
theorem gL_law_X3_opens : GoodIn wsL_law (wsV RL 92 RX3 yX3_opens wsX3_opens) := goodIn_app (goodIn_of _ (by decide +kernel)) ggL_law_X3_opens
set_option maxRecDepth 20000 in
theorem ggL_law_X3_pass : GoodIn wsL_law wsX3_pass := goodIn_ca (goodIn_r _ [342, 72, 73, 15, 77, 78, 2, 79, 201, 202, 203, 14, 204, 90, 22, 26, 27, 205, 206, 207, 208, 209, 180, 152, 210, 211, 212, 29, 213, 160, 161, 214, 215, 216, 25, 217, 173, 36, 33, 34, 35, 37, 218, 198, 199, 200, 174, 219, 220, 221, 222, 223, 224, 225, 226, 181, 127, 128, 129, 227, 228, 229, 230, 43, 231, 131, 132, 133, 134, 41, 197, 186, 187, 188, 189, 190, 191, 192, 193, 194, 195, 196, 158, 232, 233, 234, 235, 168, 44, 45, 236, 237, 238, 239, 240, 241, 242, 243, 244, 245, 246, 247, 248, 249, 250, 251, 252, 253, 254, 255, 256, 257, 258, 259, 159, 260, 261, 262, 263, 162, 264, 183, 184, 185, 163, 265, 266, 267, 268, 409, 410, 415, 416, 417, 418, 419, 420, 421, 422, 423, 424, 425, 426, 427, 428, 429, 430, 431, 432, 433, 434, 435, 436, 437, 438, 439, 440] (by decide +kernel) (by decide +kernel)) (goodIn_sub (fun _ h => List.mem_append_left _ (List.mem_append_left _ (List.mem_append_right _ h))) (by decide +kernel))
set_option maxRecDepth 20000 in
theorem gL_law_X3_pass : GoodIn wsL_law (wsV RL 95 RX3 yX3_pass wsX3_pass) := goodIn_app (goodIn_of _ (by decide +kernel)) ggL_law_X3_pass
set_option maxRecDepth 20000 in
theorem ggL_law_X5_pass : GoodIn wsL_law wsX5_pass := goodIn_r _ [346, 57, 287, 292, 58, 59, 300, 102, 299, 347, 306, 115, 52, 116, 348, 349, 350, 351, 5, 301, 302, 303, 304, 305, 295, 296, 297, 298, 101, 352, 353, 354, 99, 355, 107, 356, 288, 289, 290, 291, 293, 294, 411, 412, 413, 414, 441, 442, 443, 444, 445, 446, 447, 448, 449] (by decide +kernel) (by decide +kernel)
set_option maxRecDepth 20000 in
theorem gL_law_X5_pass : GoodIn wsL_law (wsV RL 98 RX5 yX5_pass wsX5_pass) := goodIn_app (goodIn_of _ (by decide +kernel)) ggL_law_X5_pass
set_option maxRecDepth 20000 in
theorem ggL_law_X3_asks : GoodIn wsL_law wsX3_asks := goodIn_ca (goodIn_r _ [360, 121, 122, 15, 123, 125, 126, 127, 128, 14, 129, 90, 77, 78, 2, 79, 361, 362, 363, 29, 364, 134, 41, 42, 43, 409, 410, 415, 416, 417, 418, 419, 427, 428, 429, 430, 431, 432, 433, 434, 435, 436, 437, 438, 439, 440] (by decide +kernel) (by decide +kernel)) (goodIn_sub (fun _ h => List.mem_append_right _ h) (by decide +kernel))
set_option maxRecDepth 20000 in
theorem gL_law_X3_asks : GoodIn wsL_law (wsV RL 101 RX3 yX3_asks wsX3_asks) := goodIn_app (goodIn_of _ (by decide +kernel)) ggL_law_X3_asks
set_option maxRecDepth 20000 in
theorem ggL_law_X3_reach : GoodIn wsL_law wsX3_reach := goodIn_ca (goodIn_r _ [368, 121, 122, 15, 126, 127, 128, 14, 129, 90, 369, 370, 371, 372, 373, 374, 375, 376, 22, 190, 191, 181, 409, 410, 415, 416, 417, 418, 419, 427, 428, 429, 430, 431, 432, 433, 434, 435, 436, 437, 438, 439, 440] (by decide +kernel) (by decide +kernel)) (goodIn_sub (fun _ h => List.mem_append_right _ h) (by decide +kernel))
set_option maxRecDepth 20000 in
theorem gL_law_X3_reach : GoodIn wsL_law (wsV RL 103 RX3 yX3_reach wsX3_reach) := goodIn_app (goodIn_of _ (by decide +kernel)) ggL_law_X3_reach
set_option maxRecDepth 20000 in
theorem ggL_law_X3_voice : GoodIn wsL_law wsX3_voice := goodIn_ca (goodIn_r _ [380, 121, 122, 15, 381, 382, 77, 78, 2, 79, 383, 384, 385, 25, 386, 173, 33, 34, 35, 36, 409, 410, 415, 416, 417, 418, 419, 420, 421, 422, 423, 424, 425, 426] (by decide +kernel) (by decide +kernel)) (goodIn_sub (fun _ h => List.mem_append_right _ h) (by decide +kernel))
set_option maxRecDepth 20000 in
theorem gL_law_X3_voice : GoodIn wsL_law (wsV RL 106 RX3 yX3_voice wsX3_voice) := goodIn_app (goodIn_of _ (by decide +kernel)) ggL_law_X3_voice
set_option maxRecDepth 20000 in
theorem ggL_law_X5_isSame : GoodIn wsL_law wsX5_isSame := goodIn_ca (goodIn_r _ [390, 57, 5, 287, 292, 102, 300, 299, 293, 294, 59, 347, 305, 352, 353, 354, 99, 355, 107, 356, 391, 314, 315, 2, 316, 121, 122, 15, 123, 126, 127, 128, 14, 129, 90, 77, 78, 79, 317, 318, 319, 29, 320, 160, 161, 159, 134, 168, 162, 163, 248, 249, 250, 251, 43, 392, 358, 359, 360, 125, 361, 362, 363, 364, 41, 42, 393, 378, 379, 380, 381, 382, 383, 384, 385, 25, 386, 173, 33, 34, 35, 36, 394, 395, 396, 52, 397, 398, 399, 400, 401, 402, 322, 323, 324, 325, 326, 327, 328, 152, 26, 205, 329, 330, 331, 332, 333, 22, 180, 334, 270, 271, 272, 403, 404, 405, 406, 76, 407, 408, 411, 412, 413, 414, 441, 442, 443, 444, 445, 446, 447, 448, 449, 409, 410, 415, 416, 417, 418, 419, 427, 428, 429, 430, 431, 432, 433, 434, 435, 436, 437, 438, 439, 440, 420, 421, 422, 423, 424, 425, 426] (by decide +kernel) (by decide +kernel)) (goodIn_sub (fun _ h => List.mem_append_right _ h) (by decide +kernel))
set_option maxRecDepth 20000 in
theorem gL_law_X5_isSame : GoodIn wsL_law (wsV RL 109 RX5 yX5_isSame wsX5_isSame) := goodIn_app (goodIn_of _ (by decide +kernel)) ggL_law_X5_isSame
theorem dL_law_0 : decode cL_law 0 = .ok (.new 23, 3) := by decide +kernel
theorem dL_law_3 : decode cL_law 3 = .ok (.dup, 1) := by decide +kernel
theorem dL_law_4 : decode cL_law 4 = .ok (.invokespecial 73, 3) := by decide +kernel
theorem dL_law_7 : decode cL_law 7 = .ok (.astore_n 1, 1) := by decide +kernel
theorem dL_law_8 : decode cL_law 8 = .ok (.aload_n 1, 1) := by decide +kernel
theorem dL_law_9 : decode cL_law 9 = .ok (.aload_n 0, 1) := by decide +kernel
theorem dL_law_10 : decode cL_law 10 = .ok (.invokestatic 74, 3) := by decide +kernel
theorem dL_law_13 : decode cL_law 13 = .ok (.astore_n 2, 1) := by decide +kernel
theorem dL_law_14 : decode cL_law 14 = .ok (.aload_n 2, 1) := by decide +kernel
theorem dL_law_15 : decode cL_law 15 = .ok (.ifnonnull 5, 3) := by decide +kernel
theorem dL_law_18 : decode cL_law 18 = .ok (.iconst 0, 1) := by decide +kernel
theorem dL_law_19 : decode cL_law 19 = .ok (.ireturn, 1) := by decide +kernel
theorem dL_law_20 : decode cL_law 20 = .ok (.aload_n 2, 1) := by decide +kernel
theorem dL_law_21 : decode cL_law 21 = .ok (.getfield 35, 3) := by decide +kernel
theorem dL_law_24 : decode cL_law 24 = .ok (.arraylength, 1) := by decide +kernel
theorem dL_law_25 : decode cL_law 25 = .ok (.istore_n 3, 1) := by decide +kernel
theorem dL_law_26 : decode cL_law 26 = .ok (.iconst 0, 1) := by decide +kernel
theorem dL_law_27 : decode cL_law 27 = .ok (.istore 4, 2) := by decide +kernel
theorem dL_law_29 : decode cL_law 29 = .ok (.iload 4, 2) := by decide +kernel
theorem dL_law_31 : decode cL_law 31 = .ok (.bipush 50, 2) := by decide +kernel
theorem dL_law_33 : decode cL_law 33 = .ok (.if_icmp .ge 1023, 3) := by decide +kernel
theorem dL_law_36 : decode cL_law 36 = .ok (.aload_n 0, 1) := by decide +kernel
theorem dL_law_37 : decode cL_law 37 = .ok (.iload 4, 2) := by decide +kernel
theorem dL_law_39 : decode cL_law 39 = .ok (.bipush 16, 2) := by decide +kernel
theorem dL_law_41 : decode cL_law 41 = .ok (.irem, 1) := by decide +kernel
theorem dL_law_42 : decode cL_law 42 = .ok (.invokestatic 12, 3) := by decide +kernel
theorem dL_law_45 : decode cL_law 45 = .ok (.iload 4, 2) := by decide +kernel
theorem dL_law_47 : decode cL_law 47 = .ok (.bipush 16, 2) := by decide +kernel
theorem dL_law_49 : decode cL_law 49 = .ok (.idiv, 1) := by decide +kernel
theorem dL_law_50 : decode cL_law 50 = .ok (.iconst 3, 1) := by decide +kernel
theorem dL_law_51 : decode cL_law 51 = .ok (.imul, 1) := by decide +kernel
theorem dL_law_52 : decode cL_law 52 = .ok (.ishr, 1) := by decide +kernel
theorem dL_law_53 : decode cL_law 53 = .ok (.bipush 89, 2) := by decide +kernel
theorem dL_law_55 : decode cL_law 55 = .ok (.iload 4, 2) := by decide +kernel
theorem dL_law_57 : decode cL_law 57 = .ok (.imul, 1) := by decide +kernel
theorem dL_law_58 : decode cL_law 58 = .ok (.iadd, 1) := by decide +kernel
theorem dL_law_59 : decode cL_law 59 = .ok (.istore 5, 2) := by decide +kernel
theorem dL_law_61 : decode cL_law 61 = .ok (.iload 5, 2) := by decide +kernel
theorem dL_law_63 : decode cL_law 63 = .ok (.iload_n 3, 1) := by decide +kernel
theorem dL_law_64 : decode cL_law 64 = .ok (.invokestatic 18, 3) := by decide +kernel
theorem dL_law_67 : decode cL_law 67 = .ok (.istore 6, 2) := by decide +kernel
theorem dL_law_69 : decode cL_law 69 = .ok (.iload 5, 2) := by decide +kernel
theorem dL_law_71 : decode cL_law 71 = .ok (.bipush 8, 2) := by decide +kernel
theorem dL_law_73 : decode cL_law 73 = .ok (.ishr, 1) := by decide +kernel
theorem dL_law_74 : decode cL_law 74 = .ok (.bipush 6, 2) := by decide +kernel
theorem dL_law_76 : decode cL_law 76 = .ok (.invokestatic 18, 3) := by decide +kernel
theorem dL_law_79 : decode cL_law 79 = .ok (.iconst 3, 1) := by decide +kernel
theorem dL_law_80 : decode cL_law 80 = .ok (.if_icmp .ge 7, 3) := by decide +kernel
theorem dL_law_83 : decode cL_law 83 = .ok (.iconst 1, 1) := by decide +kernel
theorem dL_law_84 : decode cL_law 84 = .ok (.goto 4, 3) := by decide +kernel
theorem dL_law_87 : decode cL_law 87 = .ok (.iconst 0, 1) := by decide +kernel
theorem dL_law_88 : decode cL_law 88 = .ok (.istore 7, 2) := by decide +kernel
theorem dL_law_90 : decode cL_law 90 = .ok (.aload_n 1, 1) := by decide +kernel
theorem dL_law_91 : decode cL_law 91 = .ok (.iload 6, 2) := by decide +kernel
theorem dL_law_93 : decode cL_law 93 = .ok (.iconst 1, 1) := by decide +kernel
theorem dL_law_94 : decode cL_law 94 = .ok (.invokevirtual 77, 3) := by decide +kernel
theorem dL_law_97 : decode cL_law 97 = .ok (.istore 8, 2) := by decide +kernel
theorem dL_law_99 : decode cL_law 99 = .ok (.aload_n 1, 1) := by decide +kernel
theorem dL_law_100 : decode cL_law 100 = .ok (.aload_n 2, 1) := by decide +kernel
theorem dL_law_101 : decode cL_law 101 = .ok (.iload 5, 2) := by decide +kernel
theorem dL_law_103 : decode cL_law 103 = .ok (.invokestatic 80, 3) := by decide +kernel
theorem dL_law_106 : decode cL_law 106 = .ok (.ifCond .ne 5, 3) := by decide +kernel
theorem dL_law_109 : decode cL_law 109 = .ok (.iconst 0, 1) := by decide +kernel
theorem dL_law_110 : decode cL_law 110 = .ok (.ireturn, 1) := by decide +kernel
theorem dL_law_111 : decode cL_law 111 = .ok (.iload_n 3, 1) := by decide +kernel
theorem dL_law_112 : decode cL_law 112 = .ok (.bipush 9, 2) := by decide +kernel
theorem dL_law_114 : decode cL_law 114 = .ok (.multianewarray 84 2, 4) := by decide +kernel
theorem dL_law_118 : decode cL_law 118 = .ok (.astore 9, 2) := by decide +kernel
theorem dL_law_120 : decode cL_law 120 = .ok (.iconst 0, 1) := by decide +kernel
theorem dL_law_121 : decode cL_law 121 = .ok (.istore 10, 2) := by decide +kernel
theorem dL_law_123 : decode cL_law 123 = .ok (.iload 10, 2) := by decide +kernel
theorem dL_law_125 : decode cL_law 125 = .ok (.iload_n 3, 1) := by decide +kernel
theorem dL_law_126 : decode cL_law 126 = .ok (.if_icmp .ge 41, 3) := by decide +kernel
theorem dL_law_129 : decode cL_law 129 = .ok (.iconst 0, 1) := by decide +kernel
theorem dL_law_130 : decode cL_law 130 = .ok (.istore 11, 2) := by decide +kernel
theorem dL_law_132 : decode cL_law 132 = .ok (.iload 11, 2) := by decide +kernel
theorem dL_law_134 : decode cL_law 134 = .ok (.bipush 9, 2) := by decide +kernel
theorem dL_law_136 : decode cL_law 136 = .ok (.if_icmp .ge 25, 3) := by decide +kernel
theorem dL_law_139 : decode cL_law 139 = .ok (.aload 9, 2) := by decide +kernel
theorem dL_law_141 : decode cL_law 141 = .ok (.iload 10, 2) := by decide +kernel
theorem dL_law_143 : decode cL_law 143 = .ok (.aaload, 1) := by decide +kernel
theorem dL_law_144 : decode cL_law 144 = .ok (.iload 11, 2) := by decide +kernel
theorem dL_law_146 : decode cL_law 146 = .ok (.aload_n 1, 1) := by decide +kernel
theorem dL_law_147 : decode cL_law 147 = .ok (.iload 10, 2) := by decide +kernel
theorem dL_law_149 : decode cL_law 149 = .ok (.iload 11, 2) := by decide +kernel
theorem dL_law_151 : decode cL_law 151 = .ok (.invokevirtual 85, 3) := by decide +kernel
theorem dL_law_154 : decode cL_law 154 = .ok (.iastore, 1) := by decide +kernel
theorem dL_law_155 : decode cL_law 155 = .ok (.iinc 11 1, 3) := by decide +kernel
theorem dL_law_158 : decode cL_law 158 = .ok (.goto (-26), 3) := by decide +kernel
theorem dL_law_161 : decode cL_law 161 = .ok (.iinc 10 1, 3) := by decide +kernel
theorem dL_law_164 : decode cL_law 164 = .ok (.goto (-41), 3) := by decide +kernel
theorem dL_law_167 : decode cL_law 167 = .ok (.aload_n 1, 1) := by decide +kernel
theorem dL_law_168 : decode cL_law 168 = .ok (.bipush 7, 2) := by decide +kernel
theorem dL_law_170 : decode cL_law 170 = .ok (.invokevirtual 88, 3) := by decide +kernel
theorem dL_law_173 : decode cL_law 173 = .ok (.istore 10, 2) := by decide +kernel
theorem dL_law_175 : decode cL_law 175 = .ok (.aload_n 1, 1) := by decide +kernel
theorem dL_law_176 : decode cL_law 176 = .ok (.iload 6, 2) := by decide +kernel
theorem dL_law_178 : decode cL_law 178 = .ok (.invokevirtual 92, 3) := by decide +kernel
theorem dL_law_181 : decode cL_law 181 = .ok (.istore 11, 2) := by decide +kernel
theorem dL_law_183 : decode cL_law 183 = .ok (.aload_n 1, 1) := by decide +kernel
theorem dL_law_184 : decode cL_law 184 = .ok (.iconst 1, 1) := by decide +kernel
theorem dL_law_185 : decode cL_law 185 = .ok (.invokevirtual 95, 3) := by decide +kernel
theorem dL_law_188 : decode cL_law 188 = .ok (.istore 12, 2) := by decide +kernel
theorem dL_law_190 : decode cL_law 190 = .ok (.aload_n 2, 1) := by decide +kernel
theorem dL_law_191 : decode cL_law 191 = .ok (.invokevirtual 98, 3) := by decide +kernel
theorem dL_law_194 : decode cL_law 194 = .ok (.pop, 1) := by decide +kernel
theorem dL_law_195 : decode cL_law 195 = .ok (.iload 7, 2) := by decide +kernel
theorem dL_law_197 : decode cL_law 197 = .ok (.ifCond .eq 14, 3) := by decide +kernel
theorem dL_law_200 : decode cL_law 200 = .ok (.aload_n 1, 1) := by decide +kernel
theorem dL_law_201 : decode cL_law 201 = .ok (.bipush 8, 2) := by decide +kernel
theorem dL_law_203 : decode cL_law 203 = .ok (.invokevirtual 88, 3) := by decide +kernel
theorem dL_law_206 : decode cL_law 206 = .ok (.iload 8, 2) := by decide +kernel
theorem dL_law_208 : decode cL_law 208 = .ok (.if_icmp .ne 62, 3) := by decide +kernel
theorem dL_law_211 : decode cL_law 211 = .ok (.iload 11, 2) := by decide +kernel
theorem dL_law_213 : decode cL_law 213 = .ok (.iconst 1, 1) := by decide +kernel
theorem dL_law_214 : decode cL_law 214 = .ok (.if_icmp .le 16, 3) := by decide +kernel
theorem dL_law_217 : decode cL_law 217 = .ok (.aload_n 1, 1) := by decide +kernel
theorem dL_law_218 : decode cL_law 218 = .ok (.iload 6, 2) := by decide +kernel
theorem dL_law_220 : decode cL_law 220 = .ok (.invokevirtual 92, 3) := by decide +kernel
theorem dL_law_223 : decode cL_law 223 = .ok (.iload 11, 2) := by decide +kernel
theorem dL_law_225 : decode cL_law 225 = .ok (.iconst 1, 1) := by decide +kernel
theorem dL_law_226 : decode cL_law 226 = .ok (.isub, 1) := by decide +kernel
theorem dL_law_227 : decode cL_law 227 = .ok (.if_icmp .ne 43, 3) := by decide +kernel
theorem dL_law_230 : decode cL_law 230 = .ok (.iload 11, 2) := by decide +kernel
theorem dL_law_232 : decode cL_law 232 = .ok (.iconst 1, 1) := by decide +kernel
theorem dL_law_233 : decode cL_law 233 = .ok (.if_icmp .ne 14, 3) := by decide +kernel
theorem dL_law_236 : decode cL_law 236 = .ok (.aload_n 1, 1) := by decide +kernel
theorem dL_law_237 : decode cL_law 237 = .ok (.iload 6, 2) := by decide +kernel
theorem dL_law_239 : decode cL_law 239 = .ok (.iconst 0, 1) := by decide +kernel
theorem dL_law_240 : decode cL_law 240 = .ok (.invokevirtual 85, 3) := by decide +kernel
theorem dL_law_243 : decode cL_law 243 = .ok (.iconst 2, 1) := by decide +kernel
theorem dL_law_244 : decode cL_law 244 = .ok (.if_icmp .ne 26, 3) := by decide +kernel
theorem dL_law_247 : decode cL_law 247 = .ok (.aload_n 1, 1) := by decide +kernel
theorem dL_law_248 : decode cL_law 248 = .ok (.bipush 7, 2) := by decide +kernel
theorem dL_law_250 : decode cL_law 250 = .ok (.invokevirtual 88, 3) := by decide +kernel
theorem dL_law_253 : decode cL_law 253 = .ok (.iload 10, 2) := by decide +kernel
theorem dL_law_255 : decode cL_law 255 = .ok (.if_icmp .lt 15, 3) := by decide +kernel
theorem dL_law_258 : decode cL_law 258 = .ok (.aload_n 1, 1) := by decide +kernel
theorem dL_law_259 : decode cL_law 259 = .ok (.iconst 0, 1) := by decide +kernel
theorem dL_law_260 : decode cL_law 260 = .ok (.invokevirtual 88, 3) := by decide +kernel
theorem dL_law_263 : decode cL_law 263 = .ok (.iload 4, 2) := by decide +kernel
theorem dL_law_265 : decode cL_law 265 = .ok (.iconst 1, 1) := by decide +kernel
theorem dL_law_266 : decode cL_law 266 = .ok (.iadd, 1) := by decide +kernel
theorem dL_law_267 : decode cL_law 267 = .ok (.if_icmp .eq 5, 3) := by decide +kernel
theorem dL_law_270 : decode cL_law 270 = .ok (.iconst 0, 1) := by decide +kernel
theorem dL_law_271 : decode cL_law 271 = .ok (.ireturn, 1) := by decide +kernel
theorem dL_law_272 : decode cL_law 272 = .ok (.iconst 0, 1) := by decide +kernel
theorem dL_law_273 : decode cL_law 273 = .ok (.istore 13, 2) := by decide +kernel
theorem dL_law_275 : decode cL_law 275 = .ok (.iconst 4, 1) := by decide +kernel
theorem dL_law_276 : decode cL_law 276 = .ok (.newarray .int, 2) := by decide +kernel
theorem dL_law_278 : decode cL_law 278 = .ok (.astore 14, 2) := by decide +kernel
theorem dL_law_280 : decode cL_law 280 = .ok (.iconst 0, 1) := by decide +kernel
theorem dL_law_281 : decode cL_law 281 = .ok (.istore 15, 2) := by decide +kernel
theorem dL_law_283 : decode cL_law 283 = .ok (.iconst 0, 1) := by decide +kernel
theorem dL_law_284 : decode cL_law 284 = .ok (.istore 16, 2) := by decide +kernel
theorem dL_law_286 : decode cL_law 286 = .ok (.iload 16, 2) := by decide +kernel
theorem dL_law_288 : decode cL_law 288 = .ok (.iload_n 3, 1) := by decide +kernel
theorem dL_law_289 : decode cL_law 289 = .ok (.if_icmp .ge 527, 3) := by decide +kernel
theorem dL_law_292 : decode cL_law 292 = .ok (.aload_n 1, 1) := by decide +kernel
theorem dL_law_293 : decode cL_law 293 = .ok (.iload 16, 2) := by decide +kernel
theorem dL_law_295 : decode cL_law 295 = .ok (.iconst 0, 1) := by decide +kernel
theorem dL_law_296 : decode cL_law 296 = .ok (.invokevirtual 85, 3) := by decide +kernel
theorem dL_law_299 : decode cL_law 299 = .ok (.istore 17, 2) := by decide +kernel
theorem dL_law_301 : decode cL_law 301 = .ok (.aload_n 1, 1) := by decide +kernel
theorem dL_law_302 : decode cL_law 302 = .ok (.iload 16, 2) := by decide +kernel
theorem dL_law_304 : decode cL_law 304 = .ok (.iconst 1, 1) := by decide +kernel
theorem dL_law_305 : decode cL_law 305 = .ok (.invokevirtual 85, 3) := by decide +kernel
theorem dL_law_308 : decode cL_law 308 = .ok (.istore 18, 2) := by decide +kernel
theorem dL_law_310 : decode cL_law 310 = .ok (.aload 9, 2) := by decide +kernel
theorem dL_law_312 : decode cL_law 312 = .ok (.iload 16, 2) := by decide +kernel
theorem dL_law_314 : decode cL_law 314 = .ok (.aaload, 1) := by decide +kernel
theorem dL_law_315 : decode cL_law 315 = .ok (.iconst 0, 1) := by decide +kernel
theorem dL_law_316 : decode cL_law 316 = .ok (.iaload, 1) := by decide +kernel
theorem dL_law_317 : decode cL_law 317 = .ok (.istore 19, 2) := by decide +kernel
theorem dL_law_319 : decode cL_law 319 = .ok (.aload_n 1, 1) := by decide +kernel
theorem dL_law_320 : decode cL_law 320 = .ok (.iload 16, 2) := by decide +kernel
theorem dL_law_322 : decode cL_law 322 = .ok (.bipush 7, 2) := by decide +kernel
theorem dL_law_324 : decode cL_law 324 = .ok (.invokevirtual 85, 3) := by decide +kernel
theorem dL_law_327 : decode cL_law 327 = .ok (.aload 9, 2) := by decide +kernel
theorem dL_law_329 : decode cL_law 329 = .ok (.iload 16, 2) := by decide +kernel
theorem dL_law_331 : decode cL_law 331 = .ok (.aaload, 1) := by decide +kernel
theorem dL_law_332 : decode cL_law 332 = .ok (.bipush 7, 2) := by decide +kernel
theorem dL_law_334 : decode cL_law 334 = .ok (.iaload, 1) := by decide +kernel
theorem dL_law_335 : decode cL_law 335 = .ok (.isub, 1) := by decide +kernel
theorem dL_law_336 : decode cL_law 336 = .ok (.istore 20, 2) := by decide +kernel
theorem dL_law_338 : decode cL_law 338 = .ok (.aload_n 1, 1) := by decide +kernel
theorem dL_law_339 : decode cL_law 339 = .ok (.iload 16, 2) := by decide +kernel
theorem dL_law_341 : decode cL_law 341 = .ok (.bipush 8, 2) := by decide +kernel
theorem dL_law_343 : decode cL_law 343 = .ok (.invokevirtual 85, 3) := by decide +kernel
theorem dL_law_346 : decode cL_law 346 = .ok (.aload 9, 2) := by decide +kernel
theorem dL_law_348 : decode cL_law 348 = .ok (.iload 16, 2) := by decide +kernel
theorem dL_law_350 : decode cL_law 350 = .ok (.aaload, 1) := by decide +kernel
theorem dL_law_351 : decode cL_law 351 = .ok (.bipush 8, 2) := by decide +kernel
theorem dL_law_353 : decode cL_law 353 = .ok (.iaload, 1) := by decide +kernel
theorem dL_law_354 : decode cL_law 354 = .ok (.isub, 1) := by decide +kernel
theorem dL_law_355 : decode cL_law 355 = .ok (.istore 21, 2) := by decide +kernel
theorem dL_law_357 : decode cL_law 357 = .ok (.aload 14, 2) := by decide +kernel
theorem dL_law_359 : decode cL_law 359 = .ok (.iload 17, 2) := by decide +kernel
theorem dL_law_361 : decode cL_law 361 = .ok (.dup2, 1) := by decide +kernel
theorem dL_law_362 : decode cL_law 362 = .ok (.iaload, 1) := by decide +kernel
theorem dL_law_363 : decode cL_law 363 = .ok (.iconst 1, 1) := by decide +kernel
theorem dL_law_364 : decode cL_law 364 = .ok (.iadd, 1) := by decide +kernel
theorem dL_law_365 : decode cL_law 365 = .ok (.iastore, 1) := by decide +kernel
theorem dL_law_366 : decode cL_law 366 = .ok (.iload 13, 2) := by decide +kernel
theorem dL_law_368 : decode cL_law 368 = .ok (.iload 20, 2) := by decide +kernel
theorem dL_law_370 : decode cL_law 370 = .ok (.iadd, 1) := by decide +kernel
theorem dL_law_371 : decode cL_law 371 = .ok (.istore 13, 2) := by decide +kernel
theorem dL_law_373 : decode cL_law 373 = .ok (.iload 15, 2) := by decide +kernel
theorem dL_law_375 : decode cL_law 375 = .ok (.iload 17, 2) := by decide +kernel
theorem dL_law_377 : decode cL_law 377 = .ok (.iconst 2, 1) := by decide +kernel
theorem dL_law_378 : decode cL_law 378 = .ok (.if_icmp .ne 10, 3) := by decide +kernel
theorem dL_law_381 : decode cL_law 381 = .ok (.iconst 1, 1) := by decide +kernel
theorem dL_law_382 : decode cL_law 382 = .ok (.iload 16, 2) := by decide +kernel
theorem dL_law_384 : decode cL_law 384 = .ok (.ishl, 1) := by decide +kernel
theorem dL_law_385 : decode cL_law 385 = .ok (.goto 4, 3) := by decide +kernel
theorem dL_law_388 : decode cL_law 388 = .ok (.iconst 0, 1) := by decide +kernel
theorem dL_law_389 : decode cL_law 389 = .ok (.iadd, 1) := by decide +kernel
theorem dL_law_390 : decode cL_law 390 = .ok (.istore 15, 2) := by decide +kernel
theorem dL_law_392 : decode cL_law 392 = .ok (.iload 20, 2) := by decide +kernel
theorem dL_law_394 : decode cL_law 394 = .ok (.ifCond .lt 77, 3) := by decide +kernel
theorem dL_law_397 : decode cL_law 397 = .ok (.iload 21, 2) := by decide +kernel
theorem dL_law_399 : decode cL_law 399 = .ok (.ifCond .lt 72, 3) := by decide +kernel
theorem dL_law_402 : decode cL_law 402 = .ok (.iload 20, 2) := by decide +kernel
theorem dL_law_404 : decode cL_law 404 = .ok (.iload 21, 2) := by decide +kernel
theorem dL_law_406 : decode cL_law 406 = .ok (.iadd, 1) := by decide +kernel
theorem dL_law_407 : decode cL_law 407 = .ok (.iconst 1, 1) := by decide +kernel
theorem dL_law_408 : decode cL_law 408 = .ok (.if_icmp .gt 63, 3) := by decide +kernel
theorem dL_law_411 : decode cL_law 411 = .ok (.iload 20, 2) := by decide +kernel
theorem dL_law_413 : decode cL_law 413 = .ok (.iconst 1, 1) := by decide +kernel
theorem dL_law_414 : decode cL_law 414 = .ok (.if_icmp .ne 16, 3) := by decide +kernel
theorem dL_law_417 : decode cL_law 417 = .ok (.iload 17, 2) := by decide +kernel
theorem dL_law_419 : decode cL_law 419 = .ok (.iconst 2, 1) := by decide +kernel
theorem dL_law_420 : decode cL_law 420 = .ok (.if_icmp .ne 51, 3) := by decide +kernel
theorem dL_law_423 : decode cL_law 423 = .ok (.iload 18, 2) := by decide +kernel
theorem dL_law_425 : decode cL_law 425 = .ok (.bipush 12, 2) := by decide +kernel
theorem dL_law_427 : decode cL_law 427 = .ok (.if_icmp .ne 44, 3) := by decide +kernel
theorem dL_law_430 : decode cL_law 430 = .ok (.iload 21, 2) := by decide +kernel
theorem dL_law_432 : decode cL_law 432 = .ok (.iconst 1, 1) := by decide +kernel
theorem dL_law_433 : decode cL_law 433 = .ok (.if_icmp .ne 15, 3) := by decide +kernel
theorem dL_law_436 : decode cL_law 436 = .ok (.iload 17, 2) := by decide +kernel
theorem dL_law_438 : decode cL_law 438 = .ok (.iconst 3, 1) := by decide +kernel
theorem dL_law_439 : decode cL_law 439 = .ok (.if_icmp .ne 32, 3) := by decide +kernel
theorem dL_law_442 : decode cL_law 442 = .ok (.iload 18, 2) := by decide +kernel
theorem dL_law_444 : decode cL_law 444 = .ok (.iconst 4, 1) := by decide +kernel
theorem dL_law_445 : decode cL_law 445 = .ok (.if_icmp .ne 26, 3) := by decide +kernel
theorem dL_law_448 : decode cL_law 448 = .ok (.iload 17, 2) := by decide +kernel
theorem dL_law_450 : decode cL_law 450 = .ok (.ifCond .ne 7, 3) := by decide +kernel
theorem dL_law_453 : decode cL_law 453 = .ok (.iconst 1, 1) := by decide +kernel
theorem dL_law_454 : decode cL_law 454 = .ok (.goto 4, 3) := by decide +kernel
theorem dL_law_457 : decode cL_law 457 = .ok (.iconst 0, 1) := by decide +kernel
theorem dL_law_458 : decode cL_law 458 = .ok (.iload 18, 2) := by decide +kernel
theorem dL_law_460 : decode cL_law 460 = .ok (.ifCond .ne 7, 3) := by decide +kernel
theorem dL_law_463 : decode cL_law 463 = .ok (.iconst 1, 1) := by decide +kernel
theorem dL_law_464 : decode cL_law 464 = .ok (.goto 4, 3) := by decide +kernel
theorem dL_law_467 : decode cL_law 467 = .ok (.iconst 0, 1) := by decide +kernel
theorem dL_law_468 : decode cL_law 468 = .ok (.if_icmp .eq 5, 3) := by decide +kernel
theorem dL_law_471 : decode cL_law 471 = .ok (.iconst 0, 1) := by decide +kernel
theorem dL_law_472 : decode cL_law 472 = .ok (.ireturn, 1) := by decide +kernel
theorem dL_law_473 : decode cL_law 473 = .ok (.iload 19, 2) := by decide +kernel
theorem dL_law_475 : decode cL_law 475 = .ok (.iconst 1, 1) := by decide +kernel
theorem dL_law_476 : decode cL_law 476 = .ok (.if_icmp .le 37, 3) := by decide +kernel
