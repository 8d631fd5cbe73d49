set_option maxRecDepth 20000 in
theorem ggL_holds_X5_records : GoodIn wsL_holds wsX5_records := goodIn_r _ [5, 6, 7, 150, 151, 152, 153, 154, 155, 156, 157, 158, 159, 160, 161, 162, 163, 164, 165, 166] (by decide +kernel) (by decide +kernel)
set_option maxRecDepth 20000 in
theorem gL_holds_X5_records : GoodIn wsL_holds (wsV RL 8 RX5 yX5_records wsX5_records) := goodIn_app (goodIn_of _ (by decide +kernel)) ggL_holds_X5_records
set_option maxRecDepth 20000 in
theorem ggL_holds_X5_shelfOf : GoodIn wsL_holds wsX5_shelfOf := goodIn_ca (goodIn_r _ [11, 6, 12, 13, 14, 15, 4, 16, 17, 18, 19, 20, 21, 22, 23, 24, 150, 151, 152, 153, 154, 155, 156, 157, 158, 159, 160, 161, 162, 163, 164, 165, 166] (by decide +kernel) (by decide +kernel)) (goodIn_sub (fun _ h => List.mem_cons_of_mem _ (List.mem_append_right _ h)) (by decide +kernel))
set_option maxRecDepth 20000 in
theorem gL_holds_X5_shelfOf : GoodIn wsL_holds (wsV RL 34 RX5 yX5_shelfOf wsX5_shelfOf) := goodIn_app (goodIn_of _ (by decide +kernel)) ggL_holds_X5_shelfOf
set_option maxRecDepth 20000 in
theorem ggL_holds_X5_catalog : GoodIn wsL_holds wsX5_catalog := goodIn_ca (goodIn_r _ [28, 6, 29, 13, 14, 15, 4, 16, 17, 18, 19, 20, 21, 22, 23, 24, 150, 151, 152, 153, 154, 155, 156, 157, 158, 159, 160, 161, 162, 163, 164, 165, 166] (by decide +kernel) (by decide +kernel)) (goodIn_sub (fun _ h => List.mem_cons_of_mem _ (List.mem_append_right _ h)) (by decide +kernel))
set_option maxRecDepth 20000 in
theorem gL_holds_X5_catalog : GoodIn wsL_holds (wsV RL 52 RX5 yX5_catalog wsX5_catalog) := goodIn_app (goodIn_of _ (by decide +kernel)) ggL_holds_X5_catalog
set_option maxRecDepth 20000 in
theorem ggL_holds_X5_reach : GoodIn wsL_holds wsX5_reach := goodIn_ca (goodIn_r _ [33, 6, 34, 35, 36, 4, 37, 17, 18, 150, 151, 152, 153, 154, 155, 156, 157, 158, 159, 160, 161, 162, 163, 164, 165, 166] (by decide +kernel) (by decide +kernel)) (goodIn_sub (fun _ h => List.mem_cons_of_mem _ (List.mem_append_right _ h)) (by decide +kernel))
set_option maxRecDepth 20000 in
theorem gL_holds_X5_reach : GoodIn wsL_holds (wsV RL 55 RX5 yX5_reach wsX5_reach) := goodIn_app (goodIn_of _ (by decide +kernel)) ggL_holds_X5_reach
set_option maxRecDepth 20000 in
theorem ggL_holds_X5_weight : GoodIn wsL_holds wsX5_weight := goodIn_ca (goodIn_r _ [41, 6, 13, 14, 15, 4, 16, 17, 18, 19, 20, 21, 22, 23, 24, 42, 43, 44, 45, 46, 47, 150, 151, 152, 153, 154, 155, 156, 157, 158, 159, 160, 161, 162, 163, 164, 165, 166] (by decide +kernel) (by decide +kernel)) (goodIn_sub (fun _ h => List.mem_cons_of_mem _ (List.mem_append_right _ h)) (by decide +kernel))
set_option maxRecDepth 20000 in
theorem gL_holds_X5_weight : GoodIn wsL_holds (wsV RL 58 RX5 yX5_weight wsX5_weight) := goodIn_app (goodIn_of _ (by decide +kernel)) ggL_holds_X5_weight
set_option maxRecDepth 20000 in
theorem ggL_holds_X5_walkTo : GoodIn wsL_holds wsX5_walkTo := goodIn_ca (goodIn_r _ [51, 6, 13, 14, 15, 4, 16, 17, 18, 19, 20, 21, 22, 23, 24, 52, 53, 54, 55, 56, 57, 58, 59, 60, 61, 62, 63, 64, 65, 66, 150, 151, 152, 153, 154, 155, 156, 157, 158, 159, 160, 161, 162, 163, 164, 165, 166] (by decide +kernel) (by decide +kernel)) (goodIn_sub (fun _ h => List.mem_cons_of_mem _ (List.mem_append_right _ h)) (by decide +kernel))
set_option maxRecDepth 20000 in
theorem gL_holds_X5_walkTo : GoodIn wsL_holds (wsV RL 61 RX5 yX5_walkTo wsX5_walkTo) := goodIn_app (goodIn_of _ (by decide +kernel)) ggL_holds_X5_walkTo
set_option maxRecDepth 20000 in
theorem ggL_holds_X5_reason : GoodIn wsL_holds wsX5_reason := goodIn_ca (goodIn_r _ [70, 6, 12, 71, 13, 14, 15, 4, 16, 17, 18, 19, 20, 21, 22, 23, 24, 35, 36, 37, 72, 60, 61, 62, 58, 56, 73, 74, 75, 76, 77, 78, 79, 80, 81, 82, 57, 83, 43, 44, 45, 46, 47, 150, 151, 152, 153, 154, 155, 156, 157, 158, 159, 160, 161, 162, 163, 164, 165, 166] (by decide +kernel) (by decide +kernel)) (goodIn_sub (fun _ h => List.mem_cons_of_mem _ (List.mem_append_right _ h)) (by decide +kernel))
set_option maxRecDepth 20000 in
theorem gL_holds_X5_reason : GoodIn wsL_holds (wsV RL 64 RX5 yX5_reason wsX5_reason) := goodIn_app (goodIn_of _ (by decide +kernel)) ggL_holds_X5_reason
set_option maxRecDepth 20000 in
theorem ggL_holds_X5_free : GoodIn wsL_holds wsX5_free := goodIn_ca (goodIn_r _ [87, 6, 35, 36, 4, 37, 17, 18, 73, 74, 75, 22, 76, 77, 78, 150, 151, 152, 153, 154, 155, 156, 157, 158, 159, 160, 161, 162, 163, 164, 165, 166] (by decide +kernel) (by decide +kernel)) (goodIn_sub (fun _ h => List.mem_cons_of_mem _ (List.mem_append_right _ h)) (by decide +kernel))
set_option maxRecDepth 20000 in
theorem gL_holds_X5_free : GoodIn wsL_holds (wsV RL 20 RX5 yX5_free wsX5_free) := goodIn_app (goodIn_of _ (by decide +kernel)) ggL_holds_X5_free
set_option maxRecDepth 20000 in
theorem ggL_holds_X5_width : GoodIn wsL_holds wsX5_width := goodIn_ca (goodIn_r _ [91, 6, 71, 13, 14, 15, 4, 16, 17, 18, 19, 20, 21, 22, 23, 24, 150, 151, 152, 153, 154, 155, 156, 157, 158, 159, 160, 161, 162, 163, 164, 165, 166] (by decide +kernel) (by decide +kernel)) (goodIn_sub (fun _ h => List.mem_cons_of_mem _ (List.mem_append_right _ h)) (by decide +kernel))
set_option maxRecDepth 20000 in
theorem gL_holds_X5_width : GoodIn wsL_holds (wsV RL 37 RX5 yX5_width wsX5_width) := goodIn_app (goodIn_of _ (by decide +kernel)) ggL_holds_X5_width
set_option maxRecDepth 20000 in
theorem ggL_holds_X5_cost : GoodIn wsL_holds wsX5_cost := goodIn_r _ [95, 6, 96, 97, 98, 22, 99, 24, 57, 56, 83, 43, 44, 45, 46, 47, 150, 151, 152, 153, 154, 155, 156, 157, 158, 159, 160, 161, 162, 163, 164, 165, 166] (by decide +kernel) (by decide +kernel)
set_option maxRecDepth 20000 in
theorem gL_holds_X5_cost : GoodIn wsL_holds (wsV RL 67 RX5 yX5_cost wsX5_cost) := goodIn_app (goodIn_of _ (by decide +kernel)) ggL_holds_X5_cost
set_option maxRecDepth 20000 in
theorem ggL_holds_X5_misplaced : GoodIn wsL_holds wsX5_misplaced := goodIn_r _ [103, 6, 104, 105, 106, 22, 107, 24, 59, 60, 61, 62, 58, 56, 150, 151, 152, 153, 154, 155, 156, 157, 158, 159, 160, 161, 162, 163, 164, 165, 166] (by decide +kernel) (by decide +kernel)
set_option maxRecDepth 20000 in
theorem gL_holds_X5_misplaced : GoodIn wsL_holds (wsV RL 70 RX5 yX5_misplaced wsX5_misplaced) := goodIn_app (goodIn_of _ (by decide +kernel)) ggL_holds_X5_misplaced
set_option maxRecDepth 20000 in
theorem ggL_holds_X5_bestGain : GoodIn wsL_holds wsX5_bestGain := goodIn_r _ [111, 6, 112, 113, 114, 115, 116, 22, 117, 24, 118, 119, 120, 121, 122, 123, 59, 60, 61, 62, 58, 56, 124, 125, 126, 127, 128, 129, 74, 75, 76, 77, 78, 130, 80, 81, 82, 57, 83, 43, 44, 45, 46, 47, 131, 132, 133, 134, 135, 136, 137, 138, 139, 140, 141, 142, 143, 144, 145, 146, 147, 148, 149, 150, 151, 152, 153, 154, 155, 167, 168, 169, 170, 156, 157, 158, 159, 160, 161, 162, 163, 164, 165, 166] (by decide +kernel) (by decide +kernel)
set_option maxRecDepth 20000 in
theorem gL_holds_X5_bestGain : GoodIn wsL_holds (wsV RL 73 RX5 yX5_bestGain wsX5_bestGain) := goodIn_app (goodIn_of _ (by decide +kernel)) ggL_holds_X5_bestGain
theorem dL_holds_0 : decode cL_holds 0 = .ok (.iconst 0, 1) := by decide +kernel
theorem dL_holds_1 : decode cL_holds 1 = .ok (.istore_n 1, 1) := by decide +kernel
theorem dL_holds_2 : decode cL_holds 2 = .ok (.iconst 0, 1) := by decide +kernel
theorem dL_holds_3 : decode cL_holds 3 = .ok (.istore_n 2, 1) := by decide +kernel
theorem dL_holds_4 : decode cL_holds 4 = .ok (.iconst 0, 1) := by decide +kernel
theorem dL_holds_5 : decode cL_holds 5 = .ok (.istore_n 3, 1) := by decide +kernel
theorem dL_holds_6 : decode cL_holds 6 = .ok (.iconst 0, 1) := by decide +kernel
theorem dL_holds_7 : decode cL_holds 7 = .ok (.istore 4, 2) := by decide +kernel
theorem dL_holds_9 : decode cL_holds 9 = .ok (.iload 4, 2) := by decide +kernel
theorem dL_holds_11 : decode cL_holds 11 = .ok (.aload_n 0, 1) := by decide +kernel
theorem dL_holds_12 : decode cL_holds 12 = .ok (.invokevirtual 8, 3) := by decide +kernel
theorem dL_holds_15 : decode cL_holds 15 = .ok (.if_icmp .ge 235, 3) := by decide +kernel
theorem dL_holds_18 : decode cL_holds 18 = .ok (.aload_n 0, 1) := by decide +kernel
theorem dL_holds_19 : decode cL_holds 19 = .ok (.iload 4, 2) := by decide +kernel
theorem dL_holds_21 : decode cL_holds 21 = .ok (.invokevirtual 34, 3) := by decide +kernel
theorem dL_holds_24 : decode cL_holds 24 = .ok (.aload_n 0, 1) := by decide +kernel
theorem dL_holds_25 : decode cL_holds 25 = .ok (.iload 4, 2) := by decide +kernel
theorem dL_holds_27 : decode cL_holds 27 = .ok (.invokevirtual 52, 3) := by decide +kernel
theorem dL_holds_30 : decode cL_holds 30 = .ok (.if_icmp .ne 7, 3) := by decide +kernel
theorem dL_holds_33 : decode cL_holds 33 = .ok (.iconst 1, 1) := by decide +kernel
theorem dL_holds_34 : decode cL_holds 34 = .ok (.goto 4, 3) := by decide +kernel
theorem dL_holds_37 : decode cL_holds 37 = .ok (.iconst 0, 1) := by decide +kernel
theorem dL_holds_38 : decode cL_holds 38 = .ok (.istore 5, 2) := by decide +kernel
theorem dL_holds_40 : decode cL_holds 40 = .ok (.aload_n 0, 1) := by decide +kernel
theorem dL_holds_41 : decode cL_holds 41 = .ok (.aload_n 0, 1) := by decide +kernel
theorem dL_holds_42 : decode cL_holds 42 = .ok (.iload 4, 2) := by decide +kernel
theorem dL_holds_44 : decode cL_holds 44 = .ok (.invokevirtual 52, 3) := by decide +kernel
theorem dL_holds_47 : decode cL_holds 47 = .ok (.invokevirtual 55, 3) := by decide +kernel
theorem dL_holds_50 : decode cL_holds 50 = .ok (.istore 6, 2) := by decide +kernel
theorem dL_holds_52 : decode cL_holds 52 = .ok (.iload_n 1, 1) := by decide +kernel
theorem dL_holds_53 : decode cL_holds 53 = .ok (.aload_n 0, 1) := by decide +kernel
theorem dL_holds_54 : decode cL_holds 54 = .ok (.iload 4, 2) := by decide +kernel
theorem dL_holds_56 : decode cL_holds 56 = .ok (.invokevirtual 58, 3) := by decide +kernel
theorem dL_holds_59 : decode cL_holds 59 = .ok (.iload 6, 2) := by decide +kernel
theorem dL_holds_61 : decode cL_holds 61 = .ok (.imul, 1) := by decide +kernel
theorem dL_holds_62 : decode cL_holds 62 = .ok (.iadd, 1) := by decide +kernel
theorem dL_holds_63 : decode cL_holds 63 = .ok (.istore_n 1, 1) := by decide +kernel
theorem dL_holds_64 : decode cL_holds 64 = .ok (.iload_n 2, 1) := by decide +kernel
theorem dL_holds_65 : decode cL_holds 65 = .ok (.iload 5, 2) := by decide +kernel
theorem dL_holds_67 : decode cL_holds 67 = .ok (.ifCond .eq 7, 3) := by decide +kernel
theorem dL_holds_70 : decode cL_holds 70 = .ok (.iconst 0, 1) := by decide +kernel
theorem dL_holds_71 : decode cL_holds 71 = .ok (.goto 4, 3) := by decide +kernel
theorem dL_holds_74 : decode cL_holds 74 = .ok (.iconst 1, 1) := by decide +kernel
theorem dL_holds_75 : decode cL_holds 75 = .ok (.iadd, 1) := by decide +kernel
theorem dL_holds_76 : decode cL_holds 76 = .ok (.istore_n 2, 1) := by decide +kernel
theorem dL_holds_77 : decode cL_holds 77 = .ok (.iload 5, 2) := by decide +kernel
theorem dL_holds_79 : decode cL_holds 79 = .ok (.ifCond .eq 17, 3) := by decide +kernel
theorem dL_holds_82 : decode cL_holds 82 = .ok (.aload_n 0, 1) := by decide +kernel
theorem dL_holds_83 : decode cL_holds 83 = .ok (.iload 4, 2) := by decide +kernel
theorem dL_holds_85 : decode cL_holds 85 = .ok (.invokevirtual 61, 3) := by decide +kernel
theorem dL_holds_88 : decode cL_holds 88 = .ok (.iload 6, 2) := by decide +kernel
theorem dL_holds_90 : decode cL_holds 90 = .ok (.if_icmp .eq 41, 3) := by decide +kernel
theorem dL_holds_93 : decode cL_holds 93 = .ok (.goto 36, 3) := by decide +kernel
theorem dL_holds_96 : decode cL_holds 96 = .ok (.aload_n 0, 1) := by decide +kernel
theorem dL_holds_97 : decode cL_holds 97 = .ok (.iload 4, 2) := by decide +kernel
theorem dL_holds_99 : decode cL_holds 99 = .ok (.invokevirtual 61, 3) := by decide +kernel
theorem dL_holds_102 : decode cL_holds 102 = .ok (.iload 6, 2) := by decide +kernel
theorem dL_holds_104 : decode cL_holds 104 = .ok (.if_icmp .le 25, 3) := by decide +kernel
theorem dL_holds_107 : decode cL_holds 107 = .ok (.aload_n 0, 1) := by decide +kernel
theorem dL_holds_108 : decode cL_holds 108 = .ok (.iload 4, 2) := by decide +kernel
theorem dL_holds_110 : decode cL_holds 110 = .ok (.invokevirtual 61, 3) := by decide +kernel
theorem dL_holds_113 : decode cL_holds 113 = .ok (.iload 6, 2) := by decide +kernel
theorem dL_holds_115 : decode cL_holds 115 = .ok (.aload_n 0, 1) := by decide +kernel
theorem dL_holds_116 : decode cL_holds 116 = .ok (.aload_n 0, 1) := by decide +kernel
theorem dL_holds_117 : decode cL_holds 117 = .ok (.iload 4, 2) := by decide +kernel
theorem dL_holds_119 : decode cL_holds 119 = .ok (.invokevirtual 34, 3) := by decide +kernel
theorem dL_holds_122 : decode cL_holds 122 = .ok (.invokevirtual 55, 3) := by decide +kernel
theorem dL_holds_125 : decode cL_holds 125 = .ok (.iadd, 1) := by decide +kernel
theorem dL_holds_126 : decode cL_holds 126 = .ok (.if_icmp .ge 5, 3) := by decide +kernel
theorem dL_holds_129 : decode cL_holds 129 = .ok (.iconst 0, 1) := by decide +kernel
theorem dL_holds_130 : decode cL_holds 130 = .ok (.ireturn, 1) := by decide +kernel
theorem dL_holds_131 : decode cL_holds 131 = .ok (.iconst 0, 1) := by decide +kernel
theorem dL_holds_132 : decode cL_holds 132 = .ok (.istore 7, 2) := by decide +kernel
theorem dL_holds_134 : decode cL_holds 134 = .ok (.iload 7, 2) := by decide +kernel
theorem dL_holds_136 : decode cL_holds 136 = .ok (.bipush 6, 2) := by decide +kernel
theorem dL_holds_138 : decode cL_holds 138 = .ok (.if_icmp .ge 106, 3) := by decide +kernel
theorem dL_holds_141 : decode cL_holds 141 = .ok (.aload_n 0, 1) := by decide +kernel
theorem dL_holds_142 : decode cL_holds 142 = .ok (.iload 4, 2) := by decide +kernel
theorem dL_holds_144 : decode cL_holds 144 = .ok (.iload 7, 2) := by decide +kernel
theorem dL_holds_146 : decode cL_holds 146 = .ok (.invokevirtual 64, 3) := by decide +kernel
theorem dL_holds_149 : decode cL_holds 149 = .ok (.istore 8, 2) := by decide +kernel
theorem dL_holds_151 : decode cL_holds 151 = .ok (.iload_n 3, 1) := by decide +kernel
theorem dL_holds_152 : decode cL_holds 152 = .ok (.ifCond .ne 8, 3) := by decide +kernel
theorem dL_holds_155 : decode cL_holds 155 = .ok (.iload 8, 2) := by decide +kernel
theorem dL_holds_157 : decode cL_holds 157 = .ok (.ifCond .ne 7, 3) := by decide +kernel
theorem dL_holds_160 : decode cL_holds 160 = .ok (.iconst 1, 1) := by decide +kernel
theorem dL_holds_161 : decode cL_holds 161 = .ok (.goto 4, 3) := by decide +kernel
theorem dL_holds_164 : decode cL_holds 164 = .ok (.iconst 0, 1) := by decide +kernel
theorem dL_holds_165 : decode cL_holds 165 = .ok (.istore_n 3, 1) := by decide +kernel
theorem dL_holds_166 : decode cL_holds 166 = .ok (.iload 8, 2) := by decide +kernel
theorem dL_holds_168 : decode cL_holds 168 = .ok (.iconst 1, 1) := by decide +kernel
theorem dL_holds_169 : decode cL_holds 169 = .ok (.if_icmp .ne 7, 3) := by decide +kernel
theorem dL_holds_172 : decode cL_holds 172 = .ok (.iconst 1, 1) := by decide +kernel
theorem dL_holds_173 : decode cL_holds 173 = .ok (.goto 4, 3) := by decide +kernel
theorem dL_holds_176 : decode cL_holds 176 = .ok (.iconst 0, 1) := by decide +kernel
theorem dL_holds_177 : decode cL_holds 177 = .ok (.iload 5, 2) := by decide +kernel
theorem dL_holds_179 : decode cL_holds 179 = .ok (.if_icmp .eq 57, 3) := by decide +kernel
theorem dL_holds_182 : decode cL_holds 182 = .ok (.iload 8, 2) := by decide +kernel
theorem dL_holds_184 : decode cL_holds 184 = .ok (.iconst 2, 1) := by decide +kernel
theorem dL_holds_185 : decode cL_holds 185 = .ok (.if_icmp .ne 14, 3) := by decide +kernel
theorem dL_holds_188 : decode cL_holds 188 = .ok (.aload_n 0, 1) := by decide +kernel
theorem dL_holds_189 : decode cL_holds 189 = .ok (.iload 4, 2) := by decide +kernel
theorem dL_holds_191 : decode cL_holds 191 = .ok (.invokevirtual 34, 3) := by decide +kernel
theorem dL_holds_194 : decode cL_holds 194 = .ok (.iload 7, 2) := by decide +kernel
theorem dL_holds_196 : decode cL_holds 196 = .ok (.if_icmp .ne 40, 3) := by decide +kernel
theorem dL_holds_199 : decode cL_holds 199 = .ok (.iload 8, 2) := by decide +kernel
theorem dL_holds_201 : decode cL_holds 201 = .ok (.iconst 3, 1) := by decide +kernel
theorem dL_holds_202 : decode cL_holds 202 = .ok (.if_icmp .ne 18, 3) := by decide +kernel
theorem dL_holds_205 : decode cL_holds 205 = .ok (.aload_n 0, 1) := by decide +kernel
theorem dL_holds_206 : decode cL_holds 206 = .ok (.iload 7, 2) := by decide +kernel
theorem dL_holds_208 : decode cL_holds 208 = .ok (.invokevirtual 20, 3) := by decide +kernel
theorem dL_holds_211 : decode cL_holds 211 = .ok (.aload_n 0, 1) := by decide +kernel
theorem dL_holds_212 : decode cL_holds 212 = .ok (.iload 4, 2) := by decide +kernel
theorem dL_holds_214 : decode cL_holds 214 = .ok (.invokevirtual 37, 3) := by decide +kernel
theorem dL_holds_217 : decode cL_holds 217 = .ok (.if_icmp .ge 19, 3) := by decide +kernel
theorem dL_holds_220 : decode cL_holds 220 = .ok (.iload 8, 2) := by decide +kernel
theorem dL_holds_222 : decode cL_holds 222 = .ok (.ifCond .ne 16, 3) := by decide +kernel
theorem dL_holds_225 : decode cL_holds 225 = .ok (.aload_n 0, 1) := by decide +kernel
theorem dL_holds_226 : decode cL_holds 226 = .ok (.iload 7, 2) := by decide +kernel
theorem dL_holds_228 : decode cL_holds 228 = .ok (.invokevirtual 55, 3) := by decide +kernel
theorem dL_holds_231 : decode cL_holds 231 = .ok (.iload 6, 2) := by decide +kernel
theorem dL_holds_233 : decode cL_holds 233 = .ok (.if_icmp .lt 5, 3) := by decide +kernel
theorem dL_holds_236 : decode cL_holds 236 = .ok (.iconst 0, 1) := by decide +kernel
theorem dL_holds_237 : decode cL_holds 237 = .ok (.ireturn, 1) := by decide +kernel
theorem dL_holds_238 : decode cL_holds 238 = .ok (.iinc 7 1, 3) := by decide +kernel
theorem dL_holds_241 : decode cL_holds 241 = .ok (.goto (-107), 3) := by decide +kernel
theorem dL_holds_244 : decode cL_holds 244 = .ok (.iinc 4 1, 3) := by decide +kernel
theorem dL_holds_247 : decode cL_holds 247 = .ok (.goto (-238), 3) := by decide +kernel
theorem dL_holds_250 : decode cL_holds 250 = .ok (.iconst 0, 1) := by decide +kernel
theorem dL_holds_251 : decode cL_holds 251 = .ok (.istore 4, 2) := by decide +kernel
theorem dL_holds_253 : decode cL_holds 253 = .ok (.iload 4, 2) := by decide +kernel
theorem dL_holds_255 : decode cL_holds 255 = .ok (.bipush 6, 2) := by decide +kernel
theorem dL_holds_257 : decode cL_holds 257 = .ok (.if_icmp .ge 20, 3) := by decide +kernel
theorem dL_holds_260 : decode cL_holds 260 = .ok (.aload_n 0, 1) := by decide +kernel
theorem dL_holds_261 : decode cL_holds 261 = .ok (.iload 4, 2) := by decide +kernel
theorem dL_holds_263 : decode cL_holds 263 = .ok (.invokevirtual 20, 3) := by decide +kernel
theorem dL_holds_266 : decode cL_holds 266 = .ok (.ifCond .ge 5, 3) := by decide +kernel
theorem dL_holds_269 : decode cL_holds 269 = .ok (.iconst 0, 1) := by decide +kernel
theorem dL_holds_270 : decode cL_holds 270 = .ok (.ireturn, 1) := by decide +kernel
theorem dL_holds_271 : decode cL_holds 271 = .ok (.iinc 4 1, 3) := by decide +kernel
theorem dL_holds_274 : decode cL_holds 274 = .ok (.goto (-21), 3) := by decide +kernel
theorem dL_holds_277 : decode cL_holds 277 = .ok (.aload_n 0, 1) := by decide +kernel
theorem dL_holds_278 : decode cL_holds 278 = .ok (.invokevirtual 67, 3) := by decide +kernel
theorem dL_holds_281 : decode cL_holds 281 = .ok (.iload_n 1, 1) := by decide +kernel
theorem dL_holds_282 : decode cL_holds 282 = .ok (.if_icmp .ne 26, 3) := by decide +kernel
theorem dL_holds_285 : decode cL_holds 285 = .ok (.aload_n 0, 1) := by decide +kernel
theorem dL_holds_286 : decode cL_holds 286 = .ok (.invokevirtual 70, 3) := by decide +kernel
theorem dL_holds_289 : decode cL_holds 289 = .ok (.iload_n 2, 1) := by decide +kernel
theorem dL_holds_290 : decode cL_holds 290 = .ok (.if_icmp .ne 18, 3) := by decide +kernel
theorem dL_holds_293 : decode cL_holds 293 = .ok (.iload_n 3, 1) := by decide +kernel
theorem dL_holds_294 : decode cL_holds 294 = .ok (.ifCond .eq 10, 3) := by decide +kernel
theorem dL_holds_297 : decode cL_holds 297 = .ok (.aload_n 0, 1) := by decide +kernel
theorem dL_holds_298 : decode cL_holds 298 = .ok (.invokevirtual 73, 3) := by decide +kernel
theorem dL_holds_301 : decode cL_holds 301 = .ok (.ifCond .le 7, 3) := by decide +kernel
theorem dL_holds_304 : decode cL_holds 304 = .ok (.iconst 1, 1) := by decide +kernel
theorem dL_holds_305 : decode cL_holds 305 = .ok (.goto 4, 3) := by decide +kernel
theorem dL_holds_308 : decode cL_holds 308 = .ok (.iconst 0, 1) := by decide +kernel
theorem dL_holds_309 : decode cL_holds 309 = .ok (.ireturn, 1) := by decide +kernel
set_option maxRecDepth 20000 in
theorem ggL_law_X5_init : GoodIn wsL_law wsX5_init := goodIn_r _ [6, 7, 8, 9, 10, 11, 12, 13, 14, 15, 16, 17, 18, 19, 20, 21, 22, 23, 24, 25, 26, 27, 3, 28, 29, 30, 31, 32, 33, 34, 35, 36, 37, 38, 39, 40, 41, 42, 43, 44, 45, 46, 352, 353, 354, 355, 356, 357, 358, 359, 360, 361, 362, 346, 347, 348, 349, 350, 351, 363, 364, 365, 366, 367, 368, 369, 370, 371, 372, 373] (by decide +kernel) (by decide +kernel)
set_option maxRecDepth 20000 in
theorem gL_law_X5_init : GoodIn wsL_law (wsX5_init) := ggL_law_X5_init
set_option maxRecDepth 20000 in
theorem ggL_law_L_cell : GoodIn wsL_law wsL_cell := goodIn_r _ [50] (by decide +kernel) (by decide +kernel)
set_option maxRecDepth 20000 in
theorem gL_law_L_cell : GoodIn wsL_law (va_wsS RL 93 yL_cell wsL_cell) := goodIn_app (goodIn_of _ (by decide +kernel)) ggL_law_L_cell
set_option maxRecDepth 20000 in
theorem ggL_law_X5_savedStates : GoodIn wsL_law wsX5_savedStates := goodIn_r _ [54, 55, 346, 347, 348, 349, 350, 351] (by decide +kernel) (by decide +kernel)
set_option maxRecDepth 20000 in
theorem gL_law_X5_savedStates : GoodIn wsL_law (wsV RL 97 RX5 yX5_savedStates wsX5_savedStates) := goodIn_app (goodIn_of _ (by decide +kernel)) ggL_law_X5_savedStates
set_option maxRecDepth 20000 in
theorem ggL_law_X5_undo : GoodIn wsL_law wsX5_undo := goodIn_ca (goodIn_r _ [59, 60, 61, 55, 13, 23, 62, 63, 64, 12, 65, 28, 66, 67, 68, 69, 29, 30, 31, 32, 33, 34, 35, 70, 71, 72, 346, 347, 348, 349, 350, 351, 352, 353, 354, 355, 356, 357, 358, 359, 360, 361, 362] (by decide +kernel) (by decide +kernel)) (goodIn_sub (fun _ h => List.mem_append_left _ (List.mem_append_left _ (List.mem_append_right _ h))) (by decide +kernel))
set_option maxRecDepth 20000 in
theorem gL_law_X5_undo : GoodIn wsL_law (wsV RL 82 RX5 yX5_undo wsX5_undo) := goodIn_app (goodIn_of _ (by decide +kernel)) ggL_law_X5_undo
set_option maxRecDepth 20000 in
theorem ggL_law_X5_digest : GoodIn wsL_law wsX5_digest := goodIn_r _ [76, 77, 13, 78, 79, 80, 81, 82, 83, 84, 85, 2, 86, 87, 88, 89, 90, 91, 92, 93, 94, 95, 96, 97, 12, 98, 70, 99, 100, 101, 102, 32, 33, 103, 104, 105, 106, 107, 108, 109, 110, 111, 112, 113, 114, 115, 29, 116, 117, 118, 119, 34, 35, 120, 121, 122, 123, 124, 125, 126, 127, 128, 18, 129, 130, 131, 132, 133, 134, 135, 136, 17, 137, 138, 139, 140, 141, 142, 31, 143, 144, 145, 146, 28, 30, 147, 148, 149, 150, 151, 152, 153, 154, 155, 156, 157, 158, 159, 160, 161, 162, 163, 164, 165, 166, 167, 168, 169, 170, 171, 172, 173, 174, 175, 176, 177, 178, 179, 346, 347, 348, 349, 350, 351, 352, 353, 354, 355, 356, 357, 358, 359, 360, 361, 362, 363, 364, 365, 366] (by decide +kernel) (by decide +kernel)
set_option maxRecDepth 20000 in
theorem gL_law_X5_digest : GoodIn wsL_law (wsV RL 88 RX5 yX5_digest wsX5_digest) := goodIn_app (goodIn_of _ (by decide +kernel)) ggL_law_X5_digest
set_option maxRecDepth 20000 in
theorem ggL_law_L_act : GoodIn wsL_law wsL_act := goodIn_ca (goodIn_ca (goodIn_ca (goodIn_r _ [182, 183, 84, 85, 2, 86, 13, 79, 184, 185, 49, 186, 187, 188, 189, 190, 191, 192, 193, 194, 195, 196, 170, 144, 145, 12, 146, 28, 30, 197, 198, 199, 200, 60, 61, 201, 202, 203, 204, 205, 206, 207, 208, 209, 70, 143, 210, 211, 212, 213, 55, 23, 214, 215, 216, 217, 62, 63, 64, 65, 66, 67, 68, 69, 29, 31, 32, 33, 34, 35, 71, 72, 218, 219, 220, 221, 222, 223, 224, 225, 226, 227, 78, 228, 229, 230, 231, 232, 233, 234, 235, 236, 237, 238, 239, 240, 241, 242, 243, 244, 245, 246, 247, 81, 248, 249, 250, 251, 80, 252, 253, 254, 255, 256, 257, 258, 259, 260, 261, 262, 263, 264, 265, 266, 267, 268, 269, 270, 271, 272, 273, 274, 275, 18, 276, 277, 278, 279, 280, 281, 282, 283, 284, 131, 132, 133, 134, 135, 136, 17, 137, 138, 99, 100, 101, 102, 139, 140, 141, 142, 147, 148, 149, 150, 116, 117, 118, 119, 151, 152, 153, 154, 155, 156, 157, 158, 159, 160, 161, 162, 163, 164, 165, 166, 167, 168, 169, 285, 286, 287, 288, 289, 290, 291, 292, 293, 294, 295, 296, 297, 298, 299, 300, 301, 302, 303, 304, 305, 173, 174, 175, 176, 177, 178, 179, 346, 347, 348, 349, 350, 351, 352, 353, 354, 355, 356, 357, 358, 359, 360, 361, 362, 363, 364, 365, 366] (by decide +kernel) (by decide +kernel)) (goodIn_sub (fun _ h => List.mem_append_left _ (List.mem_append_right _ h)) (by decide +kernel))) (goodIn_sub (fun _ h => List.mem_append_left _ (List.mem_append_left _ (List.mem_append_right _ h))) (by decide +kernel))) (goodIn_sub (fun _ h => List.mem_append_right _ h) (by decide +kernel))
set_option maxRecDepth 20000 in
theorem gL_law_L_act : GoodIn wsL_law (va_wsS RL 100 yL_act wsL_act) := goodIn_app (goodIn_of _ (by decide +kernel)) ggL_law_L_act
set_option maxRecDepth 20000 in
theorem ggL_law_L_holds : GoodIn wsL_law wsL_holds := goodIn_ca (goodIn_r _ [308, 183, 84, 85, 2, 86, 13, 79, 244, 245, 246, 247, 81, 232, 233, 234, 235, 195, 196, 236, 237, 238, 12, 239, 70, 309, 310, 311, 312, 82, 313, 314, 315, 316, 78, 192, 193, 194, 317, 318, 319, 320, 171, 117, 118, 119, 34, 35, 321, 322, 323, 324, 172, 173, 174, 175, 33, 29, 32, 99, 100, 101, 102, 176, 177, 178, 179, 325, 326, 327, 328, 80, 329, 170, 144, 145, 146, 28, 30, 330, 148, 149, 150, 116, 188, 189, 190, 191, 248, 249, 250, 251, 331, 109, 110, 111, 112, 113, 114, 115, 332, 92, 93, 94, 95, 96, 97, 98, 333, 126, 127, 128, 18, 129, 130, 131, 132, 133, 134, 135, 136, 17, 137, 138, 139, 140, 141, 142, 31, 143, 147, 151, 152, 153, 154, 155, 156, 157, 158, 159, 160, 161, 162, 163, 164, 165, 166, 167, 168, 169, 346, 347, 348, 349, 350, 351, 352, 353, 354, 355, 356, 357, 358, 359, 360, 361, 362, 363, 364, 365, 366] (by decide +kernel) (by decide +kernel)) (goodIn_sub (fun _ h => List.mem_append_left _ (List.mem_append_right _ h)) (by decide +kernel))
set_option maxRecDepth 20000 in
theorem gL_law_L_holds : GoodIn wsL_law (va_wsS RL 104 yL_holds wsL_holds) := goodIn_app (goodIn_of _ (by decide +kernel)) ggL_law_L_holds
set_option maxRecDepth 20000 in
theorem ggL_law_L_low : GoodIn wsL_law wsL_low := goodIn_r _ [186, 187] (by decide +kernel) (by decide +kernel)
set_option maxRecDepth 20000 in
theorem gL_law_L_low : GoodIn wsL_law (va_wsS RL 14 yL_low wsL_low) := goodIn_app (goodIn_of _ (by decide +kernel)) ggL_law_L_low
set_option maxRecDepth 20000 in
theorem ggL_law_L_isNight : GoodIn wsL_law wsL_isNight := goodIn_ca (goodIn_ca (goodIn_ca (goodIn_r _ [336, 331, 109, 110, 2, 111, 13, 112, 113, 114, 12, 115, 70, 29, 33, 116, 117, 118, 119, 34, 35, 183, 84, 85, 86, 79, 244, 245, 246, 247, 81, 232, 233, 234, 235, 195, 196, 236, 237, 238, 239, 309, 310, 311, 312, 82, 317, 318, 319, 320, 171, 248, 249, 250, 251, 80, 337, 338, 339, 340, 14, 18, 276, 277, 278, 204, 205, 62, 63, 64, 65, 28, 66, 67, 68, 69, 30, 31, 32, 71, 72, 279, 280, 281, 282, 283, 284, 131, 132, 133, 134, 135, 136, 17, 137, 138, 99, 100, 101, 102, 139, 140, 141, 142, 143, 144, 145, 146, 147, 148, 149, 150, 151, 152, 153, 154, 155, 156, 157, 158, 159, 160, 161, 162, 163, 164, 165, 166, 167, 168, 169, 285, 286, 287, 288, 289, 290, 291, 292, 293, 294, 295, 296, 261, 262, 263, 341, 121, 122, 123, 124, 272, 273, 274, 275, 210, 211, 212, 213, 55, 23, 214, 215, 216, 217, 333, 126, 127, 128, 129, 130, 56, 57, 58, 59, 60, 61, 346, 347, 348, 349, 350, 351, 352, 353, 354, 355, 356, 357, 358, 359, 360, 361, 362, 363, 364, 365, 366] (by decide +kernel) (by decide +kernel)) (goodIn_sub (fun _ h => List.mem_append_left _ (List.mem_append_right _ h)) (by decide +kernel))) (goodIn_sub (fun _ h => List.mem_append_right _ h) (by decide +kernel))) (goodIn_sub (fun _ h => List.mem_append_left _ (List.mem_append_left _ (List.mem_append_right _ h))) (by decide +kernel))
set_option maxRecDepth 20000 in
theorem gL_law_L_isNight : GoodIn wsL_law (va_wsS RL 108 yL_isNight wsL_isNight) := goodIn_app (goodIn_of _ (by decide +kernel)) ggL_law_L_isNight
set_option maxRecDepth 20000 in
theorem ggL_law_X5_records : GoodIn wsL_law wsX5_records := goodIn_r _ [86, 13, 79, 346, 347, 348, 349, 350, 351, 352, 353, 354, 355, 356, 357, 358, 359, 360, 361, 362] (by decide +kernel) (by decide +kernel)
set_option maxRecDepth 20000 in
theorem gL_law_X5_records : GoodIn wsL_law (wsV RL 8 RX5 yX5_records wsX5_records) := goodIn_app (goodIn_of _ (by decide +kernel)) ggL_law_X5_records
set_option maxRecDepth 20000 in
theorem ggL_law_L_isCall : GoodIn wsL_law wsL_isCall := goodIn_ca (goodIn_ca (goodIn_r _ [344, 321, 322, 323, 2, 324, 13, 232, 233, 234, 235, 195, 196, 236, 237, 238, 12, 239, 70, 172, 173, 174, 175, 33, 29, 32, 99, 100, 101, 102, 176, 177, 178, 179, 345, 104, 105, 106, 107, 317, 318, 319, 320, 171, 117, 118, 119, 34, 35, 244, 245, 246, 247, 81, 73, 74, 75, 76, 77, 78, 79, 80, 82, 83, 84, 85, 86, 87, 88, 89, 90, 91, 92, 93, 94, 95, 96, 97, 98, 103, 108, 109, 110, 111, 112, 113, 114, 115, 116, 120, 121, 122, 123, 124, 125, 126, 127, 128, 18, 129, 130, 131, 132, 133, 134, 135, 136, 17, 137, 138, 139, 140, 141, 142, 31, 143, 144, 145, 146, 28, 30, 147, 148, 149, 150, 151, 152, 153, 154, 155, 156, 157, 158, 159, 160, 161, 162, 163, 164, 165, 166, 167, 168, 169, 170, 297, 298, 299, 300, 210, 211, 212, 213, 55, 23, 214, 215, 216, 217, 62, 63, 64, 65, 66, 67, 68, 69, 71, 72, 301, 302, 303, 304, 305, 309, 310, 311, 312, 56, 57, 58, 59, 60, 61, 346, 347, 348, 349, 350, 351, 352, 353, 354, 355, 356, 357, 358, 359, 360, 361, 362, 363, 364, 365, 366] (by decide +kernel) (by decide +kernel)) (goodIn_sub (fun _ h => List.mem_append_left _ (List.mem_append_right _ h)) (by decide +kernel))) (goodIn_sub (fun _ h => List.mem_append_left _ (List.mem_append_left _ (List.mem_append_right _ h))) (by decide +kernel))
set_option maxRecDepth 20000 in
theorem gL_law_L_isCall : GoodIn wsL_law (va_wsS RL 112 yL_isCall wsL_isCall) := goodIn_app (goodIn_of _ (by decide +kernel)) ggL_law_L_isCall
theorem dL_law_0 : decode cL_law 0 = .ok (.new 9, 3) := by decide +kernel
theorem dL_law_3 : decode cL_law 3 = .ok (.dup, 1) := by decide +kernel
theorem dL_law_4 : decode cL_law 4 = .ok (.invokespecial 92, 3) := by decide +kernel
theorem dL_law_7 : decode cL_law 7 = .ok (.astore_n 1, 1) := by decide +kernel
theorem dL_law_8 : decode cL_law 8 = .ok (.bipush 32, 2) := by decide +kernel
theorem dL_law_10 : decode cL_law 10 = .ok (.newarray .int, 2) := by decide +kernel
theorem dL_law_12 : decode cL_law 12 = .ok (.astore_n 2, 1) := by decide +kernel
theorem dL_law_13 : decode cL_law 13 = .ok (.iconst 0, 1) := by decide +kernel
theorem dL_law_14 : decode cL_law 14 = .ok (.istore_n 3, 1) := by decide +kernel
theorem dL_law_15 : decode cL_law 15 = .ok (.iload_n 3, 1) := by decide +kernel
theorem dL_law_16 : decode cL_law 16 = .ok (.bipush 36, 2) := by decide +kernel
theorem dL_law_18 : decode cL_law 18 = .ok (.if_icmp .ge 247, 3) := by decide +kernel
theorem dL_law_21 : decode cL_law 21 = .ok (.iload_n 3, 1) := by decide +kernel
theorem dL_law_22 : decode cL_law 22 = .ok (.iconst 3, 1) := by decide +kernel
theorem dL_law_23 : decode cL_law 23 = .ok (.if_icmp .ge 7, 3) := by decide +kernel
theorem dL_law_26 : decode cL_law 26 = .ok (.iconst 0, 1) := by decide +kernel
theorem dL_law_27 : decode cL_law 27 = .ok (.goto 10, 3) := by decide +kernel
theorem dL_law_30 : decode cL_law 30 = .ok (.aload_n 0, 1) := by decide +kernel
theorem dL_law_31 : decode cL_law 31 = .ok (.iconst 2, 1) := by decide +kernel
theorem dL_law_32 : decode cL_law 32 = .ok (.iload_n 3, 1) := by decide +kernel
theorem dL_law_33 : decode cL_law 33 = .ok (.imul, 1) := by decide +kernel
theorem dL_law_34 : decode cL_law 34 = .ok (.invokestatic 93, 3) := by decide +kernel
theorem dL_law_37 : decode cL_law 37 = .ok (.istore 4, 2) := by decide +kernel
theorem dL_law_39 : decode cL_law 39 = .ok (.aload_n 0, 1) := by decide +kernel
theorem dL_law_40 : decode cL_law 40 = .ok (.iconst 2, 1) := by decide +kernel
theorem dL_law_41 : decode cL_law 41 = .ok (.iload_n 3, 1) := by decide +kernel
theorem dL_law_42 : decode cL_law 42 = .ok (.imul, 1) := by decide +kernel
theorem dL_law_43 : decode cL_law 43 = .ok (.iconst 1, 1) := by decide +kernel
theorem dL_law_44 : decode cL_law 44 = .ok (.iadd, 1) := by decide +kernel
theorem dL_law_45 : decode cL_law 45 = .ok (.invokestatic 93, 3) := by decide +kernel
theorem dL_law_48 : decode cL_law 48 = .ok (.istore 5, 2) := by decide +kernel
theorem dL_law_50 : decode cL_law 50 = .ok (.aload_n 1, 1) := by decide +kernel
theorem dL_law_51 : decode cL_law 51 = .ok (.invokevirtual 97, 3) := by decide +kernel
theorem dL_law_54 : decode cL_law 54 = .ok (.bipush 6, 2) := by decide +kernel
theorem dL_law_56 : decode cL_law 56 = .ok (.if_icmp .ne 13, 3) := by decide +kernel
theorem dL_law_59 : decode cL_law 59 = .ok (.aload_n 1, 1) := by decide +kernel
theorem dL_law_60 : decode cL_law 60 = .ok (.invokevirtual 82, 3) := by decide +kernel
theorem dL_law_63 : decode cL_law 63 = .ok (.pop, 1) := by decide +kernel
theorem dL_law_64 : decode cL_law 64 = .ok (.aload_n 1, 1) := by decide +kernel
theorem dL_law_65 : decode cL_law 65 = .ok (.invokevirtual 82, 3) := by decide +kernel
theorem dL_law_68 : decode cL_law 68 = .ok (.pop, 1) := by decide +kernel
theorem dL_law_69 : decode cL_law 69 = .ok (.aload_n 1, 1) := by decide +kernel
theorem dL_law_70 : decode cL_law 70 = .ok (.invokevirtual 97, 3) := by decide +kernel
theorem dL_law_73 : decode cL_law 73 = .ok (.istore 6, 2) := by decide +kernel
theorem dL_law_75 : decode cL_law 75 = .ok (.aload_n 1, 1) := by decide +kernel
theorem dL_law_76 : decode cL_law 76 = .ok (.invokevirtual 88, 3) := by decide +kernel
theorem dL_law_79 : decode cL_law 79 = .ok (.lstore 7, 2) := by decide +kernel
theorem dL_law_81 : decode cL_law 81 = .ok (.aload_n 1, 1) := by decide +kernel
theorem dL_law_82 : decode cL_law 82 = .ok (.iload 4, 2) := by decide +kernel
theorem dL_law_84 : decode cL_law 84 = .ok (.iload 5, 2) := by decide +kernel
theorem dL_law_86 : decode cL_law 86 = .ok (.invokestatic 100, 3) := by decide +kernel
theorem dL_law_89 : decode cL_law 89 = .ok (.istore 9, 2) := by decide +kernel
theorem dL_law_91 : decode cL_law 91 = .ok (.aload_n 1, 1) := by decide +kernel
theorem dL_law_92 : decode cL_law 92 = .ok (.invokevirtual 88, 3) := by decide +kernel
theorem dL_law_95 : decode cL_law 95 = .ok (.lstore 10, 2) := by decide +kernel
theorem dL_law_97 : decode cL_law 97 = .ok (.iload 9, 2) := by decide +kernel
theorem dL_law_99 : decode cL_law 99 = .ok (.bipush (-9), 2) := by decide +kernel
theorem dL_law_101 : decode cL_law 101 = .ok (.if_icmp .ne 23, 3) := by decide +kernel
theorem dL_law_104 : decode cL_law 104 = .ok (.lload 10, 2) := by decide +kernel
theorem dL_law_106 : decode cL_law 106 = .ok (.lload 7, 2) := by decide +kernel
theorem dL_law_108 : decode cL_law 108 = .ok (.lcmp, 1) := by decide +kernel
theorem dL_law_109 : decode cL_law 109 = .ok (.ifCond .ne 26, 3) := by decide +kernel
theorem dL_law_112 : decode cL_law 112 = .ok (.aload_n 1, 1) := by decide +kernel
theorem dL_law_113 : decode cL_law 113 = .ok (.invokevirtual 97, 3) := by decide +kernel
theorem dL_law_116 : decode cL_law 116 = .ok (.iload 6, 2) := by decide +kernel
theorem dL_law_118 : decode cL_law 118 = .ok (.if_icmp .eq 19, 3) := by decide +kernel
theorem dL_law_121 : decode cL_law 121 = .ok (.goto 14, 3) := by decide +kernel
theorem dL_law_124 : decode cL_law 124 = .ok (.aload_n 1, 1) := by decide +kernel
theorem dL_law_125 : decode cL_law 125 = .ok (.invokevirtual 97, 3) := by decide +kernel
theorem dL_law_128 : decode cL_law 128 = .ok (.iload 6, 2) := by decide +kernel
theorem dL_law_130 : decode cL_law 130 = .ok (.iconst 1, 1) := by decide +kernel
theorem dL_law_131 : decode cL_law 131 = .ok (.iadd, 1) := by decide +kernel
theorem dL_law_132 : decode cL_law 132 = .ok (.if_icmp .eq 5, 3) := by decide +kernel
theorem dL_law_135 : decode cL_law 135 = .ok (.iconst 0, 1) := by decide +kernel
theorem dL_law_136 : decode cL_law 136 = .ok (.ireturn, 1) := by decide +kernel
theorem dL_law_137 : decode cL_law 137 = .ok (.iload 9, 2) := by decide +kernel
theorem dL_law_139 : decode cL_law 139 = .ok (.bipush (-9), 2) := by decide +kernel
theorem dL_law_141 : decode cL_law 141 = .ok (.if_icmp .eq 57, 3) := by decide +kernel
theorem dL_law_144 : decode cL_law 144 = .ok (.iload 4, 2) := by decide +kernel
theorem dL_law_146 : decode cL_law 146 = .ok (.bipush 10, 2) := by decide +kernel
theorem dL_law_148 : decode cL_law 148 = .ok (.ishr, 1) := by decide +kernel
theorem dL_law_149 : decode cL_law 149 = .ok (.iconst 1, 1) := by decide +kernel
theorem dL_law_150 : decode cL_law 150 = .ok (.iand, 1) := by decide +kernel
theorem dL_law_151 : decode cL_law 151 = .ok (.ifCond .ne 47, 3) := by decide +kernel
theorem dL_law_154 : decode cL_law 154 = .ok (.aload_n 1, 1) := by decide +kernel
theorem dL_law_155 : decode cL_law 155 = .ok (.invokevirtual 82, 3) := by decide +kernel
theorem dL_law_158 : decode cL_law 158 = .ok (.iload 6, 2) := by decide +kernel
theorem dL_law_160 : decode cL_law 160 = .ok (.if_icmp .ne 36, 3) := by decide +kernel
theorem dL_law_163 : decode cL_law 163 = .ok (.aload_n 1, 1) := by decide +kernel
theorem dL_law_164 : decode cL_law 164 = .ok (.invokevirtual 88, 3) := by decide +kernel
theorem dL_law_167 : decode cL_law 167 = .ok (.lload 7, 2) := by decide +kernel
theorem dL_law_169 : decode cL_law 169 = .ok (.lcmp, 1) := by decide +kernel
theorem dL_law_170 : decode cL_law 170 = .ok (.ifCond .ne 26, 3) := by decide +kernel
theorem dL_law_173 : decode cL_law 173 = .ok (.aload_n 1, 1) := by decide +kernel
theorem dL_law_174 : decode cL_law 174 = .ok (.iload 4, 2) := by decide +kernel
theorem dL_law_176 : decode cL_law 176 = .ok (.iload 5, 2) := by decide +kernel
theorem dL_law_178 : decode cL_law 178 = .ok (.invokestatic 100, 3) := by decide +kernel
theorem dL_law_181 : decode cL_law 181 = .ok (.iload 9, 2) := by decide +kernel
theorem dL_law_183 : decode cL_law 183 = .ok (.if_icmp .ne 13, 3) := by decide +kernel
theorem dL_law_186 : decode cL_law 186 = .ok (.aload_n 1, 1) := by decide +kernel
theorem dL_law_187 : decode cL_law 187 = .ok (.invokevirtual 88, 3) := by decide +kernel
theorem dL_law_190 : decode cL_law 190 = .ok (.lload 10, 2) := by decide +kernel
theorem dL_law_192 : decode cL_law 192 = .ok (.lcmp, 1) := by decide +kernel
theorem dL_law_193 : decode cL_law 193 = .ok (.ifCond .eq 5, 3) := by decide +kernel
theorem dL_law_196 : decode cL_law 196 = .ok (.iconst 0, 1) := by decide +kernel
theorem dL_law_197 : decode cL_law 197 = .ok (.ireturn, 1) := by decide +kernel
theorem dL_law_198 : decode cL_law 198 = .ok (.aload_n 1, 1) := by decide +kernel
theorem dL_law_199 : decode cL_law 199 = .ok (.invokestatic 104, 3) := by decide +kernel
theorem dL_law_202 : decode cL_law 202 = .ok (.ifCond .eq 55, 3) := by decide +kernel
theorem dL_law_205 : decode cL_law 205 = .ok (.aload_n 1, 1) := by decide +kernel
theorem dL_law_206 : decode cL_law 206 = .ok (.invokevirtual 97, 3) := by decide +kernel
theorem dL_law_209 : decode cL_law 209 = .ok (.bipush 6, 2) := by decide +kernel
theorem dL_law_211 : decode cL_law 211 = .ok (.if_icmp .ge 48, 3) := by decide +kernel
theorem dL_law_214 : decode cL_law 214 = .ok (.aload_n 1, 1) := by decide +kernel
theorem dL_law_215 : decode cL_law 215 = .ok (.aload_n 2, 1) := by decide +kernel
theorem dL_law_216 : decode cL_law 216 = .ok (.iconst 1, 1) := by decide +kernel
theorem dL_law_217 : decode cL_law 217 = .ok (.iload 5, 2) := by decide +kernel
theorem dL_law_219 : decode cL_law 219 = .ok (.iconst 3, 1) := by decide +kernel
theorem dL_law_220 : decode cL_law 220 = .ok (.ishr, 1) := by decide +kernel
theorem dL_law_221 : decode cL_law 221 = .ok (.iconst 5, 1) := by decide +kernel
theorem dL_law_222 : decode cL_law 222 = .ok (.invokestatic 14, 3) := by decide +kernel
theorem dL_law_225 : decode cL_law 225 = .ok (.iadd, 1) := by decide +kernel
theorem dL_law_226 : decode cL_law 226 = .ok (.invokestatic 108, 3) := by decide +kernel
theorem dL_law_229 : decode cL_law 229 = .ok (.ifCond .eq 28, 3) := by decide +kernel
theorem dL_law_232 : decode cL_law 232 = .ok (.aload_n 1, 1) := by decide +kernel
theorem dL_law_233 : decode cL_law 233 = .ok (.invokevirtual 8, 3) := by decide +kernel
theorem dL_law_236 : decode cL_law 236 = .ok (.ifCond .le 23, 3) := by decide +kernel
theorem dL_law_239 : decode cL_law 239 = .ok (.aload_n 1, 1) := by decide +kernel
theorem dL_law_240 : decode cL_law 240 = .ok (.iload 5, 2) := by decide +kernel
theorem dL_law_242 : decode cL_law 242 = .ok (.iconst 5, 1) := by decide +kernel
theorem dL_law_243 : decode cL_law 243 = .ok (.ishr, 1) := by decide +kernel
theorem dL_law_244 : decode cL_law 244 = .ok (.aload_n 1, 1) := by decide +kernel
theorem dL_law_245 : decode cL_law 245 = .ok (.invokevirtual 8, 3) := by decide +kernel
theorem dL_law_248 : decode cL_law 248 = .ok (.invokestatic 14, 3) := by decide +kernel
theorem dL_law_251 : decode cL_law 251 = .ok (.invokestatic 112, 3) := by decide +kernel
theorem dL_law_254 : decode cL_law 254 = .ok (.ifCond .ne 5, 3) := by decide +kernel
theorem dL_law_257 : decode cL_law 257 = .ok (.iconst 0, 1) := by decide +kernel
theorem dL_law_258 : decode cL_law 258 = .ok (.ireturn, 1) := by decide +kernel
theorem dL_law_259 : decode cL_law 259 = .ok (.iinc 3 1, 3) := by decide +kernel
theorem dL_law_262 : decode cL_law 262 = .ok (.goto (-247), 3) := by decide +kernel
theorem dL_law_265 : decode cL_law 265 = .ok (.iconst 1, 1) := by decide +kernel
theorem dL_law_266 : decode cL_law 266 = .ok (.ireturn, 1) := by decide +kernel
