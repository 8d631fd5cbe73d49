theorem dL_cell_0 : decode cL_cell 0 = .ok (.iload_n 1, 1) := by decide +kernel
theorem dL_cell_1 : decode cL_cell 1 = .ok (.aload_n 0, 1) := by decide +kernel
theorem dL_cell_2 : decode cL_cell 2 = .ok (.arraylength, 1) := by decide +kernel
theorem dL_cell_3 : decode cL_cell 3 = .ok (.if_icmp .ge 9, 3) := by decide +kernel
theorem dL_cell_6 : decode cL_cell 6 = .ok (.aload_n 0, 1) := by decide +kernel
theorem dL_cell_7 : decode cL_cell 7 = .ok (.iload_n 1, 1) := by decide +kernel
theorem dL_cell_8 : decode cL_cell 8 = .ok (.iaload, 1) := by decide +kernel
theorem dL_cell_9 : decode cL_cell 9 = .ok (.goto 15, 3) := by decide +kernel
theorem dL_cell_12 : decode cL_cell 12 = .ok (.sipush 7919, 3) := by decide +kernel
theorem dL_cell_15 : decode cL_cell 15 = .ok (.iload_n 1, 1) := by decide +kernel
theorem dL_cell_16 : decode cL_cell 16 = .ok (.iconst 3, 1) := by decide +kernel
theorem dL_cell_17 : decode cL_cell 17 = .ok (.iadd, 1) := by decide +kernel
theorem dL_cell_18 : decode cL_cell 18 = .ok (.imul, 1) := by decide +kernel
theorem dL_cell_19 : decode cL_cell 19 = .ok (.iload_n 1, 1) := by decide +kernel
theorem dL_cell_20 : decode cL_cell 20 = .ok (.bipush 11, 2) := by decide +kernel
theorem dL_cell_22 : decode cL_cell 22 = .ok (.iadd, 1) := by decide +kernel
theorem dL_cell_23 : decode cL_cell 23 = .ok (.imul, 1) := by decide +kernel
theorem dL_cell_24 : decode cL_cell 24 = .ok (.ireturn, 1) := by decide +kernel
theorem dL_low_0 : decode cL_low 0 = .ok (.iload_n 0, 1) := by decide +kernel
theorem dL_low_1 : decode cL_low 1 = .ok (.ldc 7, 2) := by decide +kernel
theorem dL_low_3 : decode cL_low 3 = .ok (.iand, 1) := by decide +kernel
theorem dL_low_4 : decode cL_low 4 = .ok (.iload_n 1, 1) := by decide +kernel
theorem dL_low_5 : decode cL_low 5 = .ok (.irem, 1) := by decide +kernel
theorem dL_low_6 : decode cL_low 6 = .ok (.ireturn, 1) := by decide +kernel
set_option maxRecDepth 20000 in
theorem ggL_act_X5_records : GoodIn wsL_act wsX5_records := goodIn_r _ [5, 6, 7, 215, 216, 217, 218, 219, 220, 221, 222, 223, 224, 225, 226, 227, 228, 229, 230, 231] (by decide +kernel) (by decide +kernel)
set_option maxRecDepth 20000 in
theorem gL_act_X5_records : GoodIn wsL_act (wsV RL 8 RX5 yX5_records wsX5_records) := goodIn_app (goodIn_of _ (by decide +kernel)) ggL_act_X5_records
set_option maxRecDepth 20000 in
theorem ggL_act_L_low : GoodIn wsL_act wsL_low := goodIn_r _ [11, 12] (by decide +kernel) (by decide +kernel)
set_option maxRecDepth 20000 in
theorem gL_act_L_low : GoodIn wsL_act (va_wsS RL 14 yL_low wsL_low) := goodIn_app (goodIn_of _ (by decide +kernel)) ggL_act_L_low
set_option maxRecDepth 20000 in
theorem ggL_act_X5_free : GoodIn wsL_act wsX5_free := goodIn_ca (goodIn_r _ [16, 6, 17, 18, 4, 19, 20, 21, 22, 23, 24, 25, 26, 27, 28, 215, 216, 217, 218, 219, 220, 221, 222, 223, 224, 225, 226, 227, 228, 229, 230, 231] (by decide +kernel) (by decide +kernel)) (goodIn_sub (fun _ h => List.mem_cons_of_mem _ (List.mem_append_left _ (List.mem_append_left _ (List.mem_append_right _ h)))) (by decide +kernel))
set_option maxRecDepth 20000 in
theorem gL_act_X5_free : GoodIn wsL_act (wsV RL 20 RX5 yX5_free wsX5_free) := goodIn_app (goodIn_of _ (by decide +kernel)) ggL_act_X5_free
set_option maxRecDepth 20000 in
theorem ggL_act_X5_addRecord : GoodIn wsL_act wsX5_addRecord := goodIn_ca (goodIn_ca (goodIn_ca (goodIn_r _ [32, 33, 34, 6, 17, 18, 4, 19, 20, 21, 35, 36, 37, 38, 39, 40, 41, 42, 25, 43, 44, 45, 23, 24, 26, 27, 28, 46, 47, 48, 49, 50, 51, 52, 53, 54, 55, 56, 57, 58, 59, 60, 61, 62, 63, 64, 65, 66, 67, 68, 69, 70, 71, 72, 73, 74, 75, 215, 216, 217, 218, 219, 220, 221, 222, 223, 224, 225, 226, 227, 228, 229, 230, 231] (by decide +kernel) (by decide +kernel)) (goodIn_sub (fun _ h => List.mem_cons_of_mem _ (List.mem_append_left _ (List.mem_append_right _ h))) (by decide +kernel))) (goodIn_sub (fun _ h => List.mem_cons_of_mem _ (List.mem_append_left _ (List.mem_append_left _ (List.mem_append_right _ h)))) (by decide +kernel))) (goodIn_sub (fun _ h => List.mem_cons_of_mem _ (List.mem_append_right _ h)) (by decide +kernel))
set_option maxRecDepth 20000 in
theorem gL_act_X5_addRecord : GoodIn wsL_act (wsV RL 24 RX5 yX5_addRecord wsX5_addRecord) := goodIn_app (goodIn_of _ (by decide +kernel)) ggL_act_X5_addRecord
set_option maxRecDepth 20000 in
theorem ggL_act_X5_setShelf : GoodIn wsL_act wsX5_setShelf := goodIn_ca (goodIn_ca (goodIn_ca (goodIn_r _ [79, 38, 39, 33, 34, 6, 80, 81, 82, 17, 18, 4, 19, 20, 21, 46, 47, 48, 49, 50, 51, 52, 53, 54, 55, 56, 57, 58, 25, 59, 27, 60, 61, 62, 63, 64, 28, 65, 66, 67, 68, 69, 44, 70, 71, 22, 23, 24, 26, 215, 216, 217, 218, 219, 220, 221, 222, 223, 224, 225, 226, 227, 228, 229, 230, 231] (by decide +kernel) (by decide +kernel)) (goodIn_sub (fun _ h => List.mem_cons_of_mem _ (List.mem_append_right _ h)) (by decide +kernel))) (goodIn_sub (fun _ h => List.mem_cons_of_mem _ (List.mem_append_left _ (List.mem_append_right _ h))) (by decide +kernel))) (goodIn_sub (fun _ h => List.mem_cons_of_mem _ (List.mem_append_left _ (List.mem_append_left _ (List.mem_append_right _ h)))) (by decide +kernel))
set_option maxRecDepth 20000 in
theorem gL_act_X5_setShelf : GoodIn wsL_act (wsV RL 27 RX5 yX5_setShelf wsX5_setShelf) := goodIn_app (goodIn_of _ (by decide +kernel)) ggL_act_X5_setShelf
set_option maxRecDepth 20000 in
theorem ggL_act_X5_removeRecord : GoodIn wsL_act wsX5_removeRecord := goodIn_ca (goodIn_r _ [86, 6, 87, 88, 89, 4, 90, 20, 21, 91, 92, 93, 25, 94, 44, 46, 47, 48, 49, 50, 51, 52, 53, 54, 55, 56, 57, 58, 59, 27, 60, 61, 62, 63, 64, 28, 65, 66, 67, 68, 69, 70, 71, 95, 96, 97, 98, 215, 216, 217, 218, 219, 220, 221, 222, 223, 224, 225, 226, 227, 228, 229, 230, 231] (by decide +kernel) (by decide +kernel)) (goodIn_sub (fun _ h => List.mem_cons_of_mem _ (List.mem_append_left _ (List.mem_append_left _ (List.mem_append_right _ h)))) (by decide +kernel))
set_option maxRecDepth 20000 in
theorem gL_act_X5_removeRecord : GoodIn wsL_act (wsV RL 31 RX5 yX5_removeRecord wsX5_removeRecord) := goodIn_app (goodIn_of _ (by decide +kernel)) ggL_act_X5_removeRecord
set_option maxRecDepth 20000 in
theorem ggL_act_X5_shelfOf : GoodIn wsL_act wsX5_shelfOf := goodIn_ca (goodIn_r _ [102, 6, 103, 87, 88, 89, 4, 90, 20, 21, 91, 92, 93, 25, 94, 44, 215, 216, 217, 218, 219, 220, 221, 222, 223, 224, 225, 226, 227, 228, 229, 230, 231] (by decide +kernel) (by decide +kernel)) (goodIn_sub (fun _ h => List.mem_cons_of_mem _ (List.mem_append_left _ (List.mem_append_left _ (List.mem_append_right _ h)))) (by decide +kernel))
set_option maxRecDepth 20000 in
theorem gL_act_X5_shelfOf : GoodIn wsL_act (wsV RL 34 RX5 yX5_shelfOf wsX5_shelfOf) := goodIn_app (goodIn_of _ (by decide +kernel)) ggL_act_X5_shelfOf
set_option maxRecDepth 20000 in
theorem ggL_act_X5_width : GoodIn wsL_act wsX5_width := goodIn_ca (goodIn_r _ [107, 6, 108, 87, 88, 89, 4, 90, 20, 21, 91, 92, 93, 25, 94, 44, 215, 216, 217, 218, 219, 220, 221, 222, 223, 224, 225, 226, 227, 228, 229, 230, 231] (by decide +kernel) (by decide +kernel)) (goodIn_sub (fun _ h => List.mem_cons_of_mem _ (List.mem_append_left _ (List.mem_append_left _ (List.mem_append_right _ h)))) (by decide +kernel))
set_option maxRecDepth 20000 in
theorem gL_act_X5_width : GoodIn wsL_act (wsV RL 37 RX5 yX5_width wsX5_width) := goodIn_app (goodIn_of _ (by decide +kernel)) ggL_act_X5_width
set_option maxRecDepth 20000 in
theorem ggL_act_X5_misplace : GoodIn wsL_act wsX5_misplace := goodIn_ca (goodIn_ca (goodIn_r _ [112, 33, 34, 6, 87, 88, 89, 4, 90, 20, 21, 91, 92, 93, 25, 94, 44, 17, 18, 19, 113, 114, 115, 116, 66, 65, 45, 23, 24, 26, 27, 28, 46, 47, 48, 49, 50, 51, 52, 53, 54, 55, 56, 57, 58, 59, 60, 61, 62, 63, 64, 67, 68, 69, 70, 71, 117, 118, 119, 120, 215, 216, 217, 218, 219, 220, 221, 222, 223, 224, 225, 226, 227, 228, 229, 230, 231] (by decide +kernel) (by decide +kernel)) (goodIn_sub (fun _ h => List.mem_cons_of_mem _ (List.mem_append_left _ (List.mem_append_right _ h))) (by decide +kernel))) (goodIn_sub (fun _ h => List.mem_cons_of_mem _ (List.mem_append_left _ (List.mem_append_left _ (List.mem_append_right _ h)))) (by decide +kernel))
set_option maxRecDepth 20000 in
theorem gL_act_X5_misplace : GoodIn wsL_act (wsV RL 40 RX5 yX5_misplace wsX5_misplace) := goodIn_app (goodIn_of _ (by decide +kernel)) ggL_act_X5_misplace
set_option maxRecDepth 20000 in
theorem ggL_act_X5_month : GoodIn wsL_act wsX5_month := goodIn_r _ [124, 6, 46, 47, 48, 4, 49, 50, 51, 52, 53, 54, 55, 56, 57, 58, 25, 59, 27, 60, 61, 62, 63, 64, 28, 65, 66, 67, 68, 69, 44, 70, 71, 125, 126, 127, 128, 215, 216, 217, 218, 219, 220, 221, 222, 223, 224, 225, 226, 227, 228, 229, 230, 231] (by decide +kernel) (by decide +kernel)
set_option maxRecDepth 20000 in
theorem gL_act_X5_month : GoodIn wsL_act (wsV RL 43 RX5 yX5_month wsX5_month) := goodIn_app (goodIn_of _ (by decide +kernel)) ggL_act_X5_month
set_option maxRecDepth 20000 in
theorem ggL_act_X5_night : GoodIn wsL_act wsX5_night := goodIn_ca (goodIn_r _ [132, 6, 133, 134, 135, 4, 136, 38, 39, 46, 47, 48, 49, 50, 51, 52, 53, 54, 55, 56, 57, 58, 25, 59, 27, 60, 61, 62, 63, 64, 28, 65, 66, 67, 68, 69, 44, 70, 71, 137, 138, 139, 140, 141, 142, 143, 144, 145, 146, 147, 148, 149, 150, 151, 152, 153, 154, 155, 156, 157, 158, 159, 45, 23, 24, 26, 160, 161, 162, 163, 164, 165, 166, 167, 168, 169, 170, 171, 172, 173, 174, 175, 176, 177, 178, 179, 180, 181, 182, 183, 184, 185, 186, 187, 188, 189, 190, 191, 192, 193, 194, 195, 196, 197, 198, 118, 119, 120, 215, 216, 217, 218, 219, 220, 221, 222, 223, 224, 225, 226, 227, 228, 229, 230, 231, 232, 233, 234, 235] (by decide +kernel) (by decide +kernel)) (goodIn_sub (fun _ h => List.mem_cons_of_mem _ (List.mem_append_right _ h)) (by decide +kernel))
set_option maxRecDepth 20000 in
theorem gL_act_X5_night : GoodIn wsL_act (wsV RL 46 RX5 yX5_night wsX5_night) := goodIn_app (goodIn_of _ (by decide +kernel)) ggL_act_X5_night
set_option maxRecDepth 20000 in
theorem ggL_act_X5_call : GoodIn wsL_act wsX5_call := goodIn_ca (goodIn_r _ [202, 6, 87, 88, 89, 4, 90, 20, 21, 91, 92, 93, 25, 94, 44, 46, 47, 48, 49, 50, 51, 52, 53, 54, 55, 56, 57, 58, 59, 27, 60, 61, 62, 63, 64, 28, 65, 66, 67, 68, 69, 70, 71, 203, 204, 205, 206, 207, 208, 209, 210, 152, 153, 154, 155, 211, 212, 213, 214, 215, 216, 217, 218, 219, 220, 221, 222, 223, 224, 225, 226, 227, 228, 229, 230, 231] (by decide +kernel) (by decide +kernel)) (goodIn_sub (fun _ h => List.mem_cons_of_mem _ (List.mem_append_left _ (List.mem_append_left _ (List.mem_append_right _ h)))) (by decide +kernel))
set_option maxRecDepth 20000 in
theorem gL_act_X5_call : GoodIn wsL_act (wsV RL 49 RX5 yX5_call wsX5_call) := goodIn_app (goodIn_of _ (by decide +kernel)) ggL_act_X5_call
theorem dL_act_0 : decode cL_act 0 = .ok (.aload_n 0, 1) := by decide +kernel
theorem dL_act_1 : decode cL_act 1 = .ok (.invokevirtual 8, 3) := by decide +kernel
theorem dL_act_4 : decode cL_act 4 = .ok (.istore_n 3, 1) := by decide +kernel
theorem dL_act_5 : decode cL_act 5 = .ok (.iload_n 3, 1) := by decide +kernel
theorem dL_act_6 : decode cL_act 6 = .ok (.ifCond .ne 7, 3) := by decide +kernel
theorem dL_act_9 : decode cL_act 9 = .ok (.iconst 0, 1) := by decide +kernel
theorem dL_act_10 : decode cL_act 10 = .ok (.goto 10, 3) := by decide +kernel
theorem dL_act_13 : decode cL_act 13 = .ok (.iload_n 1, 1) := by decide +kernel
theorem dL_act_14 : decode cL_act 14 = .ok (.iconst 4, 1) := by decide +kernel
theorem dL_act_15 : decode cL_act 15 = .ok (.ishr, 1) := by decide +kernel
theorem dL_act_16 : decode cL_act 16 = .ok (.iload_n 3, 1) := by decide +kernel
theorem dL_act_17 : decode cL_act 17 = .ok (.invokestatic 14, 3) := by decide +kernel
theorem dL_act_20 : decode cL_act 20 = .ok (.istore 4, 2) := by decide +kernel
theorem dL_act_22 : decode cL_act 22 = .ok (.iload_n 2, 1) := by decide +kernel
theorem dL_act_23 : decode cL_act 23 = .ok (.bipush 6, 2) := by decide +kernel
theorem dL_act_25 : decode cL_act 25 = .ok (.invokestatic 14, 3) := by decide +kernel
theorem dL_act_28 : decode cL_act 28 = .ok (.istore 5, 2) := by decide +kernel
theorem dL_act_30 : decode cL_act 30 = .ok (.iload_n 1, 1) := by decide +kernel
theorem dL_act_31 : decode cL_act 31 = .ok (.bipush 15, 2) := by decide +kernel
theorem dL_act_33 : decode cL_act 33 = .ok (.iand, 1) := by decide +kernel
theorem dL_act_34 : decode cL_act 34 = .ok (.tableswitch 212 0 10 #[58, 58, 58, 58, 115, 134, 150, 150, 194, 199, 199], 58) := by decide +kernel
theorem dL_act_92 : decode cL_act 92 = .ok (.iconst 1, 1) := by decide +kernel
theorem dL_act_93 : decode cL_act 93 = .ok (.iload_n 2, 1) := by decide +kernel
theorem dL_act_94 : decode cL_act 94 = .ok (.iconst 4, 1) := by decide +kernel
theorem dL_act_95 : decode cL_act 95 = .ok (.ishr, 1) := by decide +kernel
theorem dL_act_96 : decode cL_act 96 = .ok (.iload_n 2, 1) := by decide +kernel
theorem dL_act_97 : decode cL_act 97 = .ok (.bipush 20, 2) := by decide +kernel
theorem dL_act_99 : decode cL_act 99 = .ok (.ishr, 1) := by decide +kernel
theorem dL_act_100 : decode cL_act 100 = .ok (.iconst 1, 1) := by decide +kernel
theorem dL_act_101 : decode cL_act 101 = .ok (.iand, 1) := by decide +kernel
theorem dL_act_102 : decode cL_act 102 = .ok (.ifCond .ne 8, 3) := by decide +kernel
theorem dL_act_105 : decode cL_act 105 = .ok (.bipush 9, 2) := by decide +kernel
theorem dL_act_107 : decode cL_act 107 = .ok (.goto 5, 3) := by decide +kernel
theorem dL_act_110 : decode cL_act 110 = .ok (.bipush 30, 2) := by decide +kernel
theorem dL_act_112 : decode cL_act 112 = .ok (.invokestatic 14, 3) := by decide +kernel
theorem dL_act_115 : decode cL_act 115 = .ok (.iadd, 1) := by decide +kernel
theorem dL_act_116 : decode cL_act 116 = .ok (.istore 6, 2) := by decide +kernel
theorem dL_act_118 : decode cL_act 118 = .ok (.iload_n 3, 1) := by decide +kernel
theorem dL_act_119 : decode cL_act 119 = .ok (.bipush 16, 2) := by decide +kernel
theorem dL_act_121 : decode cL_act 121 = .ok (.if_icmp .eq 14, 3) := by decide +kernel
theorem dL_act_124 : decode cL_act 124 = .ok (.aload_n 0, 1) := by decide +kernel
theorem dL_act_125 : decode cL_act 125 = .ok (.iload 5, 2) := by decide +kernel
theorem dL_act_127 : decode cL_act 127 = .ok (.invokevirtual 20, 3) := by decide +kernel
theorem dL_act_130 : decode cL_act 130 = .ok (.iload 6, 2) := by decide +kernel
theorem dL_act_132 : decode cL_act 132 = .ok (.if_icmp .ge 8, 3) := by decide +kernel
theorem dL_act_135 : decode cL_act 135 = .ok (.bipush (-9), 2) := by decide +kernel
theorem dL_act_137 : decode cL_act 137 = .ok (.goto 11, 3) := by decide +kernel
theorem dL_act_140 : decode cL_act 140 = .ok (.aload_n 0, 1) := by decide +kernel
theorem dL_act_141 : decode cL_act 141 = .ok (.iload 6, 2) := by decide +kernel
theorem dL_act_143 : decode cL_act 143 = .ok (.iload 5, 2) := by decide +kernel
theorem dL_act_145 : decode cL_act 145 = .ok (.invokevirtual 24, 3) := by decide +kernel
theorem dL_act_148 : decode cL_act 148 = .ok (.ireturn, 1) := by decide +kernel
theorem dL_act_149 : decode cL_act 149 = .ok (.aload_n 0, 1) := by decide +kernel
theorem dL_act_150 : decode cL_act 150 = .ok (.iload 5, 2) := by decide +kernel
theorem dL_act_152 : decode cL_act 152 = .ok (.bipush 99, 2) := by decide +kernel
theorem dL_act_154 : decode cL_act 154 = .ok (.iconst 1, 1) := by decide +kernel
theorem dL_act_155 : decode cL_act 155 = .ok (.iload_n 2, 1) := by decide +kernel
theorem dL_act_156 : decode cL_act 156 = .ok (.iconst 4, 1) := by decide +kernel
theorem dL_act_157 : decode cL_act 157 = .ok (.ishr, 1) := by decide +kernel
theorem dL_act_158 : decode cL_act 158 = .ok (.bipush 99, 2) := by decide +kernel
theorem dL_act_160 : decode cL_act 160 = .ok (.invokestatic 14, 3) := by decide +kernel
theorem dL_act_163 : decode cL_act 163 = .ok (.iadd, 1) := by decide +kernel
theorem dL_act_164 : decode cL_act 164 = .ok (.invokevirtual 27, 3) := by decide +kernel
theorem dL_act_167 : decode cL_act 167 = .ok (.ireturn, 1) := by decide +kernel
theorem dL_act_168 : decode cL_act 168 = .ok (.iload_n 3, 1) := by decide +kernel
theorem dL_act_169 : decode cL_act 169 = .ok (.ifCond .ne 8, 3) := by decide +kernel
theorem dL_act_172 : decode cL_act 172 = .ok (.bipush (-9), 2) := by decide +kernel
theorem dL_act_174 : decode cL_act 174 = .ok (.goto 9, 3) := by decide +kernel
theorem dL_act_177 : decode cL_act 177 = .ok (.aload_n 0, 1) := by decide +kernel
theorem dL_act_178 : decode cL_act 178 = .ok (.iload 4, 2) := by decide +kernel
theorem dL_act_180 : decode cL_act 180 = .ok (.invokevirtual 31, 3) := by decide +kernel
theorem dL_act_183 : decode cL_act 183 = .ok (.ireturn, 1) := by decide +kernel
theorem dL_act_184 : decode cL_act 184 = .ok (.iload_n 3, 1) := by decide +kernel
theorem dL_act_185 : decode cL_act 185 = .ok (.ifCond .eq 29, 3) := by decide +kernel
theorem dL_act_188 : decode cL_act 188 = .ok (.aload_n 0, 1) := by decide +kernel
theorem dL_act_189 : decode cL_act 189 = .ok (.iload 4, 2) := by decide +kernel
theorem dL_act_191 : decode cL_act 191 = .ok (.invokevirtual 34, 3) := by decide +kernel
theorem dL_act_194 : decode cL_act 194 = .ok (.iload 5, 2) := by decide +kernel
theorem dL_act_196 : decode cL_act 196 = .ok (.if_icmp .eq 23, 3) := by decide +kernel
theorem dL_act_199 : decode cL_act 199 = .ok (.aload_n 0, 1) := by decide +kernel
theorem dL_act_200 : decode cL_act 200 = .ok (.iload 5, 2) := by decide +kernel
theorem dL_act_202 : decode cL_act 202 = .ok (.invokevirtual 20, 3) := by decide +kernel
theorem dL_act_205 : decode cL_act 205 = .ok (.aload_n 0, 1) := by decide +kernel
theorem dL_act_206 : decode cL_act 206 = .ok (.iload 4, 2) := by decide +kernel
theorem dL_act_208 : decode cL_act 208 = .ok (.invokevirtual 37, 3) := by decide +kernel
theorem dL_act_211 : decode cL_act 211 = .ok (.if_icmp .ge 8, 3) := by decide +kernel
theorem dL_act_214 : decode cL_act 214 = .ok (.bipush (-9), 2) := by decide +kernel
theorem dL_act_216 : decode cL_act 216 = .ok (.goto 11, 3) := by decide +kernel
theorem dL_act_219 : decode cL_act 219 = .ok (.aload_n 0, 1) := by decide +kernel
theorem dL_act_220 : decode cL_act 220 = .ok (.iload 4, 2) := by decide +kernel
theorem dL_act_222 : decode cL_act 222 = .ok (.iload 5, 2) := by decide +kernel
theorem dL_act_224 : decode cL_act 224 = .ok (.invokevirtual 40, 3) := by decide +kernel
theorem dL_act_227 : decode cL_act 227 = .ok (.ireturn, 1) := by decide +kernel
theorem dL_act_228 : decode cL_act 228 = .ok (.aload_n 0, 1) := by decide +kernel
theorem dL_act_229 : decode cL_act 229 = .ok (.invokevirtual 43, 3) := by decide +kernel
theorem dL_act_232 : decode cL_act 232 = .ok (.ireturn, 1) := by decide +kernel
theorem dL_act_233 : decode cL_act 233 = .ok (.aload_n 0, 1) := by decide +kernel
theorem dL_act_234 : decode cL_act 234 = .ok (.iconst 1, 1) := by decide +kernel
theorem dL_act_235 : decode cL_act 235 = .ok (.iload_n 2, 1) := by decide +kernel
theorem dL_act_236 : decode cL_act 236 = .ok (.bipush 20, 2) := by decide +kernel
theorem dL_act_238 : decode cL_act 238 = .ok (.invokestatic 14, 3) := by decide +kernel
theorem dL_act_241 : decode cL_act 241 = .ok (.iadd, 1) := by decide +kernel
theorem dL_act_242 : decode cL_act 242 = .ok (.invokevirtual 46, 3) := by decide +kernel
theorem dL_act_245 : decode cL_act 245 = .ok (.ireturn, 1) := by decide +kernel
theorem dL_act_246 : decode cL_act 246 = .ok (.iload_n 3, 1) := by decide +kernel
theorem dL_act_247 : decode cL_act 247 = .ok (.ifCond .ne 8, 3) := by decide +kernel
theorem dL_act_250 : decode cL_act 250 = .ok (.bipush (-9), 2) := by decide +kernel
theorem dL_act_252 : decode cL_act 252 = .ok (.goto 9, 3) := by decide +kernel
theorem dL_act_255 : decode cL_act 255 = .ok (.aload_n 0, 1) := by decide +kernel
theorem dL_act_256 : decode cL_act 256 = .ok (.iload 4, 2) := by decide +kernel
theorem dL_act_258 : decode cL_act 258 = .ok (.invokevirtual 49, 3) := by decide +kernel
theorem dL_act_261 : decode cL_act 261 = .ok (.ireturn, 1) := by decide +kernel
set_option maxRecDepth 20000 in
theorem ggL_isNight_X5_cost : GoodIn wsL_isNight wsX5_cost := goodIn_r _ [5, 6, 7, 8, 9, 10, 11, 12, 13, 14, 15, 16, 17, 18, 19, 20, 177, 178, 179, 180, 181, 182, 183, 184, 185, 186, 187, 188, 189, 190, 191, 192, 193] (by decide +kernel) (by decide +kernel)
set_option maxRecDepth 20000 in
theorem gL_isNight_X5_cost : GoodIn wsL_isNight (wsV RL 67 RX5 yX5_cost wsX5_cost) := goodIn_app (goodIn_of _ (by decide +kernel)) ggL_isNight_X5_cost
set_option maxRecDepth 20000 in
theorem ggL_isNight_X5_records : GoodIn wsL_isNight wsX5_records := goodIn_r _ [24, 6, 25, 177, 178, 179, 180, 181, 182, 183, 184, 185, 186, 187, 188, 189, 190, 191, 192, 193] (by decide +kernel) (by decide +kernel)
set_option maxRecDepth 20000 in
theorem gL_isNight_X5_records : GoodIn wsL_isNight (wsV RL 8 RX5 yX5_records wsX5_records) := goodIn_app (goodIn_of _ (by decide +kernel)) ggL_isNight_X5_records
set_option maxRecDepth 20000 in
theorem ggL_isNight_X5_shelfOf : GoodIn wsL_isNight wsX5_shelfOf := goodIn_ca (goodIn_r _ [29, 6, 30, 31, 32, 33, 4, 34, 35, 36, 37, 38, 39, 10, 40, 12, 177, 178, 179, 180, 181, 182, 183, 184, 185, 186, 187, 188, 189, 190, 191, 192, 193] (by decide +kernel) (by decide +kernel)) (goodIn_sub (fun _ h => List.mem_cons_of_mem _ (List.mem_append_left _ (List.mem_append_left _ (List.mem_append_right _ h)))) (by decide +kernel))
set_option maxRecDepth 20000 in
theorem gL_isNight_X5_shelfOf : GoodIn wsL_isNight (wsV RL 34 RX5 yX5_shelfOf wsX5_shelfOf) := goodIn_app (goodIn_of _ (by decide +kernel)) ggL_isNight_X5_shelfOf
set_option maxRecDepth 20000 in
theorem ggL_isNight_X5_catalog : GoodIn wsL_isNight wsX5_catalog := goodIn_ca (goodIn_r _ [44, 6, 45, 31, 32, 33, 4, 34, 35, 36, 37, 38, 39, 10, 40, 12, 177, 178, 179, 180, 181, 182, 183, 184, 185, 186, 187, 188, 189, 190, 191, 192, 193] (by decide +kernel) (by decide +kernel)) (goodIn_sub (fun _ h => List.mem_cons_of_mem _ (List.mem_append_left _ (List.mem_append_left _ (List.mem_append_right _ h)))) (by decide +kernel))
set_option maxRecDepth 20000 in
theorem gL_isNight_X5_catalog : GoodIn wsL_isNight (wsV RL 52 RX5 yX5_catalog wsX5_catalog) := goodIn_app (goodIn_of _ (by decide +kernel)) ggL_isNight_X5_catalog
set_option maxRecDepth 20000 in
theorem ggL_isNight_X5_weight : GoodIn wsL_isNight wsX5_weight := goodIn_ca (goodIn_r _ [49, 6, 31, 32, 33, 4, 34, 35, 36, 37, 38, 39, 10, 40, 12, 50, 16, 17, 18, 19, 20, 177, 178, 179, 180, 181, 182, 183, 184, 185, 186, 187, 188, 189, 190, 191, 192, 193] (by decide +kernel) (by decide +kernel)) (goodIn_sub (fun _ h => List.mem_cons_of_mem _ (List.mem_append_left _ (List.mem_append_left _ (List.mem_append_right _ h)))) (by decide +kernel))
set_option maxRecDepth 20000 in
theorem gL_isNight_X5_weight : GoodIn wsL_isNight (wsV RL 58 RX5 yX5_weight wsX5_weight) := goodIn_app (goodIn_of _ (by decide +kernel)) ggL_isNight_X5_weight
set_option maxRecDepth 20000 in
theorem ggL_isNight_X5_width : GoodIn wsL_isNight wsX5_width := goodIn_ca (goodIn_r _ [54, 6, 55, 31, 32, 33, 4, 34, 35, 36, 37, 38, 39, 10, 40, 12, 177, 178, 179, 180, 181, 182, 183, 184, 185, 186, 187, 188, 189, 190, 191, 192, 193] (by decide +kernel) (by decide +kernel)) (goodIn_sub (fun _ h => List.mem_cons_of_mem _ (List.mem_append_left _ (List.mem_append_left _ (List.mem_append_right _ h)))) (by decide +kernel))
set_option maxRecDepth 20000 in
theorem gL_isNight_X5_width : GoodIn wsL_isNight (wsV RL 37 RX5 yX5_width wsX5_width) := goodIn_app (goodIn_of _ (by decide +kernel)) ggL_isNight_X5_width
set_option maxRecDepth 20000 in
theorem ggL_isNight_X5_costAfterNight : GoodIn wsL_isNight wsX5_costAfterNight := goodIn_ca (goodIn_r _ [59, 60, 6, 61, 62, 63, 4, 64, 65, 66, 67, 68, 69, 10, 70, 71, 72, 73, 74, 75, 13, 76, 77, 78, 14, 19, 20, 12, 79, 80, 81, 82, 83, 84, 85, 86, 87, 88, 89, 90, 91, 92, 93, 94, 95, 96, 97, 98, 99, 100, 101, 102, 103, 104, 105, 106, 107, 108, 109, 110, 111, 15, 16, 17, 18, 112, 113, 114, 115, 116, 117, 118, 119, 120, 121, 122, 123, 124, 125, 126, 127, 128, 129, 130, 131, 132, 133, 134, 135, 136, 137, 138, 139, 140, 141, 142, 143, 144, 145, 7, 8, 9, 11, 177, 178, 179, 180, 181, 182, 183, 184, 185, 186, 187, 188, 189, 190, 191, 192, 193, 194, 195, 196, 197] (by decide +kernel) (by decide +kernel)) (goodIn_sub (fun _ h => List.mem_cons_of_mem _ (List.mem_append_left _ (List.mem_append_right _ h))) (by decide +kernel))
set_option maxRecDepth 20000 in
theorem gL_isNight_X5_costAfterNight : GoodIn wsL_isNight (wsV RL 76 RX5 yX5_costAfterNight wsX5_costAfterNight) := goodIn_app (goodIn_of _ (by decide +kernel)) ggL_isNight_X5_costAfterNight
set_option maxRecDepth 20000 in
theorem ggL_isNight_X5_steps : GoodIn wsL_isNight wsX5_steps := goodIn_r _ [149, 6, 150, 177, 178, 179, 180, 181, 182, 183, 184, 185, 186, 187, 188, 189, 190, 191, 192, 193] (by decide +kernel) (by decide +kernel)
set_option maxRecDepth 20000 in
theorem gL_isNight_X5_steps : GoodIn wsL_isNight (wsV RL 79 RX5 yX5_steps wsX5_steps) := goodIn_app (goodIn_of _ (by decide +kernel)) ggL_isNight_X5_steps
set_option maxRecDepth 20000 in
theorem ggL_isNight_X5_night : GoodIn wsL_isNight wsX5_night := goodIn_ca (goodIn_r _ [154, 6, 61, 62, 63, 4, 64, 65, 66, 155, 156, 157, 158, 159, 160, 161, 162, 163, 164, 67, 68, 69, 10, 70, 71, 72, 73, 74, 75, 13, 76, 77, 78, 14, 19, 20, 12, 79, 80, 81, 82, 83, 84, 85, 86, 87, 88, 89, 90, 91, 92, 93, 94, 95, 96, 97, 98, 99, 100, 101, 102, 103, 104, 105, 106, 107, 108, 109, 110, 111, 15, 16, 17, 18, 112, 113, 114, 115, 116, 117, 118, 119, 120, 121, 122, 123, 124, 125, 126, 127, 128, 129, 130, 131, 132, 133, 134, 135, 136, 137, 138, 139, 140, 141, 142, 143, 144, 145, 177, 178, 179, 180, 181, 182, 183, 184, 185, 186, 187, 188, 189, 190, 191, 192, 193, 194, 195, 196, 197] (by decide +kernel) (by decide +kernel)) (goodIn_sub (fun _ h => List.mem_cons_of_mem _ (List.mem_append_left _ (List.mem_append_right _ h))) (by decide +kernel))
set_option maxRecDepth 20000 in
theorem gL_isNight_X5_night : GoodIn wsL_isNight (wsV RL 46 RX5 yX5_night wsX5_night) := goodIn_app (goodIn_of _ (by decide +kernel)) ggL_isNight_X5_night
set_option maxRecDepth 20000 in
theorem ggL_isNight_X5_bestGain : GoodIn wsL_isNight wsX5_bestGain := goodIn_r _ [168, 6, 61, 169, 170, 87, 88, 10, 89, 12, 90, 91, 92, 93, 94, 95, 96, 97, 98, 99, 78, 14, 100, 101, 102, 103, 77, 104, 105, 106, 107, 71, 76, 108, 109, 110, 111, 13, 15, 16, 17, 18, 19, 20, 112, 113, 114, 115, 116, 117, 118, 119, 120, 121, 122, 123, 124, 125, 126, 127, 128, 129, 130, 177, 178, 179, 180, 181, 182, 194, 195, 196, 197, 183, 184, 185, 186, 187, 188, 189, 190, 191, 192, 193] (by decide +kernel) (by decide +kernel)
set_option maxRecDepth 20000 in
theorem gL_isNight_X5_bestGain : GoodIn wsL_isNight (wsV RL 73 RX5 yX5_bestGain wsX5_bestGain) := goodIn_app (goodIn_of _ (by decide +kernel)) ggL_isNight_X5_bestGain
set_option maxRecDepth 20000 in
theorem ggL_isNight_X5_undo : GoodIn wsL_isNight wsX5_undo := goodIn_ca (goodIn_r _ [174, 175, 176, 159, 6, 160, 67, 68, 69, 10, 70, 71, 72, 73, 74, 75, 13, 76, 77, 78, 14, 19, 20, 12, 79, 80, 177, 178, 179, 180, 181, 182, 183, 184, 185, 186, 187, 188, 189, 190, 191, 192, 193] (by decide +kernel) (by decide +kernel)) (goodIn_sub (fun _ h => List.mem_cons_of_mem _ (List.mem_append_right _ h)) (by decide +kernel))
set_option maxRecDepth 20000 in
theorem gL_isNight_X5_undo : GoodIn wsL_isNight (wsV RL 82 RX5 yX5_undo wsX5_undo) := goodIn_app (goodIn_of _ (by decide +kernel)) ggL_isNight_X5_undo
theorem dL_isNight_0 : decode cL_isNight 0 = .ok (.aload_n 0, 1) := by decide +kernel
theorem dL_isNight_1 : decode cL_isNight 1 = .ok (.invokevirtual 67, 3) := by decide +kernel
theorem dL_isNight_4 : decode cL_isNight 4 = .ok (.istore_n 3, 1) := by decide +kernel
theorem dL_isNight_5 : decode cL_isNight 5 = .ok (.iconst 0, 1) := by decide +kernel
theorem dL_isNight_6 : decode cL_isNight 6 = .ok (.istore 4, 2) := by decide +kernel
theorem dL_isNight_8 : decode cL_isNight 8 = .ok (.iload 4, 2) := by decide +kernel
theorem dL_isNight_10 : decode cL_isNight 10 = .ok (.aload_n 0, 1) := by decide +kernel
theorem dL_isNight_11 : decode cL_isNight 11 = .ok (.invokevirtual 8, 3) := by decide +kernel
theorem dL_isNight_14 : decode cL_isNight 14 = .ok (.if_icmp .ge 64, 3) := by decide +kernel
theorem dL_isNight_17 : decode cL_isNight 17 = .ok (.aload_n 1, 1) := by decide +kernel
theorem dL_isNight_18 : decode cL_isNight 18 = .ok (.iconst 2, 1) := by decide +kernel
theorem dL_isNight_19 : decode cL_isNight 19 = .ok (.iload 4, 2) := by decide +kernel
theorem dL_isNight_21 : decode cL_isNight 21 = .ok (.imul, 1) := by decide +kernel
theorem dL_isNight_22 : decode cL_isNight 22 = .ok (.aload_n 0, 1) := by decide +kernel
theorem dL_isNight_23 : decode cL_isNight 23 = .ok (.iload 4, 2) := by decide +kernel
theorem dL_isNight_25 : decode cL_isNight 25 = .ok (.invokevirtual 34, 3) := by decide +kernel
theorem dL_isNight_28 : decode cL_isNight 28 = .ok (.aload_n 0, 1) := by decide +kernel
theorem dL_isNight_29 : decode cL_isNight 29 = .ok (.iload 4, 2) := by decide +kernel
theorem dL_isNight_31 : decode cL_isNight 31 = .ok (.invokevirtual 52, 3) := by decide +kernel
theorem dL_isNight_34 : decode cL_isNight 34 = .ok (.if_icmp .ne 7, 3) := by decide +kernel
theorem dL_isNight_37 : decode cL_isNight 37 = .ok (.iconst (-1), 1) := by decide +kernel
theorem dL_isNight_38 : decode cL_isNight 38 = .ok (.goto 9, 3) := by decide +kernel
theorem dL_isNight_41 : decode cL_isNight 41 = .ok (.aload_n 0, 1) := by decide +kernel
theorem dL_isNight_42 : decode cL_isNight 42 = .ok (.iload 4, 2) := by decide +kernel
theorem dL_isNight_44 : decode cL_isNight 44 = .ok (.invokevirtual 34, 3) := by decide +kernel
theorem dL_isNight_47 : decode cL_isNight 47 = .ok (.iastore, 1) := by decide +kernel
theorem dL_isNight_48 : decode cL_isNight 48 = .ok (.aload_n 1, 1) := by decide +kernel
theorem dL_isNight_49 : decode cL_isNight 49 = .ok (.iconst 2, 1) := by decide +kernel
theorem dL_isNight_50 : decode cL_isNight 50 = .ok (.iload 4, 2) := by decide +kernel
theorem dL_isNight_52 : decode cL_isNight 52 = .ok (.imul, 1) := by decide +kernel
theorem dL_isNight_53 : decode cL_isNight 53 = .ok (.iconst 1, 1) := by decide +kernel
theorem dL_isNight_54 : decode cL_isNight 54 = .ok (.iadd, 1) := by decide +kernel
theorem dL_isNight_55 : decode cL_isNight 55 = .ok (.bipush 100, 2) := by decide +kernel
theorem dL_isNight_57 : decode cL_isNight 57 = .ok (.aload_n 0, 1) := by decide +kernel
theorem dL_isNight_58 : decode cL_isNight 58 = .ok (.iload 4, 2) := by decide +kernel
theorem dL_isNight_60 : decode cL_isNight 60 = .ok (.invokevirtual 58, 3) := by decide +kernel
theorem dL_isNight_63 : decode cL_isNight 63 = .ok (.imul, 1) := by decide +kernel
theorem dL_isNight_64 : decode cL_isNight 64 = .ok (.aload_n 0, 1) := by decide +kernel
theorem dL_isNight_65 : decode cL_isNight 65 = .ok (.iload 4, 2) := by decide +kernel
theorem dL_isNight_67 : decode cL_isNight 67 = .ok (.invokevirtual 37, 3) := by decide +kernel
theorem dL_isNight_70 : decode cL_isNight 70 = .ok (.iadd, 1) := by decide +kernel
theorem dL_isNight_71 : decode cL_isNight 71 = .ok (.iastore, 1) := by decide +kernel
theorem dL_isNight_72 : decode cL_isNight 72 = .ok (.iinc 4 1, 3) := by decide +kernel
theorem dL_isNight_75 : decode cL_isNight 75 = .ok (.goto (-67), 3) := by decide +kernel
theorem dL_isNight_78 : decode cL_isNight 78 = .ok (.aload_n 0, 1) := by decide +kernel
theorem dL_isNight_79 : decode cL_isNight 79 = .ok (.iload_n 2, 1) := by decide +kernel
theorem dL_isNight_80 : decode cL_isNight 80 = .ok (.invokevirtual 76, 3) := by decide +kernel
theorem dL_isNight_83 : decode cL_isNight 83 = .ok (.istore 4, 2) := by decide +kernel
theorem dL_isNight_85 : decode cL_isNight 85 = .ok (.aload_n 0, 1) := by decide +kernel
theorem dL_isNight_86 : decode cL_isNight 86 = .ok (.invokevirtual 79, 3) := by decide +kernel
theorem dL_isNight_89 : decode cL_isNight 89 = .ok (.istore 5, 2) := by decide +kernel
theorem dL_isNight_91 : decode cL_isNight 91 = .ok (.aload_n 0, 1) := by decide +kernel
theorem dL_isNight_92 : decode cL_isNight 92 = .ok (.iload_n 2, 1) := by decide +kernel
theorem dL_isNight_93 : decode cL_isNight 93 = .ok (.invokevirtual 46, 3) := by decide +kernel
theorem dL_isNight_96 : decode cL_isNight 96 = .ok (.istore 6, 2) := by decide +kernel
theorem dL_isNight_98 : decode cL_isNight 98 = .ok (.iload 6, 2) := by decide +kernel
theorem dL_isNight_100 : decode cL_isNight 100 = .ok (.iload_n 2, 1) := by decide +kernel
theorem dL_isNight_101 : decode cL_isNight 101 = .ok (.if_icmp .gt 50, 3) := by decide +kernel
theorem dL_isNight_104 : decode cL_isNight 104 = .ok (.aload_n 0, 1) := by decide +kernel
theorem dL_isNight_105 : decode cL_isNight 105 = .ok (.invokevirtual 67, 3) := by decide +kernel
theorem dL_isNight_108 : decode cL_isNight 108 = .ok (.iload 4, 2) := by decide +kernel
theorem dL_isNight_110 : decode cL_isNight 110 = .ok (.if_icmp .ne 41, 3) := by decide +kernel
theorem dL_isNight_113 : decode cL_isNight 113 = .ok (.iload 4, 2) := by decide +kernel
theorem dL_isNight_115 : decode cL_isNight 115 = .ok (.iload_n 3, 1) := by decide +kernel
theorem dL_isNight_116 : decode cL_isNight 116 = .ok (.iload 6, 2) := by decide +kernel
theorem dL_isNight_118 : decode cL_isNight 118 = .ok (.isub, 1) := by decide +kernel
theorem dL_isNight_119 : decode cL_isNight 119 = .ok (.if_icmp .gt 32, 3) := by decide +kernel
theorem dL_isNight_122 : decode cL_isNight 122 = .ok (.aload_n 0, 1) := by decide +kernel
theorem dL_isNight_123 : decode cL_isNight 123 = .ok (.invokevirtual 79, 3) := by decide +kernel
theorem dL_isNight_126 : decode cL_isNight 126 = .ok (.iload 5, 2) := by decide +kernel
theorem dL_isNight_128 : decode cL_isNight 128 = .ok (.iload 6, 2) := by decide +kernel
theorem dL_isNight_130 : decode cL_isNight 130 = .ok (.iadd, 1) := by decide +kernel
theorem dL_isNight_131 : decode cL_isNight 131 = .ok (.if_icmp .ne 20, 3) := by decide +kernel
theorem dL_isNight_134 : decode cL_isNight 134 = .ok (.iload 6, 2) := by decide +kernel
theorem dL_isNight_136 : decode cL_isNight 136 = .ok (.iload_n 2, 1) := by decide +kernel
theorem dL_isNight_137 : decode cL_isNight 137 = .ok (.if_icmp .eq 10, 3) := by decide +kernel
theorem dL_isNight_140 : decode cL_isNight 140 = .ok (.aload_n 0, 1) := by decide +kernel
theorem dL_isNight_141 : decode cL_isNight 141 = .ok (.invokevirtual 73, 3) := by decide +kernel
theorem dL_isNight_144 : decode cL_isNight 144 = .ok (.ifCond .ne 7, 3) := by decide +kernel
theorem dL_isNight_147 : decode cL_isNight 147 = .ok (.iconst 1, 1) := by decide +kernel
theorem dL_isNight_148 : decode cL_isNight 148 = .ok (.goto 4, 3) := by decide +kernel
theorem dL_isNight_151 : decode cL_isNight 151 = .ok (.iconst 0, 1) := by decide +kernel
theorem dL_isNight_152 : decode cL_isNight 152 = .ok (.istore 7, 2) := by decide +kernel
theorem dL_isNight_154 : decode cL_isNight 154 = .ok (.iconst 0, 1) := by decide +kernel
theorem dL_isNight_155 : decode cL_isNight 155 = .ok (.istore 8, 2) := by decide +kernel
theorem dL_isNight_157 : decode cL_isNight 157 = .ok (.iload 8, 2) := by decide +kernel
theorem dL_isNight_159 : decode cL_isNight 159 = .ok (.aload_n 0, 1) := by decide +kernel
theorem dL_isNight_160 : decode cL_isNight 160 = .ok (.invokevirtual 8, 3) := by decide +kernel
theorem dL_isNight_163 : decode cL_isNight 163 = .ok (.if_icmp .ge 90, 3) := by decide +kernel
theorem dL_isNight_166 : decode cL_isNight 166 = .ok (.iload 7, 2) := by decide +kernel
theorem dL_isNight_168 : decode cL_isNight 168 = .ok (.ifCond .eq 76, 3) := by decide +kernel
theorem dL_isNight_171 : decode cL_isNight 171 = .ok (.aload_n 1, 1) := by decide +kernel
theorem dL_isNight_172 : decode cL_isNight 172 = .ok (.iconst 2, 1) := by decide +kernel
theorem dL_isNight_173 : decode cL_isNight 173 = .ok (.iload 8, 2) := by decide +kernel
theorem dL_isNight_175 : decode cL_isNight 175 = .ok (.imul, 1) := by decide +kernel
theorem dL_isNight_176 : decode cL_isNight 176 = .ok (.iaload, 1) := by decide +kernel
theorem dL_isNight_177 : decode cL_isNight 177 = .ok (.ifCond .ge 21, 3) := by decide +kernel
theorem dL_isNight_180 : decode cL_isNight 180 = .ok (.aload_n 0, 1) := by decide +kernel
theorem dL_isNight_181 : decode cL_isNight 181 = .ok (.iload 8, 2) := by decide +kernel
theorem dL_isNight_183 : decode cL_isNight 183 = .ok (.invokevirtual 34, 3) := by decide +kernel
theorem dL_isNight_186 : decode cL_isNight 186 = .ok (.aload_n 0, 1) := by decide +kernel
theorem dL_isNight_187 : decode cL_isNight 187 = .ok (.iload 8, 2) := by decide +kernel
theorem dL_isNight_189 : decode cL_isNight 189 = .ok (.invokevirtual 52, 3) := by decide +kernel
theorem dL_isNight_192 : decode cL_isNight 192 = .ok (.if_icmp .ne 52, 3) := by decide +kernel
theorem dL_isNight_195 : decode cL_isNight 195 = .ok (.goto 18, 3) := by decide +kernel
theorem dL_isNight_198 : decode cL_isNight 198 = .ok (.aload_n 0, 1) := by decide +kernel
theorem dL_isNight_199 : decode cL_isNight 199 = .ok (.iload 8, 2) := by decide +kernel
theorem dL_isNight_201 : decode cL_isNight 201 = .ok (.invokevirtual 34, 3) := by decide +kernel
theorem dL_isNight_204 : decode cL_isNight 204 = .ok (.aload_n 1, 1) := by decide +kernel
theorem dL_isNight_205 : decode cL_isNight 205 = .ok (.iconst 2, 1) := by decide +kernel
theorem dL_isNight_206 : decode cL_isNight 206 = .ok (.iload 8, 2) := by decide +kernel
theorem dL_isNight_208 : decode cL_isNight 208 = .ok (.imul, 1) := by decide +kernel
theorem dL_isNight_209 : decode cL_isNight 209 = .ok (.iaload, 1) := by decide +kernel
theorem dL_isNight_210 : decode cL_isNight 210 = .ok (.if_icmp .ne 34, 3) := by decide +kernel
theorem dL_isNight_213 : decode cL_isNight 213 = .ok (.aload_n 1, 1) := by decide +kernel
theorem dL_isNight_214 : decode cL_isNight 214 = .ok (.iconst 2, 1) := by decide +kernel
theorem dL_isNight_215 : decode cL_isNight 215 = .ok (.iload 8, 2) := by decide +kernel
theorem dL_isNight_217 : decode cL_isNight 217 = .ok (.imul, 1) := by decide +kernel
theorem dL_isNight_218 : decode cL_isNight 218 = .ok (.iconst 1, 1) := by decide +kernel
theorem dL_isNight_219 : decode cL_isNight 219 = .ok (.iadd, 1) := by decide +kernel
theorem dL_isNight_220 : decode cL_isNight 220 = .ok (.iaload, 1) := by decide +kernel
theorem dL_isNight_221 : decode cL_isNight 221 = .ok (.bipush 100, 2) := by decide +kernel
theorem dL_isNight_223 : decode cL_isNight 223 = .ok (.aload_n 0, 1) := by decide +kernel
theorem dL_isNight_224 : decode cL_isNight 224 = .ok (.iload 8, 2) := by decide +kernel
theorem dL_isNight_226 : decode cL_isNight 226 = .ok (.invokevirtual 58, 3) := by decide +kernel
theorem dL_isNight_229 : decode cL_isNight 229 = .ok (.imul, 1) := by decide +kernel
theorem dL_isNight_230 : decode cL_isNight 230 = .ok (.aload_n 0, 1) := by decide +kernel
theorem dL_isNight_231 : decode cL_isNight 231 = .ok (.iload 8, 2) := by decide +kernel
theorem dL_isNight_233 : decode cL_isNight 233 = .ok (.invokevirtual 37, 3) := by decide +kernel
theorem dL_isNight_236 : decode cL_isNight 236 = .ok (.iadd, 1) := by decide +kernel
theorem dL_isNight_237 : decode cL_isNight 237 = .ok (.if_icmp .ne 7, 3) := by decide +kernel
theorem dL_isNight_240 : decode cL_isNight 240 = .ok (.iconst 1, 1) := by decide +kernel
theorem dL_isNight_241 : decode cL_isNight 241 = .ok (.goto 4, 3) := by decide +kernel
theorem dL_isNight_244 : decode cL_isNight 244 = .ok (.iconst 0, 1) := by decide +kernel
theorem dL_isNight_245 : decode cL_isNight 245 = .ok (.istore 7, 2) := by decide +kernel
theorem dL_isNight_247 : decode cL_isNight 247 = .ok (.iinc 8 1, 3) := by decide +kernel
theorem dL_isNight_250 : decode cL_isNight 250 = .ok (.goto (-93), 3) := by decide +kernel
theorem dL_isNight_253 : decode cL_isNight 253 = .ok (.aload_n 0, 1) := by decide +kernel
theorem dL_isNight_254 : decode cL_isNight 254 = .ok (.invokevirtual 82, 3) := by decide +kernel
theorem dL_isNight_257 : decode cL_isNight 257 = .ok (.pop, 1) := by decide +kernel
theorem dL_isNight_258 : decode cL_isNight 258 = .ok (.iload 7, 2) := by decide +kernel
theorem dL_isNight_260 : decode cL_isNight 260 = .ok (.ifCond .eq 15, 3) := by decide +kernel
theorem dL_isNight_263 : decode cL_isNight 263 = .ok (.aload_n 0, 1) := by decide +kernel
theorem dL_isNight_264 : decode cL_isNight 264 = .ok (.invokevirtual 67, 3) := by decide +kernel
theorem dL_isNight_267 : decode cL_isNight 267 = .ok (.iload_n 3, 1) := by decide +kernel
theorem dL_isNight_268 : decode cL_isNight 268 = .ok (.if_icmp .ne 7, 3) := by decide +kernel
theorem dL_isNight_271 : decode cL_isNight 271 = .ok (.iconst 1, 1) := by decide +kernel
theorem dL_isNight_272 : decode cL_isNight 272 = .ok (.goto 4, 3) := by decide +kernel
theorem dL_isNight_275 : decode cL_isNight 275 = .ok (.iconst 0, 1) := by decide +kernel
theorem dL_isNight_276 : decode cL_isNight 276 = .ok (.ireturn, 1) := by decide +kernel
set_option maxRecDepth 20000 in
theorem ggL_isCall_X5_walkTo : GoodIn wsL_isCall wsX5_walkTo := goodIn_ca (goodIn_r _ [5, 6, 7, 8, 9, 4, 10, 11, 12, 13, 14, 15, 16, 17, 18, 19, 20, 21, 22, 23, 24, 25, 26, 27, 28, 29, 30, 31, 32, 33, 184, 185, 186, 187, 188, 189, 190, 191, 192, 193, 194, 195, 196, 197, 198, 199, 200] (by decide +kernel) (by decide +kernel)) (goodIn_sub (fun _ h => List.mem_cons_of_mem _ (List.mem_append_left _ (List.mem_append_right _ h))) (by decide +kernel))
set_option maxRecDepth 20000 in
theorem gL_isCall_X5_walkTo : GoodIn wsL_isCall (wsV RL 61 RX5 yX5_walkTo wsX5_walkTo) := goodIn_app (goodIn_of _ (by decide +kernel)) ggL_isCall_X5_walkTo
set_option maxRecDepth 20000 in
theorem ggL_isCall_X5_walked : GoodIn wsL_isCall wsX5_walked := goodIn_r _ [37, 6, 38, 184, 185, 186, 187, 188, 189, 190, 191, 192, 193, 194, 195, 196, 197, 198, 199, 200] (by decide +kernel) (by decide +kernel)
set_option maxRecDepth 20000 in
theorem gL_isCall_X5_walked : GoodIn wsL_isCall (wsV RL 85 RX5 yX5_walked wsX5_walked) := goodIn_app (goodIn_of _ (by decide +kernel)) ggL_isCall_X5_walked
set_option maxRecDepth 20000 in
theorem ggL_isCall_X5_weight : GoodIn wsL_isCall wsX5_weight := goodIn_ca (goodIn_r _ [42, 6, 7, 8, 9, 4, 10, 11, 12, 13, 14, 15, 16, 17, 18, 43, 44, 45, 46, 47, 48, 184, 185, 186, 187, 188, 189, 190, 191, 192, 193, 194, 195, 196, 197, 198, 199, 200] (by decide +kernel) (by decide +kernel)) (goodIn_sub (fun _ h => List.mem_cons_of_mem _ (List.mem_append_left _ (List.mem_append_right _ h))) (by decide +kernel))
set_option maxRecDepth 20000 in
theorem gL_isCall_X5_weight : GoodIn wsL_isCall (wsV RL 58 RX5 yX5_weight wsX5_weight) := goodIn_app (goodIn_of _ (by decide +kernel)) ggL_isCall_X5_weight
set_option maxRecDepth 20000 in
theorem ggL_isCall_X5_shelfOf : GoodIn wsL_isCall wsX5_shelfOf := goodIn_ca (goodIn_r _ [52, 6, 53, 7, 8, 9, 4, 10, 11, 12, 13, 14, 15, 16, 17, 18, 184, 185, 186, 187, 188, 189, 190, 191, 192, 193, 194, 195, 196, 197, 198, 199, 200] (by decide +kernel) (by decide +kernel)) (goodIn_sub (fun _ h => List.mem_cons_of_mem _ (List.mem_append_left _ (List.mem_append_right _ h))) (by decide +kernel))
set_option maxRecDepth 20000 in
theorem gL_isCall_X5_shelfOf : GoodIn wsL_isCall (wsV RL 34 RX5 yX5_shelfOf wsX5_shelfOf) := goodIn_app (goodIn_of _ (by decide +kernel)) ggL_isCall_X5_shelfOf
set_option maxRecDepth 20000 in
theorem ggL_isCall_X5_digest : GoodIn wsL_isCall wsX5_digest := goodIn_r _ [57, 58, 6, 59, 60, 61, 53, 62, 63, 64, 65, 4, 66, 67, 68, 69, 70, 71, 72, 73, 74, 75, 76, 77, 16, 78, 18, 26, 27, 28, 29, 25, 23, 79, 35, 36, 37, 38, 80, 81, 82, 83, 84, 85, 86, 87, 24, 88, 44, 45, 46, 47, 48, 89, 90, 91, 92, 93, 94, 95, 96, 97, 98, 99, 100, 101, 102, 103, 104, 105, 106, 107, 108, 109, 110, 111, 112, 113, 114, 115, 116, 117, 118, 119, 120, 121, 122, 123, 124, 125, 126, 127, 128, 129, 130, 131, 132, 133, 134, 135, 136, 137, 138, 139, 140, 141, 142, 143, 144, 43, 19, 20, 21, 22, 30, 31, 32, 33, 184, 185, 186, 187, 188, 189, 190, 191, 192, 193, 194, 195, 196, 197, 198, 199, 200, 201, 202, 203, 204] (by decide +kernel) (by decide +kernel)
set_option maxRecDepth 20000 in
theorem gL_isCall_X5_digest : GoodIn wsL_isCall (wsV RL 88 RX5 yX5_digest wsX5_digest) := goodIn_app (goodIn_of _ (by decide +kernel)) ggL_isCall_X5_digest
set_option maxRecDepth 20000 in
theorem ggL_isCall_X5_call : GoodIn wsL_isCall wsX5_call := goodIn_ca (goodIn_r _ [148, 6, 7, 8, 9, 4, 10, 11, 12, 13, 14, 15, 16, 17, 18, 149, 150, 151, 152, 153, 154, 155, 156, 157, 158, 159, 160, 161, 162, 119, 163, 164, 165, 166, 24, 120, 114, 25, 23, 47, 48, 167, 168, 169, 170, 171, 172, 173, 20, 21, 22, 26, 27, 28, 29, 30, 31, 32, 33, 184, 185, 186, 187, 188, 189, 190, 191, 192, 193, 194, 195, 196, 197, 198, 199, 200] (by decide +kernel) (by decide +kernel)) (goodIn_sub (fun _ h => List.mem_cons_of_mem _ (List.mem_append_left _ (List.mem_append_right _ h))) (by decide +kernel))
set_option maxRecDepth 20000 in
theorem gL_isCall_X5_call : GoodIn wsL_isCall (wsV RL 49 RX5 yX5_call wsX5_call) := goodIn_app (goodIn_of _ (by decide +kernel)) ggL_isCall_X5_call
set_option maxRecDepth 20000 in
theorem ggL_isCall_X5_catalog : GoodIn wsL_isCall wsX5_catalog := goodIn_ca (goodIn_r _ [177, 6, 62, 7, 8, 9, 4, 10, 11, 12, 13, 14, 15, 16, 17, 18, 184, 185, 186, 187, 188, 189, 190, 191, 192, 193, 194, 195, 196, 197, 198, 199, 200] (by decide +kernel) (by decide +kernel)) (goodIn_sub (fun _ h => List.mem_cons_of_mem _ (List.mem_append_left _ (List.mem_append_right _ h))) (by decide +kernel))
set_option maxRecDepth 20000 in
theorem gL_isCall_X5_catalog : GoodIn wsL_isCall (wsV RL 52 RX5 yX5_catalog wsX5_catalog) := goodIn_app (goodIn_of _ (by decide +kernel)) ggL_isCall_X5_catalog
set_option maxRecDepth 20000 in
theorem ggL_isCall_X5_undo : GoodIn wsL_isCall wsX5_undo := goodIn_ca (goodIn_r _ [181, 182, 183, 153, 6, 154, 159, 160, 161, 16, 162, 119, 163, 164, 165, 166, 24, 120, 114, 25, 23, 47, 48, 18, 167, 168, 184, 185, 186, 187, 188, 189, 190, 191, 192, 193, 194, 195, 196, 197, 198, 199, 200] (by decide +kernel) (by decide +kernel)) (goodIn_sub (fun _ h => List.mem_cons_of_mem _ (List.mem_append_right _ h)) (by decide +kernel))
set_option maxRecDepth 20000 in
theorem gL_isCall_X5_undo : GoodIn wsL_isCall (wsV RL 82 RX5 yX5_undo wsX5_undo) := goodIn_app (goodIn_of _ (by decide +kernel)) ggL_isCall_X5_undo
theorem dL_isCall_0 : decode cL_isCall 0 = .ok (.aload_n 0, 1) := by decide +kernel
theorem dL_isCall_1 : decode cL_isCall 1 = .ok (.iload_n 1, 1) := by decide +kernel
theorem dL_isCall_2 : decode cL_isCall 2 = .ok (.invokevirtual 61, 3) := by decide +kernel
theorem dL_isCall_5 : decode cL_isCall 5 = .ok (.istore_n 2, 1) := by decide +kernel
theorem dL_isCall_6 : decode cL_isCall 6 = .ok (.aload_n 0, 1) := by decide +kernel
theorem dL_isCall_7 : decode cL_isCall 7 = .ok (.invokevirtual 85, 3) := by decide +kernel
theorem dL_isCall_10 : decode cL_isCall 10 = .ok (.istore_n 3, 1) := by decide +kernel
theorem dL_isCall_11 : decode cL_isCall 11 = .ok (.aload_n 0, 1) := by decide +kernel
theorem dL_isCall_12 : decode cL_isCall 12 = .ok (.iload_n 1, 1) := by decide +kernel
theorem dL_isCall_13 : decode cL_isCall 13 = .ok (.invokevirtual 58, 3) := by decide +kernel
theorem dL_isCall_16 : decode cL_isCall 16 = .ok (.istore 4, 2) := by decide +kernel
theorem dL_isCall_18 : decode cL_isCall 18 = .ok (.aload_n 0, 1) := by decide +kernel
theorem dL_isCall_19 : decode cL_isCall 19 = .ok (.iload_n 1, 1) := by decide +kernel
theorem dL_isCall_20 : decode cL_isCall 20 = .ok (.invokevirtual 34, 3) := by decide +kernel
theorem dL_isCall_23 : decode cL_isCall 23 = .ok (.istore 5, 2) := by decide +kernel
theorem dL_isCall_25 : decode cL_isCall 25 = .ok (.aload_n 0, 1) := by decide +kernel
theorem dL_isCall_26 : decode cL_isCall 26 = .ok (.invokevirtual 88, 3) := by decide +kernel
theorem dL_isCall_29 : decode cL_isCall 29 = .ok (.lstore 6, 2) := by decide +kernel
theorem dL_isCall_31 : decode cL_isCall 31 = .ok (.aload_n 0, 1) := by decide +kernel
theorem dL_isCall_32 : decode cL_isCall 32 = .ok (.iload_n 1, 1) := by decide +kernel
theorem dL_isCall_33 : decode cL_isCall 33 = .ok (.invokevirtual 49, 3) := by decide +kernel
theorem dL_isCall_36 : decode cL_isCall 36 = .ok (.iload_n 2, 1) := by decide +kernel
theorem dL_isCall_37 : decode cL_isCall 37 = .ok (.if_icmp .ne 49, 3) := by decide +kernel
theorem dL_isCall_40 : decode cL_isCall 40 = .ok (.aload_n 0, 1) := by decide +kernel
theorem dL_isCall_41 : decode cL_isCall 41 = .ok (.invokevirtual 85, 3) := by decide +kernel
theorem dL_isCall_44 : decode cL_isCall 44 = .ok (.iload_n 3, 1) := by decide +kernel
theorem dL_isCall_45 : decode cL_isCall 45 = .ok (.iload_n 2, 1) := by decide +kernel
theorem dL_isCall_46 : decode cL_isCall 46 = .ok (.iadd, 1) := by decide +kernel
theorem dL_isCall_47 : decode cL_isCall 47 = .ok (.if_icmp .ne 39, 3) := by decide +kernel
theorem dL_isCall_50 : decode cL_isCall 50 = .ok (.aload_n 0, 1) := by decide +kernel
theorem dL_isCall_51 : decode cL_isCall 51 = .ok (.iload_n 1, 1) := by decide +kernel
theorem dL_isCall_52 : decode cL_isCall 52 = .ok (.invokevirtual 58, 3) := by decide +kernel
theorem dL_isCall_55 : decode cL_isCall 55 = .ok (.iload 4, 2) := by decide +kernel
theorem dL_isCall_57 : decode cL_isCall 57 = .ok (.iconst 2, 1) := by decide +kernel
theorem dL_isCall_58 : decode cL_isCall 58 = .ok (.iadd, 1) := by decide +kernel
theorem dL_isCall_59 : decode cL_isCall 59 = .ok (.if_icmp .ne 27, 3) := by decide +kernel
theorem dL_isCall_62 : decode cL_isCall 62 = .ok (.aload_n 0, 1) := by decide +kernel
theorem dL_isCall_63 : decode cL_isCall 63 = .ok (.iload_n 1, 1) := by decide +kernel
theorem dL_isCall_64 : decode cL_isCall 64 = .ok (.invokevirtual 34, 3) := by decide +kernel
theorem dL_isCall_67 : decode cL_isCall 67 = .ok (.iload 5, 2) := by decide +kernel
theorem dL_isCall_69 : decode cL_isCall 69 = .ok (.if_icmp .ne 17, 3) := by decide +kernel
theorem dL_isCall_72 : decode cL_isCall 72 = .ok (.aload_n 0, 1) := by decide +kernel
theorem dL_isCall_73 : decode cL_isCall 73 = .ok (.iload_n 1, 1) := by decide +kernel
theorem dL_isCall_74 : decode cL_isCall 74 = .ok (.invokevirtual 52, 3) := by decide +kernel
theorem dL_isCall_77 : decode cL_isCall 77 = .ok (.iload 5, 2) := by decide +kernel
theorem dL_isCall_79 : decode cL_isCall 79 = .ok (.if_icmp .ne 7, 3) := by decide +kernel
theorem dL_isCall_82 : decode cL_isCall 82 = .ok (.iconst 1, 1) := by decide +kernel
theorem dL_isCall_83 : decode cL_isCall 83 = .ok (.goto 4, 3) := by decide +kernel
theorem dL_isCall_86 : decode cL_isCall 86 = .ok (.iconst 0, 1) := by decide +kernel
theorem dL_isCall_87 : decode cL_isCall 87 = .ok (.istore 8, 2) := by decide +kernel
theorem dL_isCall_89 : decode cL_isCall 89 = .ok (.aload_n 0, 1) := by decide +kernel
theorem dL_isCall_90 : decode cL_isCall 90 = .ok (.invokevirtual 82, 3) := by decide +kernel
theorem dL_isCall_93 : decode cL_isCall 93 = .ok (.pop, 1) := by decide +kernel
theorem dL_isCall_94 : decode cL_isCall 94 = .ok (.iload 8, 2) := by decide +kernel
theorem dL_isCall_96 : decode cL_isCall 96 = .ok (.ifCond .eq 17, 3) := by decide +kernel
theorem dL_isCall_99 : decode cL_isCall 99 = .ok (.aload_n 0, 1) := by decide +kernel
theorem dL_isCall_100 : decode cL_isCall 100 = .ok (.invokevirtual 88, 3) := by decide +kernel
theorem dL_isCall_103 : decode cL_isCall 103 = .ok (.lload 6, 2) := by decide +kernel
theorem dL_isCall_105 : decode cL_isCall 105 = .ok (.lcmp, 1) := by decide +kernel
theorem dL_isCall_106 : decode cL_isCall 106 = .ok (.ifCond .ne 7, 3) := by decide +kernel
theorem dL_isCall_109 : decode cL_isCall 109 = .ok (.iconst 1, 1) := by decide +kernel
theorem dL_isCall_110 : decode cL_isCall 110 = .ok (.goto 4, 3) := by decide +kernel
theorem dL_isCall_113 : decode cL_isCall 113 = .ok (.iconst 0, 1) := by decide +kernel
theorem dL_isCall_114 : decode cL_isCall 114 = .ok (.ireturn, 1) := by decide +kernel
