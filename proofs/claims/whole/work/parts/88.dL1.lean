set_option maxRecDepth 20000 in
theorem ggL_setShelf_X5_setShelf : GoodIn wsL_setShelf wsX5_setShelf := goodIn_ca (goodIn_ca (goodIn_ca (goodIn_r _ [8, 9, 10, 11, 12, 13, 14, 15, 16, 17, 18, 7, 19, 20, 21, 22, 23, 24, 25, 26, 27, 28, 29, 30, 31, 32, 33, 34, 35, 36, 37, 38, 39, 40, 41, 42, 43, 44, 45, 46, 47, 48, 49, 50, 51, 52, 53, 54, 55, 56, 57, 58, 59, 60, 61, 62, 63, 64, 65, 66, 67, 68, 69, 70, 71, 72] (by decide +kernel) (by decide +kernel)) (goodIn_sub (fun _ h => List.mem_cons_of_mem _ (List.mem_append_left _ (List.mem_append_left _ (List.mem_append_right _ h)))) (by decide +kernel))) (goodIn_sub (fun _ h => List.mem_cons_of_mem _ (List.mem_append_left _ (List.mem_append_right _ h))) (by decide +kernel))) (goodIn_sub (fun _ h => List.mem_cons_of_mem _ (List.mem_append_right _ h)) (by decide +kernel))
set_option maxRecDepth 20000 in
theorem gL_setShelf_X5_setShelf : GoodIn wsL_setShelf (wsV RL 7 RX5 yX5_setShelf wsX5_setShelf) := goodIn_app (goodIn_of _ (by decide +kernel)) ggL_setShelf_X5_setShelf
theorem dL_setShelf_0 : decode cL_setShelf 0 = .ok (.aload 4, 2) := by decide +kernel
theorem dL_setShelf_2 : decode cL_setShelf 2 = .ok (.iconst 0, 1) := by decide +kernel
theorem dL_setShelf_3 : decode cL_setShelf 3 = .ok (.aload_n 0, 1) := by decide +kernel
theorem dL_setShelf_4 : decode cL_setShelf 4 = .ok (.iload_n 1, 1) := by decide +kernel
theorem dL_setShelf_5 : decode cL_setShelf 5 = .ok (.iload_n 2, 1) := by decide +kernel
theorem dL_setShelf_6 : decode cL_setShelf 6 = .ok (.iload_n 3, 1) := by decide +kernel
theorem dL_setShelf_7 : decode cL_setShelf 7 = .ok (.invokevirtual 7, 3) := by decide +kernel
theorem dL_setShelf_10 : decode cL_setShelf 10 = .ok (.i2l, 1) := by decide +kernel
theorem dL_setShelf_11 : decode cL_setShelf 11 = .ok (.lastore, 1) := by decide +kernel
theorem dL_setShelf_12 : decode cL_setShelf 12 = .ok (.goto 15, 3) := by decide +kernel
theorem dL_setShelf_15 : decode cL_setShelf 15 = .ok (.astore 5, 2) := by decide +kernel
theorem dL_setShelf_17 : decode cL_setShelf 17 = .ok (.iconst 1, 1) := by decide +kernel
theorem dL_setShelf_18 : decode cL_setShelf 18 = .ok (.ireturn, 1) := by decide +kernel
theorem dL_setShelf_19 : decode cL_setShelf 19 = .ok (.astore 5, 2) := by decide +kernel
theorem dL_setShelf_21 : decode cL_setShelf 21 = .ok (.iconst 2, 1) := by decide +kernel
theorem dL_setShelf_22 : decode cL_setShelf 22 = .ok (.ireturn, 1) := by decide +kernel
theorem dL_setShelf_23 : decode cL_setShelf 23 = .ok (.astore 5, 2) := by decide +kernel
theorem dL_setShelf_25 : decode cL_setShelf 25 = .ok (.iconst 3, 1) := by decide +kernel
theorem dL_setShelf_26 : decode cL_setShelf 26 = .ok (.ireturn, 1) := by decide +kernel
theorem dL_setShelf_27 : decode cL_setShelf 27 = .ok (.iconst 0, 1) := by decide +kernel
theorem dL_setShelf_28 : decode cL_setShelf 28 = .ok (.ireturn, 1) := by decide +kernel
set_option maxRecDepth 20000 in
theorem ggL_addRecord_X5_addRecord : GoodIn wsL_addRecord wsX5_addRecord := goodIn_ca (goodIn_ca (goodIn_ca (goodIn_r _ [8, 9, 10, 11, 12, 13, 7, 14, 15, 16, 17, 18, 19, 20, 21, 22, 23, 24, 25, 26, 27, 28, 29, 30, 31, 32, 33, 34, 35, 36, 37, 38, 39, 40, 41, 42, 43, 44, 45, 46, 47, 48, 49, 50, 51, 52, 53, 54, 55, 56, 57, 58, 59, 60, 61, 62, 63, 64, 65, 66, 67, 68, 69, 70, 71, 72, 73, 74, 75, 76, 77, 78, 79, 80] (by decide +kernel) (by decide +kernel)) (goodIn_sub (fun _ h => List.mem_cons_of_mem _ (List.mem_append_left _ (List.mem_append_left _ (List.mem_append_right _ h)))) (by decide +kernel))) (goodIn_sub (fun _ h => List.mem_cons_of_mem _ (List.mem_append_left _ (List.mem_append_right _ h))) (by decide +kernel))) (goodIn_sub (fun _ h => List.mem_cons_of_mem _ (List.mem_append_right _ h)) (by decide +kernel))
set_option maxRecDepth 20000 in
theorem gL_addRecord_X5_addRecord : GoodIn wsL_addRecord (wsV RL 19 RX5 yX5_addRecord wsX5_addRecord) := goodIn_app (goodIn_of _ (by decide +kernel)) ggL_addRecord_X5_addRecord
theorem dL_addRecord_0 : decode cL_addRecord 0 = .ok (.aload_n 3, 1) := by decide +kernel
theorem dL_addRecord_1 : decode cL_addRecord 1 = .ok (.iconst 0, 1) := by decide +kernel
theorem dL_addRecord_2 : decode cL_addRecord 2 = .ok (.aload_n 0, 1) := by decide +kernel
theorem dL_addRecord_3 : decode cL_addRecord 3 = .ok (.iload_n 1, 1) := by decide +kernel
theorem dL_addRecord_4 : decode cL_addRecord 4 = .ok (.iload_n 2, 1) := by decide +kernel
theorem dL_addRecord_5 : decode cL_addRecord 5 = .ok (.invokevirtual 19, 3) := by decide +kernel
theorem dL_addRecord_8 : decode cL_addRecord 8 = .ok (.i2l, 1) := by decide +kernel
theorem dL_addRecord_9 : decode cL_addRecord 9 = .ok (.lastore, 1) := by decide +kernel
theorem dL_addRecord_10 : decode cL_addRecord 10 = .ok (.goto 15, 3) := by decide +kernel
theorem dL_addRecord_13 : decode cL_addRecord 13 = .ok (.astore 4, 2) := by decide +kernel
theorem dL_addRecord_15 : decode cL_addRecord 15 = .ok (.iconst 1, 1) := by decide +kernel
theorem dL_addRecord_16 : decode cL_addRecord 16 = .ok (.ireturn, 1) := by decide +kernel
theorem dL_addRecord_17 : decode cL_addRecord 17 = .ok (.astore 4, 2) := by decide +kernel
theorem dL_addRecord_19 : decode cL_addRecord 19 = .ok (.iconst 2, 1) := by decide +kernel
theorem dL_addRecord_20 : decode cL_addRecord 20 = .ok (.ireturn, 1) := by decide +kernel
theorem dL_addRecord_21 : decode cL_addRecord 21 = .ok (.astore 4, 2) := by decide +kernel
theorem dL_addRecord_23 : decode cL_addRecord 23 = .ok (.iconst 3, 1) := by decide +kernel
theorem dL_addRecord_24 : decode cL_addRecord 24 = .ok (.ireturn, 1) := by decide +kernel
theorem dL_addRecord_25 : decode cL_addRecord 25 = .ok (.iconst 0, 1) := by decide +kernel
theorem dL_addRecord_26 : decode cL_addRecord 26 = .ok (.ireturn, 1) := by decide +kernel
set_option maxRecDepth 20000 in
theorem ggL_removeRecord_X5_removeRecord : GoodIn wsL_removeRecord wsX5_removeRecord := goodIn_ca (goodIn_r _ [6, 7, 8, 9, 10, 5, 11, 12, 13, 14, 15, 16, 17, 18, 19, 20, 21, 22, 23, 24, 25, 26, 27, 28, 29, 30, 31, 32, 33, 34, 35, 36, 37, 38, 39, 40, 41, 42, 43, 44, 45, 46, 47, 48, 49, 50, 51, 52, 53, 54, 55, 56, 57, 58, 59, 60, 61, 62, 63, 64, 65, 66, 67, 68] (by decide +kernel) (by decide +kernel)) (goodIn_sub (fun _ h => List.mem_cons_of_mem _ (List.mem_append_right _ h)) (by decide +kernel))
set_option maxRecDepth 20000 in
theorem gL_removeRecord_X5_removeRecord : GoodIn wsL_removeRecord (wsV RL 23 RX5 yX5_removeRecord wsX5_removeRecord) := goodIn_app (goodIn_of _ (by decide +kernel)) ggL_removeRecord_X5_removeRecord
theorem dL_removeRecord_0 : decode cL_removeRecord 0 = .ok (.aload_n 2, 1) := by decide +kernel
theorem dL_removeRecord_1 : decode cL_removeRecord 1 = .ok (.iconst 0, 1) := by decide +kernel
theorem dL_removeRecord_2 : decode cL_removeRecord 2 = .ok (.aload_n 0, 1) := by decide +kernel
theorem dL_removeRecord_3 : decode cL_removeRecord 3 = .ok (.iload_n 1, 1) := by decide +kernel
theorem dL_removeRecord_4 : decode cL_removeRecord 4 = .ok (.invokevirtual 23, 3) := by decide +kernel
theorem dL_removeRecord_7 : decode cL_removeRecord 7 = .ok (.i2l, 1) := by decide +kernel
theorem dL_removeRecord_8 : decode cL_removeRecord 8 = .ok (.lastore, 1) := by decide +kernel
theorem dL_removeRecord_9 : decode cL_removeRecord 9 = .ok (.goto 6, 3) := by decide +kernel
theorem dL_removeRecord_12 : decode cL_removeRecord 12 = .ok (.astore_n 3, 1) := by decide +kernel
theorem dL_removeRecord_13 : decode cL_removeRecord 13 = .ok (.iconst 1, 1) := by decide +kernel
theorem dL_removeRecord_14 : decode cL_removeRecord 14 = .ok (.ireturn, 1) := by decide +kernel
theorem dL_removeRecord_15 : decode cL_removeRecord 15 = .ok (.iconst 0, 1) := by decide +kernel
theorem dL_removeRecord_16 : decode cL_removeRecord 16 = .ok (.ireturn, 1) := by decide +kernel
set_option maxRecDepth 20000 in
theorem ggL_width_X5_width : GoodIn wsL_width wsX5_width := goodIn_ca (goodIn_r _ [6, 7, 8, 9, 10, 11, 5, 12, 13, 14, 15, 16, 17, 18, 19, 20, 21, 22, 23, 24, 25, 26, 27, 28, 29, 30, 31, 32, 33, 34, 35, 36, 37] (by decide +kernel) (by decide +kernel)) (goodIn_sub (fun _ h => List.mem_cons_of_mem _ (List.mem_append_right _ h)) (by decide +kernel))
set_option maxRecDepth 20000 in
theorem gL_width_X5_width : GoodIn wsL_width (wsV RL 27 RX5 yX5_width wsX5_width) := goodIn_app (goodIn_of _ (by decide +kernel)) ggL_width_X5_width
theorem dL_width_0 : decode cL_width 0 = .ok (.aload_n 2, 1) := by decide +kernel
theorem dL_width_1 : decode cL_width 1 = .ok (.iconst 0, 1) := by decide +kernel
theorem dL_width_2 : decode cL_width 2 = .ok (.aload_n 0, 1) := by decide +kernel
theorem dL_width_3 : decode cL_width 3 = .ok (.iload_n 1, 1) := by decide +kernel
theorem dL_width_4 : decode cL_width 4 = .ok (.invokevirtual 27, 3) := by decide +kernel
theorem dL_width_7 : decode cL_width 7 = .ok (.i2l, 1) := by decide +kernel
theorem dL_width_8 : decode cL_width 8 = .ok (.lastore, 1) := by decide +kernel
theorem dL_width_9 : decode cL_width 9 = .ok (.goto 6, 3) := by decide +kernel
theorem dL_width_12 : decode cL_width 12 = .ok (.astore_n 3, 1) := by decide +kernel
theorem dL_width_13 : decode cL_width 13 = .ok (.iconst 1, 1) := by decide +kernel
theorem dL_width_14 : decode cL_width 14 = .ok (.ireturn, 1) := by decide +kernel
theorem dL_width_15 : decode cL_width 15 = .ok (.iconst 0, 1) := by decide +kernel
theorem dL_width_16 : decode cL_width 16 = .ok (.ireturn, 1) := by decide +kernel
set_option maxRecDepth 20000 in
theorem ggL_shelfOf_X5_shelfOf : GoodIn wsL_shelfOf wsX5_shelfOf := goodIn_ca (goodIn_r _ [6, 7, 8, 9, 10, 11, 5, 12, 13, 14, 15, 16, 17, 18, 19, 20, 21, 22, 23, 24, 25, 26, 27, 28, 29, 30, 31, 32, 33, 34, 35, 36, 37] (by decide +kernel) (by decide +kernel)) (goodIn_sub (fun _ h => List.mem_cons_of_mem _ (List.mem_append_right _ h)) (by decide +kernel))
set_option maxRecDepth 20000 in
theorem gL_shelfOf_X5_shelfOf : GoodIn wsL_shelfOf (wsV RL 30 RX5 yX5_shelfOf wsX5_shelfOf) := goodIn_app (goodIn_of _ (by decide +kernel)) ggL_shelfOf_X5_shelfOf
theorem dL_shelfOf_0 : decode cL_shelfOf 0 = .ok (.aload_n 2, 1) := by decide +kernel
theorem dL_shelfOf_1 : decode cL_shelfOf 1 = .ok (.iconst 0, 1) := by decide +kernel
theorem dL_shelfOf_2 : decode cL_shelfOf 2 = .ok (.aload_n 0, 1) := by decide +kernel
theorem dL_shelfOf_3 : decode cL_shelfOf 3 = .ok (.iload_n 1, 1) := by decide +kernel
theorem dL_shelfOf_4 : decode cL_shelfOf 4 = .ok (.invokevirtual 30, 3) := by decide +kernel
theorem dL_shelfOf_7 : decode cL_shelfOf 7 = .ok (.i2l, 1) := by decide +kernel
theorem dL_shelfOf_8 : decode cL_shelfOf 8 = .ok (.lastore, 1) := by decide +kernel
theorem dL_shelfOf_9 : decode cL_shelfOf 9 = .ok (.goto 6, 3) := by decide +kernel
theorem dL_shelfOf_12 : decode cL_shelfOf 12 = .ok (.astore_n 3, 1) := by decide +kernel
theorem dL_shelfOf_13 : decode cL_shelfOf 13 = .ok (.iconst 1, 1) := by decide +kernel
theorem dL_shelfOf_14 : decode cL_shelfOf 14 = .ok (.ireturn, 1) := by decide +kernel
theorem dL_shelfOf_15 : decode cL_shelfOf 15 = .ok (.iconst 0, 1) := by decide +kernel
theorem dL_shelfOf_16 : decode cL_shelfOf 16 = .ok (.ireturn, 1) := by decide +kernel
set_option maxRecDepth 20000 in
theorem ggL_catalog_X5_catalog : GoodIn wsL_catalog wsX5_catalog := goodIn_ca (goodIn_r _ [6, 7, 8, 9, 10, 11, 5, 12, 13, 14, 15, 16, 17, 18, 19, 20, 21, 22, 23, 24, 25, 26, 27, 28, 29, 30, 31, 32, 33, 34, 35, 36, 37] (by decide +kernel) (by decide +kernel)) (goodIn_sub (fun _ h => List.mem_cons_of_mem _ (List.mem_append_right _ h)) (by decide +kernel))
set_option maxRecDepth 20000 in
theorem gL_catalog_X5_catalog : GoodIn wsL_catalog (wsV RL 33 RX5 yX5_catalog wsX5_catalog) := goodIn_app (goodIn_of _ (by decide +kernel)) ggL_catalog_X5_catalog
theorem dL_catalog_0 : decode cL_catalog 0 = .ok (.aload_n 2, 1) := by decide +kernel
theorem dL_catalog_1 : decode cL_catalog 1 = .ok (.iconst 0, 1) := by decide +kernel
theorem dL_catalog_2 : decode cL_catalog 2 = .ok (.aload_n 0, 1) := by decide +kernel
theorem dL_catalog_3 : decode cL_catalog 3 = .ok (.iload_n 1, 1) := by decide +kernel
theorem dL_catalog_4 : decode cL_catalog 4 = .ok (.invokevirtual 33, 3) := by decide +kernel
theorem dL_catalog_7 : decode cL_catalog 7 = .ok (.i2l, 1) := by decide +kernel
theorem dL_catalog_8 : decode cL_catalog 8 = .ok (.lastore, 1) := by decide +kernel
theorem dL_catalog_9 : decode cL_catalog 9 = .ok (.goto 6, 3) := by decide +kernel
theorem dL_catalog_12 : decode cL_catalog 12 = .ok (.astore_n 3, 1) := by decide +kernel
theorem dL_catalog_13 : decode cL_catalog 13 = .ok (.iconst 1, 1) := by decide +kernel
theorem dL_catalog_14 : decode cL_catalog 14 = .ok (.ireturn, 1) := by decide +kernel
theorem dL_catalog_15 : decode cL_catalog 15 = .ok (.iconst 0, 1) := by decide +kernel
theorem dL_catalog_16 : decode cL_catalog 16 = .ok (.ireturn, 1) := by decide +kernel
set_option maxRecDepth 20000 in
theorem ggL_weight_X5_weight : GoodIn wsL_weight wsX5_weight := goodIn_ca (goodIn_r _ [6, 7, 8, 9, 10, 5, 11, 12, 13, 14, 15, 16, 17, 18, 19, 20, 21, 22, 23, 24, 25, 26, 27, 28, 29, 30, 31, 32, 33, 34, 35, 36, 37, 38, 39, 40, 41, 42] (by decide +kernel) (by decide +kernel)) (goodIn_sub (fun _ h => List.mem_cons_of_mem _ (List.mem_append_right _ h)) (by decide +kernel))
set_option maxRecDepth 20000 in
theorem gL_weight_X5_weight : GoodIn wsL_weight (wsV RL 36 RX5 yX5_weight wsX5_weight) := goodIn_app (goodIn_of _ (by decide +kernel)) ggL_weight_X5_weight
theorem dL_weight_0 : decode cL_weight 0 = .ok (.aload_n 2, 1) := by decide +kernel
theorem dL_weight_1 : decode cL_weight 1 = .ok (.iconst 0, 1) := by decide +kernel
theorem dL_weight_2 : decode cL_weight 2 = .ok (.aload_n 0, 1) := by decide +kernel
theorem dL_weight_3 : decode cL_weight 3 = .ok (.iload_n 1, 1) := by decide +kernel
theorem dL_weight_4 : decode cL_weight 4 = .ok (.invokevirtual 36, 3) := by decide +kernel
theorem dL_weight_7 : decode cL_weight 7 = .ok (.i2l, 1) := by decide +kernel
theorem dL_weight_8 : decode cL_weight 8 = .ok (.lastore, 1) := by decide +kernel
theorem dL_weight_9 : decode cL_weight 9 = .ok (.goto 6, 3) := by decide +kernel
theorem dL_weight_12 : decode cL_weight 12 = .ok (.astore_n 3, 1) := by decide +kernel
theorem dL_weight_13 : decode cL_weight 13 = .ok (.iconst 1, 1) := by decide +kernel
theorem dL_weight_14 : decode cL_weight 14 = .ok (.ireturn, 1) := by decide +kernel
theorem dL_weight_15 : decode cL_weight 15 = .ok (.iconst 0, 1) := by decide +kernel
theorem dL_weight_16 : decode cL_weight 16 = .ok (.ireturn, 1) := by decide +kernel
set_option maxRecDepth 20000 in
theorem ggL_free_X5_free : GoodIn wsL_free wsX5_free := goodIn_ca (goodIn_r _ [6, 7, 8, 9, 5, 10, 11, 12, 13, 14, 15, 16, 17, 18, 19, 20, 21, 22, 23, 24, 25, 26, 27, 28, 29, 30, 31, 32, 33, 34, 35, 36] (by decide +kernel) (by decide +kernel)) (goodIn_sub (fun _ h => List.mem_cons_of_mem _ (List.mem_append_right _ h)) (by decide +kernel))
set_option maxRecDepth 20000 in
theorem gL_free_X5_free : GoodIn wsL_free (wsV RL 39 RX5 yX5_free wsX5_free) := goodIn_app (goodIn_of _ (by decide +kernel)) ggL_free_X5_free
theorem dL_free_0 : decode cL_free 0 = .ok (.aload_n 2, 1) := by decide +kernel
theorem dL_free_1 : decode cL_free 1 = .ok (.iconst 0, 1) := by decide +kernel
theorem dL_free_2 : decode cL_free 2 = .ok (.aload_n 0, 1) := by decide +kernel
theorem dL_free_3 : decode cL_free 3 = .ok (.iload_n 1, 1) := by decide +kernel
theorem dL_free_4 : decode cL_free 4 = .ok (.invokevirtual 39, 3) := by decide +kernel
theorem dL_free_7 : decode cL_free 7 = .ok (.i2l, 1) := by decide +kernel
theorem dL_free_8 : decode cL_free 8 = .ok (.lastore, 1) := by decide +kernel
theorem dL_free_9 : decode cL_free 9 = .ok (.goto 6, 3) := by decide +kernel
theorem dL_free_12 : decode cL_free 12 = .ok (.astore_n 3, 1) := by decide +kernel
theorem dL_free_13 : decode cL_free 13 = .ok (.iconst 1, 1) := by decide +kernel
theorem dL_free_14 : decode cL_free 14 = .ok (.ireturn, 1) := by decide +kernel
theorem dL_free_15 : decode cL_free 15 = .ok (.iconst 0, 1) := by decide +kernel
theorem dL_free_16 : decode cL_free 16 = .ok (.ireturn, 1) := by decide +kernel
set_option maxRecDepth 20000 in
theorem ggL_reach_X5_reach : GoodIn wsL_reach wsX5_reach := goodIn_ca (goodIn_r _ [6, 7, 8, 9, 10, 5, 11, 12, 13, 14, 15, 16, 17, 18, 19, 20, 21, 22, 23, 24, 25, 26, 27, 28, 29, 30] (by decide +kernel) (by decide +kernel)) (goodIn_sub (fun _ h => List.mem_cons_of_mem _ (List.mem_append_right _ h)) (by decide +kernel))
set_option maxRecDepth 20000 in
theorem gL_reach_X5_reach : GoodIn wsL_reach (wsV RL 42 RX5 yX5_reach wsX5_reach) := goodIn_app (goodIn_of _ (by decide +kernel)) ggL_reach_X5_reach
theorem dL_reach_0 : decode cL_reach 0 = .ok (.aload_n 2, 1) := by decide +kernel
theorem dL_reach_1 : decode cL_reach 1 = .ok (.iconst 0, 1) := by decide +kernel
theorem dL_reach_2 : decode cL_reach 2 = .ok (.aload_n 0, 1) := by decide +kernel
theorem dL_reach_3 : decode cL_reach 3 = .ok (.iload_n 1, 1) := by decide +kernel
theorem dL_reach_4 : decode cL_reach 4 = .ok (.invokevirtual 42, 3) := by decide +kernel
theorem dL_reach_7 : decode cL_reach 7 = .ok (.i2l, 1) := by decide +kernel
theorem dL_reach_8 : decode cL_reach 8 = .ok (.lastore, 1) := by decide +kernel
theorem dL_reach_9 : decode cL_reach 9 = .ok (.goto 6, 3) := by decide +kernel
theorem dL_reach_12 : decode cL_reach 12 = .ok (.astore_n 3, 1) := by decide +kernel
theorem dL_reach_13 : decode cL_reach 13 = .ok (.iconst 1, 1) := by decide +kernel
theorem dL_reach_14 : decode cL_reach 14 = .ok (.ireturn, 1) := by decide +kernel
theorem dL_reach_15 : decode cL_reach 15 = .ok (.iconst 0, 1) := by decide +kernel
theorem dL_reach_16 : decode cL_reach 16 = .ok (.ireturn, 1) := by decide +kernel
set_option maxRecDepth 20000 in
theorem ggL_call_X5_call : GoodIn wsL_call wsX5_call := goodIn_ca (goodIn_r _ [6, 7, 8, 9, 10, 5, 11, 12, 13, 14, 15, 16, 17, 18, 19, 20, 21, 22, 23, 24, 25, 26, 27, 28, 29, 30, 31, 32, 33, 34, 35, 36, 37, 38, 39, 40, 41, 42, 43, 44, 45, 46, 47, 48, 49, 50, 51, 52, 53, 54, 55, 56, 57, 58, 59, 60, 61, 62, 63, 64, 65, 66, 67, 68, 69, 70, 71, 72, 73, 74, 75, 76, 77, 78, 79, 80] (by decide +kernel) (by decide +kernel)) (goodIn_sub (fun _ h => List.mem_cons_of_mem _ (List.mem_append_right _ h)) (by decide +kernel))
set_option maxRecDepth 20000 in
theorem gL_call_X5_call : GoodIn wsL_call (wsV RL 45 RX5 yX5_call wsX5_call) := goodIn_app (goodIn_of _ (by decide +kernel)) ggL_call_X5_call
theorem dL_call_0 : decode cL_call 0 = .ok (.aload_n 2, 1) := by decide +kernel
theorem dL_call_1 : decode cL_call 1 = .ok (.iconst 0, 1) := by decide +kernel
theorem dL_call_2 : decode cL_call 2 = .ok (.aload_n 0, 1) := by decide +kernel
theorem dL_call_3 : decode cL_call 3 = .ok (.iload_n 1, 1) := by decide +kernel
theorem dL_call_4 : decode cL_call 4 = .ok (.invokevirtual 45, 3) := by decide +kernel
theorem dL_call_7 : decode cL_call 7 = .ok (.i2l, 1) := by decide +kernel
theorem dL_call_8 : decode cL_call 8 = .ok (.lastore, 1) := by decide +kernel
theorem dL_call_9 : decode cL_call 9 = .ok (.goto 6, 3) := by decide +kernel
theorem dL_call_12 : decode cL_call 12 = .ok (.astore_n 3, 1) := by decide +kernel
theorem dL_call_13 : decode cL_call 13 = .ok (.iconst 1, 1) := by decide +kernel
theorem dL_call_14 : decode cL_call 14 = .ok (.ireturn, 1) := by decide +kernel
theorem dL_call_15 : decode cL_call 15 = .ok (.iconst 0, 1) := by decide +kernel
theorem dL_call_16 : decode cL_call 16 = .ok (.ireturn, 1) := by decide +kernel
set_option maxRecDepth 20000 in
theorem ggL_misplace_X5_misplace : GoodIn wsL_misplace wsX5_misplace := goodIn_ca (goodIn_ca (goodIn_r _ [7, 8, 9, 10, 11, 12, 13, 6, 14, 15, 16, 17, 18, 19, 20, 21, 22, 23, 24, 25, 26, 27, 28, 29, 30, 31, 32, 33, 34, 35, 36, 37, 38, 39, 40, 41, 42, 43, 44, 45, 46, 47, 48, 49, 50, 51, 52, 53, 54, 55, 56, 57, 58, 59, 60, 61, 62, 63, 64, 65, 66, 67, 68, 69, 70, 71, 72, 73, 74, 75, 76, 77, 78, 79, 80, 81, 82] (by decide +kernel) (by decide +kernel)) (goodIn_sub (fun _ h => List.mem_cons_of_mem _ (List.mem_append_left _ (List.mem_append_right _ h))) (by decide +kernel))) (goodIn_sub (fun _ h => List.mem_cons_of_mem _ (List.mem_append_right _ h)) (by decide +kernel))
set_option maxRecDepth 20000 in
theorem gL_misplace_X5_misplace : GoodIn wsL_misplace (wsV RL 48 RX5 yX5_misplace wsX5_misplace) := goodIn_app (goodIn_of _ (by decide +kernel)) ggL_misplace_X5_misplace
theorem dL_misplace_0 : decode cL_misplace 0 = .ok (.aload_n 3, 1) := by decide +kernel
theorem dL_misplace_1 : decode cL_misplace 1 = .ok (.iconst 0, 1) := by decide +kernel
theorem dL_misplace_2 : decode cL_misplace 2 = .ok (.aload_n 0, 1) := by decide +kernel
theorem dL_misplace_3 : decode cL_misplace 3 = .ok (.iload_n 1, 1) := by decide +kernel
theorem dL_misplace_4 : decode cL_misplace 4 = .ok (.iload_n 2, 1) := by decide +kernel
theorem dL_misplace_5 : decode cL_misplace 5 = .ok (.invokevirtual 48, 3) := by decide +kernel
theorem dL_misplace_8 : decode cL_misplace 8 = .ok (.i2l, 1) := by decide +kernel
theorem dL_misplace_9 : decode cL_misplace 9 = .ok (.lastore, 1) := by decide +kernel
theorem dL_misplace_10 : decode cL_misplace 10 = .ok (.goto 11, 3) := by decide +kernel
theorem dL_misplace_13 : decode cL_misplace 13 = .ok (.astore 4, 2) := by decide +kernel
theorem dL_misplace_15 : decode cL_misplace 15 = .ok (.iconst 1, 1) := by decide +kernel
theorem dL_misplace_16 : decode cL_misplace 16 = .ok (.ireturn, 1) := by decide +kernel
theorem dL_misplace_17 : decode cL_misplace 17 = .ok (.astore 4, 2) := by decide +kernel
theorem dL_misplace_19 : decode cL_misplace 19 = .ok (.iconst 2, 1) := by decide +kernel
theorem dL_misplace_20 : decode cL_misplace 20 = .ok (.ireturn, 1) := by decide +kernel
theorem dL_misplace_21 : decode cL_misplace 21 = .ok (.iconst 0, 1) := by decide +kernel
theorem dL_misplace_22 : decode cL_misplace 22 = .ok (.ireturn, 1) := by decide +kernel
set_option maxRecDepth 20000 in
theorem ggL_night_X5_night : GoodIn wsL_night wsX5_night := goodIn_ca (goodIn_r _ [6, 7, 8, 9, 10, 5, 11, 12, 13, 14, 15, 16, 17, 18, 19, 20, 21, 22, 23, 24, 25, 26, 27, 28, 29, 30, 31, 32, 33, 34, 35, 36, 37, 38, 39, 40, 41, 42, 43, 44, 45, 46, 47, 48, 49, 50, 51, 52, 53, 54, 55, 56, 57, 58, 59, 60, 61, 62, 63, 64, 65, 66, 67, 68, 69, 70, 71, 72, 73, 74, 75, 76, 77, 78, 79, 80, 81, 82, 83, 84, 85, 86, 87, 88, 89, 90, 91, 92, 93, 94, 95, 96, 97, 98, 99, 100, 101, 102, 103, 104, 105, 106, 107, 108, 109, 110, 111, 112, 113, 114, 115, 116, 117, 118, 119, 120, 121, 122, 123, 124, 125, 126, 127, 128, 129, 130, 131, 132, 133] (by decide +kernel) (by decide +kernel)) (goodIn_sub (fun _ h => List.mem_cons_of_mem _ (List.mem_append_right _ h)) (by decide +kernel))
set_option maxRecDepth 20000 in
theorem gL_night_X5_night : GoodIn wsL_night (wsV RL 51 RX5 yX5_night wsX5_night) := goodIn_app (goodIn_of _ (by decide +kernel)) ggL_night_X5_night
theorem dL_night_0 : decode cL_night 0 = .ok (.aload_n 2, 1) := by decide +kernel
theorem dL_night_1 : decode cL_night 1 = .ok (.iconst 0, 1) := by decide +kernel
theorem dL_night_2 : decode cL_night 2 = .ok (.aload_n 0, 1) := by decide +kernel
theorem dL_night_3 : decode cL_night 3 = .ok (.iload_n 1, 1) := by decide +kernel
theorem dL_night_4 : decode cL_night 4 = .ok (.invokevirtual 51, 3) := by decide +kernel
theorem dL_night_7 : decode cL_night 7 = .ok (.i2l, 1) := by decide +kernel
theorem dL_night_8 : decode cL_night 8 = .ok (.lastore, 1) := by decide +kernel
theorem dL_night_9 : decode cL_night 9 = .ok (.goto 6, 3) := by decide +kernel
theorem dL_night_12 : decode cL_night 12 = .ok (.astore_n 3, 1) := by decide +kernel
theorem dL_night_13 : decode cL_night 13 = .ok (.iconst 1, 1) := by decide +kernel
theorem dL_night_14 : decode cL_night 14 = .ok (.ireturn, 1) := by decide +kernel
theorem dL_night_15 : decode cL_night 15 = .ok (.iconst 0, 1) := by decide +kernel
theorem dL_night_16 : decode cL_night 16 = .ok (.ireturn, 1) := by decide +kernel
set_option maxRecDepth 20000 in
theorem ggL_reason_X5_reason : GoodIn wsL_reason wsX5_reason := goodIn_ca (goodIn_r _ [6, 7, 8, 9, 10, 11, 12, 5, 13, 14, 15, 16, 17, 18, 19, 20, 21, 22, 23, 24, 25, 26, 27, 28, 29, 30, 31, 32, 33, 34, 35, 36, 37, 38, 39, 40, 41, 42, 43, 44, 45, 46, 47, 48, 49, 50, 51, 52, 53, 54, 55, 56, 57, 58, 59, 60, 61, 62, 63, 64] (by decide +kernel) (by decide +kernel)) (goodIn_sub (fun _ h => List.mem_cons_of_mem _ (List.mem_append_right _ h)) (by decide +kernel))
set_option maxRecDepth 20000 in
theorem gL_reason_X5_reason : GoodIn wsL_reason (wsV RL 54 RX5 yX5_reason wsX5_reason) := goodIn_app (goodIn_of _ (by decide +kernel)) ggL_reason_X5_reason
theorem dL_reason_0 : decode cL_reason 0 = .ok (.aload_n 3, 1) := by decide +kernel
theorem dL_reason_1 : decode cL_reason 1 = .ok (.iconst 0, 1) := by decide +kernel
theorem dL_reason_2 : decode cL_reason 2 = .ok (.aload_n 0, 1) := by decide +kernel
theorem dL_reason_3 : decode cL_reason 3 = .ok (.iload_n 1, 1) := by decide +kernel
theorem dL_reason_4 : decode cL_reason 4 = .ok (.iload_n 2, 1) := by decide +kernel
theorem dL_reason_5 : decode cL_reason 5 = .ok (.invokevirtual 54, 3) := by decide +kernel
theorem dL_reason_8 : decode cL_reason 8 = .ok (.i2l, 1) := by decide +kernel
theorem dL_reason_9 : decode cL_reason 9 = .ok (.lastore, 1) := by decide +kernel
theorem dL_reason_10 : decode cL_reason 10 = .ok (.goto 7, 3) := by decide +kernel
theorem dL_reason_13 : decode cL_reason 13 = .ok (.astore 4, 2) := by decide +kernel
theorem dL_reason_15 : decode cL_reason 15 = .ok (.iconst 1, 1) := by decide +kernel
theorem dL_reason_16 : decode cL_reason 16 = .ok (.ireturn, 1) := by decide +kernel
theorem dL_reason_17 : decode cL_reason 17 = .ok (.iconst 0, 1) := by decide +kernel
theorem dL_reason_18 : decode cL_reason 18 = .ok (.ireturn, 1) := by decide +kernel
set_option maxRecDepth 20000 in
theorem ggL_costAfterNight_X5_costAfterNight : GoodIn wsL_costAfterNight wsX5_costAfterNight := goodIn_ca (goodIn_r _ [6, 7, 8, 9, 10, 11, 5, 12, 13, 14, 15, 16, 17, 18, 19, 20, 21, 22, 23, 24, 25, 26, 27, 28, 29, 30, 31, 32, 33, 34, 35, 36, 37, 38, 39, 40, 41, 42, 43, 44, 45, 46, 47, 48, 49, 50, 51, 52, 53, 54, 55, 56, 57, 58, 59, 60, 61, 62, 63, 64, 65, 66, 67, 68, 69, 70, 71, 72, 73, 74, 75, 76, 77, 78, 79, 80, 81, 82, 83, 84, 85, 86, 87, 88, 89, 90, 91, 92, 93, 94, 95, 96, 97, 98, 99, 100, 101, 102, 103, 104, 105, 106, 107, 108, 109, 110, 111, 112, 113, 114, 115, 116, 117, 118, 119, 120, 121, 122, 123, 124, 125, 126, 127, 128] (by decide +kernel) (by decide +kernel)) (goodIn_sub (fun _ h => List.mem_cons_of_mem _ (List.mem_append_right _ h)) (by decide +kernel))
set_option maxRecDepth 20000 in
theorem gL_costAfterNight_X5_costAfterNight : GoodIn wsL_costAfterNight (wsV RL 57 RX5 yX5_costAfterNight wsX5_costAfterNight) := goodIn_app (goodIn_of _ (by decide +kernel)) ggL_costAfterNight_X5_costAfterNight
theorem dL_costAfterNight_0 : decode cL_costAfterNight 0 = .ok (.aload_n 2, 1) := by decide +kernel
theorem dL_costAfterNight_1 : decode cL_costAfterNight 1 = .ok (.iconst 0, 1) := by decide +kernel
theorem dL_costAfterNight_2 : decode cL_costAfterNight 2 = .ok (.aload_n 0, 1) := by decide +kernel
theorem dL_costAfterNight_3 : decode cL_costAfterNight 3 = .ok (.iload_n 1, 1) := by decide +kernel
theorem dL_costAfterNight_4 : decode cL_costAfterNight 4 = .ok (.invokevirtual 57, 3) := by decide +kernel
theorem dL_costAfterNight_7 : decode cL_costAfterNight 7 = .ok (.i2l, 1) := by decide +kernel
theorem dL_costAfterNight_8 : decode cL_costAfterNight 8 = .ok (.lastore, 1) := by decide +kernel
theorem dL_costAfterNight_9 : decode cL_costAfterNight 9 = .ok (.goto 6, 3) := by decide +kernel
theorem dL_costAfterNight_12 : decode cL_costAfterNight 12 = .ok (.astore_n 3, 1) := by decide +kernel
theorem dL_costAfterNight_13 : decode cL_costAfterNight 13 = .ok (.iconst 1, 1) := by decide +kernel
theorem dL_costAfterNight_14 : decode cL_costAfterNight 14 = .ok (.ireturn, 1) := by decide +kernel
theorem dL_costAfterNight_15 : decode cL_costAfterNight 15 = .ok (.iconst 0, 1) := by decide +kernel
theorem dL_costAfterNight_16 : decode cL_costAfterNight 16 = .ok (.ireturn, 1) := by decide +kernel
set_option maxRecDepth 20000 in
theorem ggL_walkTo_X5_walkTo : GoodIn wsL_walkTo wsX5_walkTo := goodIn_ca (goodIn_r _ [6, 7, 8, 9, 10, 5, 11, 12, 13, 14, 15, 16, 17, 18, 19, 20, 21, 22, 23, 24, 25, 26, 27, 28, 29, 30, 31, 32, 33, 34, 35, 36, 37, 38, 39, 40, 41, 42, 43, 44, 45, 46, 47, 48, 49, 50, 51] (by decide +kernel) (by decide +kernel)) (goodIn_sub (fun _ h => List.mem_cons_of_mem _ (List.mem_append_right _ h)) (by decide +kernel))
set_option maxRecDepth 20000 in
theorem gL_walkTo_X5_walkTo : GoodIn wsL_walkTo (wsV RL 60 RX5 yX5_walkTo wsX5_walkTo) := goodIn_app (goodIn_of _ (by decide +kernel)) ggL_walkTo_X5_walkTo
theorem dL_walkTo_0 : decode cL_walkTo 0 = .ok (.aload_n 2, 1) := by decide +kernel
theorem dL_walkTo_1 : decode cL_walkTo 1 = .ok (.iconst 0, 1) := by decide +kernel
theorem dL_walkTo_2 : decode cL_walkTo 2 = .ok (.aload_n 0, 1) := by decide +kernel
theorem dL_walkTo_3 : decode cL_walkTo 3 = .ok (.iload_n 1, 1) := by decide +kernel
theorem dL_walkTo_4 : decode cL_walkTo 4 = .ok (.invokevirtual 60, 3) := by decide +kernel
theorem dL_walkTo_7 : decode cL_walkTo 7 = .ok (.i2l, 1) := by decide +kernel
theorem dL_walkTo_8 : decode cL_walkTo 8 = .ok (.lastore, 1) := by decide +kernel
theorem dL_walkTo_9 : decode cL_walkTo 9 = .ok (.goto 6, 3) := by decide +kernel
theorem dL_walkTo_12 : decode cL_walkTo 12 = .ok (.astore_n 3, 1) := by decide +kernel
theorem dL_walkTo_13 : decode cL_walkTo 13 = .ok (.iconst 1, 1) := by decide +kernel
theorem dL_walkTo_14 : decode cL_walkTo 14 = .ok (.ireturn, 1) := by decide +kernel
theorem dL_walkTo_15 : decode cL_walkTo 15 = .ok (.iconst 0, 1) := by decide +kernel
theorem dL_walkTo_16 : decode cL_walkTo 16 = .ok (.ireturn, 1) := by decide +kernel
set_option maxRecDepth 20000 in
theorem ggL_shelfFor_X5_shelfFor : GoodIn wsL_shelfFor wsX5_shelfFor := goodIn_ca (goodIn_r _ [6, 7, 8, 9, 10, 5, 11, 12, 13, 14, 15, 16, 17, 18, 19, 20, 21, 22, 23, 24, 25, 26, 27, 28, 29, 30, 31, 32, 33, 34, 35, 36, 37] (by decide +kernel) (by decide +kernel)) (goodIn_sub (fun _ h => List.mem_cons_of_mem _ (List.mem_append_right _ h)) (by decide +kernel))
set_option maxRecDepth 20000 in
theorem gL_shelfFor_X5_shelfFor : GoodIn wsL_shelfFor (wsV RL 63 RX5 yX5_shelfFor wsX5_shelfFor) := goodIn_app (goodIn_of _ (by decide +kernel)) ggL_shelfFor_X5_shelfFor
theorem dL_shelfFor_0 : decode cL_shelfFor 0 = .ok (.aload_n 2, 1) := by decide +kernel
theorem dL_shelfFor_1 : decode cL_shelfFor 1 = .ok (.iconst 0, 1) := by decide +kernel
theorem dL_shelfFor_2 : decode cL_shelfFor 2 = .ok (.aload_n 0, 1) := by decide +kernel
theorem dL_shelfFor_3 : decode cL_shelfFor 3 = .ok (.iload_n 1, 1) := by decide +kernel
theorem dL_shelfFor_4 : decode cL_shelfFor 4 = .ok (.invokevirtual 63, 3) := by decide +kernel
theorem dL_shelfFor_7 : decode cL_shelfFor 7 = .ok (.i2l, 1) := by decide +kernel
theorem dL_shelfFor_8 : decode cL_shelfFor 8 = .ok (.lastore, 1) := by decide +kernel
theorem dL_shelfFor_9 : decode cL_shelfFor 9 = .ok (.goto 6, 3) := by decide +kernel
theorem dL_shelfFor_12 : decode cL_shelfFor 12 = .ok (.astore_n 3, 1) := by decide +kernel
theorem dL_shelfFor_13 : decode cL_shelfFor 13 = .ok (.iconst 1, 1) := by decide +kernel
theorem dL_shelfFor_14 : decode cL_shelfFor 14 = .ok (.ireturn, 1) := by decide +kernel
theorem dL_shelfFor_15 : decode cL_shelfFor 15 = .ok (.iconst 0, 1) := by decide +kernel
theorem dL_shelfFor_16 : decode cL_shelfFor 16 = .ok (.ireturn, 1) := by decide +kernel
set_option maxRecDepth 20000 in
theorem ggL_append_X5_append : GoodIn wsL_append wsX5_append := goodIn_ca (goodIn_ca (goodIn_r _ [7, 8, 9, 10, 11, 12, 13, 14, 15, 16, 17, 18, 19, 20, 21, 22, 23, 24, 25, 26, 27, 28, 29, 30, 31, 32, 33] (by decide +kernel) (by decide +kernel)) (goodIn_sub (fun _ h => List.mem_cons_of_mem _ (List.mem_append_left _ (List.mem_append_right _ h))) (by decide +kernel))) (goodIn_sub (fun _ h => List.mem_cons_of_mem _ (List.mem_append_right _ h)) (by decide +kernel))
set_option maxRecDepth 20000 in
theorem gL_append_X5_append : GoodIn wsL_append (wsV RL 66 RX5 yX5_append wsX5_append) := goodIn_app (goodIn_of _ (by decide +kernel)) ggL_append_X5_append
theorem dL_append_0 : decode cL_append 0 = .ok (.aload_n 2, 1) := by decide +kernel
theorem dL_append_1 : decode cL_append 1 = .ok (.iconst 0, 1) := by decide +kernel
theorem dL_append_2 : decode cL_append 2 = .ok (.aload_n 0, 1) := by decide +kernel
theorem dL_append_3 : decode cL_append 3 = .ok (.iload_n 1, 1) := by decide +kernel
theorem dL_append_4 : decode cL_append 4 = .ok (.invokevirtual 66, 3) := by decide +kernel
theorem dL_append_7 : decode cL_append 7 = .ok (.i2l, 1) := by decide +kernel
theorem dL_append_8 : decode cL_append 8 = .ok (.lastore, 1) := by decide +kernel
theorem dL_append_9 : decode cL_append 9 = .ok (.goto 9, 3) := by decide +kernel
theorem dL_append_12 : decode cL_append 12 = .ok (.astore_n 3, 1) := by decide +kernel
theorem dL_append_13 : decode cL_append 13 = .ok (.iconst 1, 1) := by decide +kernel
theorem dL_append_14 : decode cL_append 14 = .ok (.ireturn, 1) := by decide +kernel
theorem dL_append_15 : decode cL_append 15 = .ok (.astore_n 3, 1) := by decide +kernel
theorem dL_append_16 : decode cL_append 16 = .ok (.iconst 2, 1) := by decide +kernel
theorem dL_append_17 : decode cL_append 17 = .ok (.ireturn, 1) := by decide +kernel
theorem dL_append_18 : decode cL_append 18 = .ok (.iconst 0, 1) := by decide +kernel
theorem dL_append_19 : decode cL_append 19 = .ok (.ireturn, 1) := by decide +kernel
set_option maxRecDepth 20000 in
theorem ggL_run_X5_run : GoodIn wsL_run wsX5_run := goodIn_ca (goodIn_r _ [6, 7, 8, 9, 10, 11, 12, 13, 14, 15, 16, 17, 18, 19, 20, 21, 22, 23, 24, 25, 26, 27, 28, 29, 30, 31, 32, 33, 34, 35, 36, 37, 38, 39, 40, 41, 42, 43, 44, 45, 46, 47, 48, 49, 50, 51, 52, 53, 54, 55, 56, 57, 58, 59, 60, 61, 62, 63, 64, 65, 66, 67, 68, 69, 70, 71, 72, 73, 74, 75, 76, 77, 78, 79, 80, 81, 82, 83, 84, 85, 86, 87, 88, 89, 90, 91, 92, 93, 94, 95, 96, 97, 98, 99, 100, 101, 102, 103, 104, 105, 106, 107, 108, 109, 110, 111, 112, 113, 114, 115, 116, 117, 118, 119, 120, 121, 122, 123, 5, 124, 125, 126, 127, 128, 129, 130, 131, 132, 133, 134, 135, 136, 137, 138, 139, 140, 141, 142, 143, 144, 145, 146, 147, 148, 149, 150, 151, 152, 153, 154, 155, 156, 157, 158, 159, 160, 161, 162, 163, 164, 165, 166, 167, 168, 169, 170, 171, 172, 173, 174, 175, 176, 177, 178, 179, 180, 181, 182, 183, 184, 185, 186, 187, 188, 189, 190, 191, 192, 193, 194, 195, 196, 197, 198, 199, 200, 201, 202, 203, 204, 205, 206, 207, 208, 209, 210, 211, 212, 213, 214, 215, 216, 217, 218, 219, 220, 221, 222, 223, 224, 225, 226, 227, 228, 229, 230, 231, 232, 233, 234, 235, 236, 237, 238, 239, 240, 241, 242, 243, 244, 245, 246, 247, 248, 249, 250, 251, 252, 253, 254, 255, 256, 257, 258, 259, 260, 261, 262, 263, 264, 265, 266, 267, 268, 269, 270, 271, 272, 273, 274, 275, 276, 277, 278, 279, 280, 281, 282, 283, 284, 285, 286, 287, 288, 289, 290, 291, 292, 293, 294, 295, 296, 297, 298, 299, 300, 301, 302, 303, 304, 305, 306, 307, 308, 309, 310, 311, 312, 313] (by decide +kernel) (by decide +kernel)) (goodIn_sub (fun _ h => List.mem_cons_of_mem _ (List.mem_append_right _ h)) (by decide +kernel))
set_option maxRecDepth 20000 in
theorem gL_run_X5_run : GoodIn wsL_run (wsV RL 69 RX5 yX5_run wsX5_run) := goodIn_app (goodIn_of _ (by decide +kernel)) ggL_run_X5_run
theorem dL_run_0 : decode cL_run 0 = .ok (.aload_n 1, 1) := by decide +kernel
theorem dL_run_1 : decode cL_run 1 = .ok (.iconst 0, 1) := by decide +kernel
theorem dL_run_2 : decode cL_run 2 = .ok (.aload_n 0, 1) := by decide +kernel
theorem dL_run_3 : decode cL_run 3 = .ok (.invokevirtual 69, 3) := by decide +kernel
theorem dL_run_6 : decode cL_run 6 = .ok (.i2l, 1) := by decide +kernel
theorem dL_run_7 : decode cL_run 7 = .ok (.lastore, 1) := by decide +kernel
theorem dL_run_8 : decode cL_run 8 = .ok (.goto 6, 3) := by decide +kernel
theorem dL_run_11 : decode cL_run 11 = .ok (.astore_n 2, 1) := by decide +kernel
theorem dL_run_12 : decode cL_run 12 = .ok (.iconst 1, 1) := by decide +kernel
theorem dL_run_13 : decode cL_run 13 = .ok (.ireturn, 1) := by decide +kernel
theorem dL_run_14 : decode cL_run 14 = .ok (.iconst 0, 1) := by decide +kernel
theorem dL_run_15 : decode cL_run 15 = .ok (.ireturn, 1) := by decide +kernel
set_option maxRecDepth 20000 in
theorem ggL_undo_X5_undo : GoodIn wsL_undo wsX5_undo := goodIn_ca (goodIn_r _ [6, 7, 8, 9, 10, 11, 12, 13, 14, 15, 16, 17, 18, 19, 20, 21, 22, 23, 24, 25, 26, 27, 28, 29, 30, 31, 32, 33, 34, 35, 36, 37, 38, 39, 40, 41, 42, 43, 44, 45, 46, 47, 48] (by decide +kernel) (by decide +kernel)) (goodIn_sub (fun _ h => List.mem_cons_of_mem _ (List.mem_append_right _ h)) (by decide +kernel))
set_option maxRecDepth 20000 in
theorem gL_undo_X5_undo : GoodIn wsL_undo (wsV RL 73 RX5 yX5_undo wsX5_undo) := goodIn_app (goodIn_of _ (by decide +kernel)) ggL_undo_X5_undo
theorem dL_undo_0 : decode cL_undo 0 = .ok (.aload_n 1, 1) := by decide +kernel
theorem dL_undo_1 : decode cL_undo 1 = .ok (.iconst 0, 1) := by decide +kernel
theorem dL_undo_2 : decode cL_undo 2 = .ok (.aload_n 0, 1) := by decide +kernel
theorem dL_undo_3 : decode cL_undo 3 = .ok (.invokevirtual 73, 3) := by decide +kernel
theorem dL_undo_6 : decode cL_undo 6 = .ok (.i2l, 1) := by decide +kernel
theorem dL_undo_7 : decode cL_undo 7 = .ok (.lastore, 1) := by decide +kernel
theorem dL_undo_8 : decode cL_undo 8 = .ok (.goto 6, 3) := by decide +kernel
theorem dL_undo_11 : decode cL_undo 11 = .ok (.astore_n 2, 1) := by decide +kernel
theorem dL_undo_12 : decode cL_undo 12 = .ok (.iconst 1, 1) := by decide +kernel
theorem dL_undo_13 : decode cL_undo 13 = .ok (.ireturn, 1) := by decide +kernel
theorem dL_undo_14 : decode cL_undo 14 = .ok (.iconst 0, 1) := by decide +kernel
theorem dL_undo_15 : decode cL_undo 15 = .ok (.ireturn, 1) := by decide +kernel
set_option maxRecDepth 20000 in
theorem ggL_law_X5_init : GoodIn wsL_law wsX5_init := goodIn_r _ [9, 10, 11, 12, 13, 14, 15, 16, 17, 18, 19, 20, 21, 22, 23, 24, 25, 26, 27, 28, 29, 30, 31, 32, 33, 34, 35, 36, 37, 38, 39, 40, 41, 42, 43, 44, 45, 46, 47, 48, 49, 50, 884, 885, 886, 887, 888, 889, 890, 891, 892, 893, 894, 862, 863, 864, 865, 866, 867, 895, 896, 897, 898, 899, 900, 901, 902, 903, 904, 905] (by decide +kernel) (by decide +kernel)
set_option maxRecDepth 20000 in
theorem gL_law_X5_init : GoodIn wsL_law (wsX5_init) := ggL_law_X5_init
set_option maxRecDepth 20000 in
theorem ggL_law_X6_init : GoodIn wsL_law wsX6_init := goodIn_r _ [53, 54, 11, 12, 31, 55, 56, 57, 58, 59, 60, 868, 869, 870, 871, 872, 873, 874, 875, 876, 877, 878, 879, 880, 881, 882, 883] (by decide +kernel) (by decide +kernel)
set_option maxRecDepth 20000 in
theorem gL_law_X6_init : GoodIn wsL_law (wsX6_init) := ggL_law_X6_init
set_option maxRecDepth 20000 in
theorem ggL_law_L_setShelf : GoodIn wsL_law wsL_setShelf := goodIn_ca (goodIn_ca (goodIn_ca (goodIn_r _ [64, 65, 66, 67, 68, 69, 70, 2, 71, 72, 73, 74, 75, 16, 76, 77, 78, 79, 80, 81, 82, 83, 84, 85, 86, 87, 88, 26, 89, 90, 91, 92, 93, 94, 95, 15, 96, 32, 97, 98, 99, 100, 33, 34, 35, 36, 37, 38, 39, 101, 102, 103, 104, 105, 106, 107, 862, 863, 864, 865, 866, 867, 884, 885, 886, 887, 888, 889, 890, 891, 892, 893, 894] (by decide +kernel) (by decide +kernel)) (goodIn_sub (fun _ h => List.mem_append_left _ (List.mem_append_left _ (List.mem_append_right _ h))) (by decide +kernel))) (goodIn_sub (fun _ h => List.mem_append_left _ (List.mem_append_right _ h)) (by decide +kernel))) (goodIn_sub (fun _ h => List.mem_append_right _ h) (by decide +kernel))
set_option maxRecDepth 20000 in
theorem gL_law_L_setShelf : GoodIn wsL_law (va_wsS RL 80 yL_setShelf wsL_setShelf) := goodIn_app (goodIn_of _ (by decide +kernel)) ggL_law_L_setShelf
set_option maxRecDepth 20000 in
theorem ggL_law_X6_setShelf : GoodIn wsL_law wsX6_setShelf := goodIn_r _ [111, 60, 55, 112, 113, 5, 114, 115, 116, 117, 118, 119, 120, 121, 122, 123, 124, 125, 126, 127, 128, 129, 130, 131, 132, 133, 134, 57, 135, 136, 137, 138, 868, 869, 870, 871, 872, 873, 874, 875, 876, 877, 878, 879, 880, 881, 882, 883] (by decide +kernel) (by decide +kernel)
set_option maxRecDepth 20000 in
theorem gL_law_X6_setShelf : GoodIn wsL_law (wsV RL 85 RX6 yX6_setShelf wsX6_setShelf) := goodIn_app (goodIn_of _ (by decide +kernel)) ggL_law_X6_setShelf
set_option maxRecDepth 20000 in
theorem ggL_law_X6_thrown : GoodIn wsL_law wsX6_thrown := goodIn_r _ [142, 60, 868, 869, 870, 871, 872, 873, 874, 875, 876, 877, 878, 879, 880, 881, 882, 883] (by decide +kernel) (by decide +kernel)
set_option maxRecDepth 20000 in
theorem gL_law_X6_thrown : GoodIn wsL_law (wsV RL 86 RX6 yX6_thrown wsX6_thrown) := goodIn_app (goodIn_of _ (by decide +kernel)) ggL_law_X6_thrown
set_option maxRecDepth 20000 in
theorem ggL_law_L_addRecord : GoodIn wsL_law wsL_addRecord := goodIn_ca (goodIn_ca (goodIn_ca (goodIn_r _ [145, 65, 66, 67, 146, 147, 148, 2, 149, 74, 75, 16, 79, 80, 81, 82, 83, 150, 151, 152, 72, 73, 153, 154, 155, 15, 156, 101, 157, 105, 106, 107, 32, 34, 84, 85, 86, 87, 88, 26, 89, 90, 91, 92, 93, 94, 95, 96, 97, 98, 99, 100, 33, 35, 36, 37, 38, 39, 102, 103, 158, 159, 160, 161, 862, 863, 864, 865, 866, 867, 884, 885, 886, 887, 888, 889, 890, 891, 892, 893, 894] (by decide +kernel) (by decide +kernel)) (goodIn_sub (fun _ h => List.mem_append_left _ (List.mem_append_right _ h)) (by decide +kernel))) (goodIn_sub (fun _ h => List.mem_append_right _ h) (by decide +kernel))) (goodIn_sub (fun _ h => List.mem_append_left _ (List.mem_append_left _ (List.mem_append_right _ h))) (by decide +kernel))
set_option maxRecDepth 20000 in
theorem gL_law_L_addRecord : GoodIn wsL_law (va_wsS RL 89 yL_addRecord wsL_addRecord) := goodIn_app (goodIn_of _ (by decide +kernel)) ggL_law_L_addRecord
set_option maxRecDepth 20000 in
theorem ggL_law_X6_addRecord : GoodIn wsL_law wsX6_addRecord := goodIn_r _ [165, 60, 166, 167, 168, 5, 169, 55, 112, 113, 114, 115, 116, 117, 135, 136, 137, 138, 122, 123, 124, 125, 126, 127, 128, 129, 118, 119, 120, 121, 130, 131, 132, 133, 134, 57, 170, 171, 172, 173, 174, 175, 176, 177, 868, 869, 870, 871, 872, 873, 874, 875, 876, 877, 878, 879, 880, 881, 882, 883] (by decide +kernel) (by decide +kernel)
set_option maxRecDepth 20000 in
theorem gL_law_X6_addRecord : GoodIn wsL_law (wsV RL 92 RX6 yX6_addRecord wsX6_addRecord) := goodIn_app (goodIn_of _ (by decide +kernel)) ggL_law_X6_addRecord
set_option maxRecDepth 20000 in
theorem ggL_law_L_removeRecord : GoodIn wsL_law wsL_removeRecord := goodIn_ca (goodIn_r _ [180, 65, 181, 182, 183, 2, 184, 16, 185, 186, 187, 188, 82, 83, 189, 190, 191, 15, 192, 101, 84, 85, 86, 87, 88, 26, 89, 90, 91, 92, 93, 94, 95, 96, 32, 97, 98, 99, 100, 33, 34, 35, 36, 37, 38, 39, 102, 103, 193, 194, 195, 196, 862, 863, 864, 865, 866, 867, 884, 885, 886, 887, 888, 889, 890, 891, 892, 893, 894] (by decide +kernel) (by decide +kernel)) (goodIn_sub (fun _ h => List.mem_append_right _ h) (by decide +kernel))
set_option maxRecDepth 20000 in
theorem gL_law_L_removeRecord : GoodIn wsL_law (va_wsS RL 93 yL_removeRecord wsL_removeRecord) := goodIn_app (goodIn_of _ (by decide +kernel)) ggL_law_L_removeRecord
set_option maxRecDepth 20000 in
theorem ggL_law_X6_removeRecord : GoodIn wsL_law wsX6_removeRecord := goodIn_r _ [200, 60, 55, 201, 202, 203, 5, 204, 115, 116, 117, 118, 119, 120, 121, 130, 131, 132, 133, 134, 57, 126, 127, 128, 129, 174, 175, 176, 177, 868, 869, 870, 871, 872, 873, 874, 875, 876, 877, 878, 879, 880, 881, 882, 883] (by decide +kernel) (by decide +kernel)
set_option maxRecDepth 20000 in
theorem gL_law_X6_removeRecord : GoodIn wsL_law (wsV RL 96 RX6 yX6_removeRecord wsX6_removeRecord) := goodIn_app (goodIn_of _ (by decide +kernel)) ggL_law_X6_removeRecord
set_option maxRecDepth 20000 in
theorem ggL_law_X5_records : GoodIn wsL_law wsX5_records := goodIn_r _ [208, 16, 209, 862, 863, 864, 865, 866, 867, 884, 885, 886, 887, 888, 889, 890, 891, 892, 893, 894] (by decide +kernel) (by decide +kernel)
set_option maxRecDepth 20000 in
theorem gL_law_X5_records : GoodIn wsL_law (wsV RL 97 RX5 yX5_records wsX5_records) := goodIn_app (goodIn_of _ (by decide +kernel)) ggL_law_X5_records
set_option maxRecDepth 20000 in
theorem ggL_law_X6_records : GoodIn wsL_law wsX6_records := goodIn_r _ [213, 60, 55, 868, 869, 870, 871, 872, 873, 874, 875, 876, 877, 878, 879, 880, 881, 882, 883] (by decide +kernel) (by decide +kernel)
set_option maxRecDepth 20000 in
theorem gL_law_X6_records : GoodIn wsL_law (wsV RL 100 RX6 yX6_records wsX6_records) := goodIn_app (goodIn_of _ (by decide +kernel)) ggL_law_X6_records
set_option maxRecDepth 20000 in
theorem ggL_law_L_width : GoodIn wsL_law wsL_width := goodIn_ca (goodIn_r _ [216, 65, 217, 218, 219, 2, 220, 16, 221, 185, 186, 187, 188, 82, 83, 189, 190, 191, 15, 192, 101, 862, 863, 864, 865, 866, 867, 884, 885, 886, 887, 888, 889, 890, 891, 892, 893, 894] (by decide +kernel) (by decide +kernel)) (goodIn_sub (fun _ h => List.mem_append_right _ h) (by decide +kernel))
set_option maxRecDepth 20000 in
theorem gL_law_L_width : GoodIn wsL_law (va_wsS RL 101 yL_width wsL_width) := goodIn_app (goodIn_of _ (by decide +kernel)) ggL_law_L_width
set_option maxRecDepth 20000 in
theorem ggL_law_X6_width : GoodIn wsL_law wsX6_width := goodIn_r _ [225, 60, 201, 202, 203, 5, 204, 55, 115, 116, 117, 126, 127, 128, 129, 118, 119, 120, 121, 868, 869, 870, 871, 872, 873, 874, 875, 876, 877, 878, 879, 880, 881, 882, 883] (by decide +kernel) (by decide +kernel)
set_option maxRecDepth 20000 in
theorem gL_law_X6_width : GoodIn wsL_law (wsV RL 103 RX6 yX6_width wsX6_width) := goodIn_app (goodIn_of _ (by decide +kernel)) ggL_law_X6_width
set_option maxRecDepth 20000 in
theorem ggL_law_L_shelfOf : GoodIn wsL_law wsL_shelfOf := goodIn_ca (goodIn_r _ [228, 65, 229, 230, 231, 2, 232, 16, 233, 185, 186, 187, 188, 82, 83, 189, 190, 191, 15, 192, 101, 862, 863, 864, 865, 866, 867, 884, 885, 886, 887, 888, 889, 890, 891, 892, 893, 894] (by decide +kernel) (by decide +kernel)) (goodIn_sub (fun _ h => List.mem_append_right _ h) (by decide +kernel))
set_option maxRecDepth 20000 in
theorem gL_law_L_shelfOf : GoodIn wsL_law (va_wsS RL 104 yL_shelfOf wsL_shelfOf) := goodIn_app (goodIn_of _ (by decide +kernel)) ggL_law_L_shelfOf
set_option maxRecDepth 20000 in
theorem ggL_law_X6_shelfOf : GoodIn wsL_law wsX6_shelfOf := goodIn_r _ [237, 60, 201, 202, 203, 5, 204, 55, 115, 116, 117, 126, 127, 128, 129, 118, 119, 120, 121, 868, 869, 870, 871, 872, 873, 874, 875, 876, 877, 878, 879, 880, 881, 882, 883] (by decide +kernel) (by decide +kernel)
set_option maxRecDepth 20000 in
theorem gL_law_X6_shelfOf : GoodIn wsL_law (wsV RL 106 RX6 yX6_shelfOf wsX6_shelfOf) := goodIn_app (goodIn_of _ (by decide +kernel)) ggL_law_X6_shelfOf
set_option maxRecDepth 20000 in
theorem ggL_law_L_catalog : GoodIn wsL_law wsL_catalog := goodIn_ca (goodIn_r _ [240, 65, 241, 242, 243, 2, 244, 16, 245, 185, 186, 187, 188, 82, 83, 189, 190, 191, 15, 192, 101, 862, 863, 864, 865, 866, 867, 884, 885, 886, 887, 888, 889, 890, 891, 892, 893, 894] (by decide +kernel) (by decide +kernel)) (goodIn_sub (fun _ h => List.mem_append_right _ h) (by decide +kernel))
set_option maxRecDepth 20000 in
theorem gL_law_L_catalog : GoodIn wsL_law (va_wsS RL 107 yL_catalog wsL_catalog) := goodIn_app (goodIn_of _ (by decide +kernel)) ggL_law_L_catalog
set_option maxRecDepth 20000 in
theorem ggL_law_X6_catalog : GoodIn wsL_law wsX6_catalog := goodIn_r _ [249, 60, 201, 202, 203, 5, 204, 55, 115, 116, 117, 126, 127, 128, 129, 118, 119, 120, 121, 868, 869, 870, 871, 872, 873, 874, 875, 876, 877, 878, 879, 880, 881, 882, 883] (by decide +kernel) (by decide +kernel)
set_option maxRecDepth 20000 in
theorem gL_law_X6_catalog : GoodIn wsL_law (wsV RL 109 RX6 yX6_catalog wsX6_catalog) := goodIn_app (goodIn_of _ (by decide +kernel)) ggL_law_X6_catalog
set_option maxRecDepth 20000 in
theorem ggL_law_L_weight : GoodIn wsL_law wsL_weight := goodIn_ca (goodIn_r _ [252, 65, 253, 254, 255, 2, 256, 16, 185, 186, 187, 188, 82, 83, 189, 190, 191, 15, 192, 101, 257, 258, 259, 260, 38, 39, 862, 863, 864, 865, 866, 867, 884, 885, 886, 887, 888, 889, 890, 891, 892, 893, 894] (by decide +kernel) (by decide +kernel)) (goodIn_sub (fun _ h => List.mem_append_right _ h) (by decide +kernel))
set_option maxRecDepth 20000 in
theorem gL_law_L_weight : GoodIn wsL_law (va_wsS RL 110 yL_weight wsL_weight) := goodIn_app (goodIn_of _ (by decide +kernel)) ggL_law_L_weight
set_option maxRecDepth 20000 in
theorem ggL_law_X6_weight : GoodIn wsL_law wsX6_weight := goodIn_r _ [264, 60, 201, 202, 203, 5, 204, 55, 115, 116, 117, 265, 266, 267, 268, 126, 127, 128, 129, 118, 119, 120, 121, 868, 869, 870, 871, 872, 873, 874, 875, 876, 877, 878, 879, 880, 881, 882, 883] (by decide +kernel) (by decide +kernel)
set_option maxRecDepth 20000 in
theorem gL_law_X6_weight : GoodIn wsL_law (wsV RL 112 RX6 yX6_weight wsX6_weight) := goodIn_app (goodIn_of _ (by decide +kernel)) ggL_law_X6_weight
set_option maxRecDepth 20000 in
theorem ggL_law_L_free : GoodIn wsL_law wsL_free := goodIn_ca (goodIn_r _ [271, 65, 272, 273, 274, 2, 275, 16, 79, 80, 81, 82, 83, 104, 105, 106, 15, 107, 32, 34, 862, 863, 864, 865, 866, 867, 884, 885, 886, 887, 888, 889, 890, 891, 892, 893, 894] (by decide +kernel) (by decide +kernel)) (goodIn_sub (fun _ h => List.mem_append_right _ h) (by decide +kernel))
set_option maxRecDepth 20000 in
theorem gL_law_L_free : GoodIn wsL_law (va_wsS RL 113 yL_free wsL_free) := goodIn_app (goodIn_of _ (by decide +kernel)) ggL_law_L_free
set_option maxRecDepth 20000 in
theorem ggL_law_X6_free : GoodIn wsL_law wsX6_free := goodIn_r _ [279, 60, 112, 113, 5, 114, 115, 116, 117, 135, 136, 137, 138, 55, 122, 123, 124, 125, 126, 127, 128, 129, 118, 119, 120, 121, 868, 869, 870, 871, 872, 873, 874, 875, 876, 877, 878, 879, 880, 881, 882, 883] (by decide +kernel) (by decide +kernel)
set_option maxRecDepth 20000 in
theorem gL_law_X6_free : GoodIn wsL_law (wsV RL 115 RX6 yX6_free wsX6_free) := goodIn_app (goodIn_of _ (by decide +kernel)) ggL_law_X6_free
set_option maxRecDepth 20000 in
theorem ggL_law_L_reach : GoodIn wsL_law wsL_reach := goodIn_ca (goodIn_r _ [282, 65, 283, 284, 285, 2, 286, 16, 78, 79, 80, 81, 82, 83, 862, 863, 864, 865, 866, 867, 884, 885, 886, 887, 888, 889, 890, 891, 892, 893, 894] (by decide +kernel) (by decide +kernel)) (goodIn_sub (fun _ h => List.mem_append_right _ h) (by decide +kernel))
set_option maxRecDepth 20000 in
theorem gL_law_L_reach : GoodIn wsL_law (va_wsS RL 116 yL_reach wsL_reach) := goodIn_app (goodIn_of _ (by decide +kernel)) ggL_law_L_reach
set_option maxRecDepth 20000 in
theorem ggL_law_X6_reach : GoodIn wsL_law wsX6_reach := goodIn_r _ [290, 60, 55, 112, 113, 5, 114, 115, 116, 117, 118, 119, 120, 121, 868, 869, 870, 871, 872, 873, 874, 875, 876, 877, 878, 879, 880, 881, 882, 883] (by decide +kernel) (by decide +kernel)
set_option maxRecDepth 20000 in
theorem gL_law_X6_reach : GoodIn wsL_law (wsV RL 118 RX6 yX6_reach wsX6_reach) := goodIn_app (goodIn_of _ (by decide +kernel)) ggL_law_X6_reach
set_option maxRecDepth 20000 in
theorem ggL_law_L_call : GoodIn wsL_law wsL_call := goodIn_ca (goodIn_r _ [293, 65, 294, 295, 296, 2, 297, 16, 185, 186, 187, 188, 82, 83, 189, 190, 191, 15, 192, 101, 84, 85, 86, 87, 88, 26, 89, 90, 91, 92, 93, 94, 95, 96, 32, 97, 98, 99, 100, 33, 34, 35, 36, 37, 38, 39, 102, 103, 298, 299, 300, 301, 302, 303, 304, 305, 306, 307, 308, 309, 310, 311, 312, 313, 862, 863, 864, 865, 866, 867, 884, 885, 886, 887, 888, 889, 890, 891, 892, 893, 894] (by decide +kernel) (by decide +kernel)) (goodIn_sub (fun _ h => List.mem_append_right _ h) (by decide +kernel))
set_option maxRecDepth 20000 in
theorem gL_law_L_call : GoodIn wsL_law (va_wsS RL 119 yL_call wsL_call) := goodIn_app (goodIn_of _ (by decide +kernel)) ggL_law_L_call
set_option maxRecDepth 20000 in
theorem ggL_law_X6_call : GoodIn wsL_law wsX6_call := goodIn_r _ [317, 60, 201, 202, 203, 5, 204, 55, 115, 116, 117, 118, 119, 120, 121, 130, 131, 132, 133, 134, 57, 318, 319, 320, 321, 322, 323, 324, 325, 126, 127, 128, 129, 326, 327, 328, 329, 330, 331, 332, 333, 174, 175, 176, 177, 868, 869, 870, 871, 872, 873, 874, 875, 876, 877, 878, 879, 880, 881, 882, 883] (by decide +kernel) (by decide +kernel)
set_option maxRecDepth 20000 in
theorem gL_law_X6_call : GoodIn wsL_law (wsV RL 121 RX6 yX6_call wsX6_call) := goodIn_app (goodIn_of _ (by decide +kernel)) ggL_law_X6_call
set_option maxRecDepth 20000 in
theorem ggL_law_L_misplace : GoodIn wsL_law wsL_misplace := goodIn_ca (goodIn_ca (goodIn_r _ [336, 65, 67, 337, 338, 339, 2, 340, 74, 75, 16, 185, 186, 187, 188, 82, 83, 189, 190, 191, 15, 192, 101, 79, 80, 81, 341, 342, 343, 344, 36, 35, 157, 105, 106, 107, 32, 34, 84, 85, 86, 87, 88, 26, 89, 90, 91, 92, 93, 94, 95, 96, 97, 98, 99, 100, 33, 37, 38, 39, 102, 103, 345, 346, 347, 348, 862, 863, 864, 865, 866, 867, 884, 885, 886, 887, 888, 889, 890, 891, 892, 893, 894] (by decide +kernel) (by decide +kernel)) (goodIn_sub (fun _ h => List.mem_append_left _ (List.mem_append_right _ h)) (by decide +kernel))) (goodIn_sub (fun _ h => List.mem_append_right _ h) (by decide +kernel))
set_option maxRecDepth 20000 in
theorem gL_law_L_misplace : GoodIn wsL_law (va_wsS RL 122 yL_misplace wsL_misplace) := goodIn_app (goodIn_of _ (by decide +kernel)) ggL_law_L_misplace
set_option maxRecDepth 20000 in
theorem ggL_law_X6_misplace : GoodIn wsL_law wsX6_misplace := goodIn_r _ [352, 60, 353, 354, 355, 5, 356, 201, 202, 203, 204, 55, 115, 116, 117, 112, 113, 114, 126, 127, 128, 129, 135, 136, 137, 138, 122, 123, 124, 125, 118, 119, 120, 121, 130, 131, 132, 133, 134, 57, 174, 175, 176, 177, 868, 869, 870, 871, 872, 873, 874, 875, 876, 877, 878, 879, 880, 881, 882, 883] (by decide +kernel) (by decide +kernel)
set_option maxRecDepth 20000 in
theorem gL_law_X6_misplace : GoodIn wsL_law (wsV RL 124 RX6 yX6_misplace wsX6_misplace) := goodIn_app (goodIn_of _ (by decide +kernel)) ggL_law_X6_misplace
set_option maxRecDepth 20000 in
theorem ggL_law_X5_month : GoodIn wsL_law wsX5_month := goodIn_r _ [360, 16, 84, 85, 86, 2, 87, 88, 26, 89, 90, 91, 92, 93, 94, 95, 15, 96, 32, 97, 98, 99, 100, 33, 34, 35, 36, 37, 38, 39, 101, 102, 103, 361, 362, 363, 364, 862, 863, 864, 865, 866, 867, 884, 885, 886, 887, 888, 889, 890, 891, 892, 893, 894] (by decide +kernel) (by decide +kernel)
set_option maxRecDepth 20000 in
theorem gL_law_X5_month : GoodIn wsL_law (wsV RL 125 RX5 yX5_month wsX5_month) := goodIn_app (goodIn_of _ (by decide +kernel)) ggL_law_X5_month
set_option maxRecDepth 20000 in
theorem ggL_law_X6_month : GoodIn wsL_law wsX6_month := goodIn_r _ [368, 60, 130, 131, 132, 5, 133, 134, 57, 55, 369, 370, 371, 372, 126, 127, 128, 129, 174, 175, 176, 177, 868, 869, 870, 871, 872, 873, 874, 875, 876, 877, 878, 879, 880, 881, 882, 883] (by decide +kernel) (by decide +kernel)
set_option maxRecDepth 20000 in
theorem gL_law_X6_month : GoodIn wsL_law (wsV RL 128 RX6 yX6_month wsX6_month) := goodIn_app (goodIn_of _ (by decide +kernel)) ggL_law_X6_month
set_option maxRecDepth 20000 in
theorem ggL_law_X5_misplaced : GoodIn wsL_law wsX5_misplaced := goodIn_r _ [376, 16, 377, 378, 379, 15, 380, 101, 306, 307, 308, 309, 36, 37, 862, 863, 864, 865, 866, 867, 884, 885, 886, 887, 888, 889, 890, 891, 892, 893, 894] (by decide +kernel) (by decide +kernel)
set_option maxRecDepth 20000 in
theorem gL_law_X5_misplaced : GoodIn wsL_law (wsV RL 129 RX5 yX5_misplaced wsX5_misplaced) := goodIn_app (goodIn_of _ (by decide +kernel)) ggL_law_X5_misplaced
set_option maxRecDepth 20000 in
theorem ggL_law_X6_misplaced : GoodIn wsL_law wsX6_misplaced := goodIn_r _ [384, 60, 385, 386, 387, 5, 388, 55, 326, 327, 328, 329, 126, 127, 128, 129, 868, 869, 870, 871, 872, 873, 874, 875, 876, 877, 878, 879, 880, 881, 882, 883] (by decide +kernel) (by decide +kernel)
set_option maxRecDepth 20000 in
theorem gL_law_X6_misplaced : GoodIn wsL_law (wsV RL 132 RX6 yX6_misplaced wsX6_misplaced) := goodIn_app (goodIn_of _ (by decide +kernel)) ggL_law_X6_misplaced
set_option maxRecDepth 20000 in
theorem ggL_law_X5_walked : GoodIn wsL_law wsX5_walked := goodIn_r _ [392, 16, 393, 862, 863, 864, 865, 866, 867, 884, 885, 886, 887, 888, 889, 890, 891, 892, 893, 894] (by decide +kernel) (by decide +kernel)
set_option maxRecDepth 20000 in
theorem gL_law_X5_walked : GoodIn wsL_law (wsV RL 133 RX5 yX5_walked wsX5_walked) := goodIn_app (goodIn_of _ (by decide +kernel)) ggL_law_X5_walked
set_option maxRecDepth 20000 in
theorem ggL_law_X6_walked : GoodIn wsL_law wsX6_walked := goodIn_r _ [397, 60, 55, 868, 869, 870, 871, 872, 873, 874, 875, 876, 877, 878, 879, 880, 881, 882, 883] (by decide +kernel) (by decide +kernel)
set_option maxRecDepth 20000 in
theorem gL_law_X6_walked : GoodIn wsL_law (wsV RL 136 RX6 yX6_walked wsX6_walked) := goodIn_app (goodIn_of _ (by decide +kernel)) ggL_law_X6_walked
set_option maxRecDepth 20000 in
theorem ggL_law_L_night : GoodIn wsL_law wsL_night := goodIn_ca (goodIn_r _ [400, 66, 401, 402, 403, 2, 404, 16, 21, 405, 406, 407, 72, 73, 84, 85, 86, 87, 88, 26, 89, 90, 91, 92, 93, 94, 95, 15, 96, 32, 97, 98, 99, 100, 33, 34, 35, 36, 37, 38, 39, 101, 102, 103, 408, 409, 410, 411, 412, 413, 414, 415, 416, 417, 418, 419, 20, 420, 421, 306, 307, 308, 309, 422, 423, 424, 425, 157, 105, 106, 107, 426, 427, 428, 429, 430, 258, 259, 260, 431, 432, 433, 434, 435, 436, 437, 438, 439, 440, 441, 442, 443, 444, 445, 446, 447, 448, 449, 450, 451, 452, 453, 454, 455, 456, 457, 458, 459, 460, 461, 346, 347, 348, 862, 863, 864, 865, 866, 867, 884, 885, 886, 887, 888, 889, 890, 891, 892, 893, 894, 895, 896, 897, 898] (by decide +kernel) (by decide +kernel)) (goodIn_sub (fun _ h => List.mem_append_left _ (List.mem_append_left _ (List.mem_append_right _ h))) (by decide +kernel))
set_option maxRecDepth 20000 in
theorem gL_law_L_night : GoodIn wsL_law (va_wsS RL 137 yL_night wsL_night) := goodIn_app (goodIn_of _ (by decide +kernel)) ggL_law_L_night
set_option maxRecDepth 20000 in
theorem ggL_law_X6_night : GoodIn wsL_law wsX6_night := goodIn_r _ [465, 60, 115, 116, 5, 117, 118, 119, 120, 121, 130, 131, 132, 133, 134, 57, 55, 466, 467, 468, 469, 470, 471, 472, 473, 474, 475, 476, 477, 478, 479, 480, 481, 326, 327, 328, 329, 126, 127, 128, 129, 135, 136, 137, 138, 122, 123, 124, 125, 482, 483, 484, 485, 265, 266, 267, 268, 486, 487, 488, 489, 490, 491, 492, 493, 494, 495, 496, 497, 174, 175, 176, 177, 868, 869, 870, 871, 872, 873, 874, 875, 876, 877, 878, 879, 880, 881, 882, 883] (by decide +kernel) (by decide +kernel)
set_option maxRecDepth 20000 in
theorem gL_law_X6_night : GoodIn wsL_law (wsV RL 139 RX6 yX6_night wsX6_night) := goodIn_app (goodIn_of _ (by decide +kernel)) ggL_law_X6_night
set_option maxRecDepth 20000 in
theorem ggL_law_X5_cost : GoodIn wsL_law wsX5_cost := goodIn_r _ [501, 16, 502, 503, 504, 15, 505, 101, 33, 37, 430, 258, 259, 260, 38, 39, 862, 863, 864, 865, 866, 867, 884, 885, 886, 887, 888, 889, 890, 891, 892, 893, 894] (by decide +kernel) (by decide +kernel)
set_option maxRecDepth 20000 in
theorem gL_law_X5_cost : GoodIn wsL_law (wsV RL 140 RX5 yX5_cost wsX5_cost) := goodIn_app (goodIn_of _ (by decide +kernel)) ggL_law_X5_cost
set_option maxRecDepth 20000 in
theorem ggL_law_X6_cost : GoodIn wsL_law wsX6_cost := goodIn_r _ [509, 60, 510, 511, 512, 5, 513, 55, 265, 266, 267, 268, 126, 127, 128, 129, 868, 869, 870, 871, 872, 873, 874, 875, 876, 877, 878, 879, 880, 881, 882, 883] (by decide +kernel) (by decide +kernel)
set_option maxRecDepth 20000 in
theorem gL_law_X6_cost : GoodIn wsL_law (wsV RL 143 RX6 yX6_cost wsX6_cost) := goodIn_app (goodIn_of _ (by decide +kernel)) ggL_law_X6_cost
set_option maxRecDepth 20000 in
theorem ggL_law_X5_steps : GoodIn wsL_law wsX5_steps := goodIn_r _ [517, 16, 518, 862, 863, 864, 865, 866, 867, 884, 885, 886, 887, 888, 889, 890, 891, 892, 893, 894] (by decide +kernel) (by decide +kernel)
set_option maxRecDepth 20000 in
theorem gL_law_X5_steps : GoodIn wsL_law (wsV RL 144 RX5 yX5_steps wsX5_steps) := goodIn_app (goodIn_of _ (by decide +kernel)) ggL_law_X5_steps
set_option maxRecDepth 20000 in
theorem ggL_law_X6_steps : GoodIn wsL_law wsX6_steps := goodIn_r _ [522, 60, 55, 868, 869, 870, 871, 872, 873, 874, 875, 876, 877, 878, 879, 880, 881, 882, 883] (by decide +kernel) (by decide +kernel)
set_option maxRecDepth 20000 in
theorem gL_law_X6_steps : GoodIn wsL_law (wsV RL 147 RX6 yX6_steps wsX6_steps) := goodIn_app (goodIn_of _ (by decide +kernel)) ggL_law_X6_steps
set_option maxRecDepth 20000 in
theorem ggL_law_L_reason : GoodIn wsL_law wsL_reason := goodIn_ca (goodIn_r _ [525, 65, 526, 527, 528, 2, 529, 16, 233, 221, 185, 186, 187, 188, 82, 83, 189, 190, 191, 15, 192, 101, 79, 80, 81, 530, 307, 308, 309, 36, 37, 104, 105, 106, 107, 32, 34, 531, 427, 428, 429, 33, 430, 258, 259, 260, 38, 39, 862, 863, 864, 865, 866, 867, 884, 885, 886, 887, 888, 889, 890, 891, 892, 893, 894] (by decide +kernel) (by decide +kernel)) (goodIn_sub (fun _ h => List.mem_append_right _ h) (by decide +kernel))
set_option maxRecDepth 20000 in
theorem gL_law_L_reason : GoodIn wsL_law (va_wsS RL 148 yL_reason wsL_reason) := goodIn_app (goodIn_of _ (by decide +kernel)) ggL_law_L_reason
set_option maxRecDepth 20000 in
theorem ggL_law_X6_reason : GoodIn wsL_law wsX6_reason := goodIn_r _ [535, 60, 201, 202, 203, 5, 204, 55, 115, 116, 117, 112, 113, 114, 118, 119, 120, 121, 326, 327, 328, 329, 126, 127, 128, 129, 135, 136, 137, 138, 122, 123, 124, 125, 482, 483, 484, 485, 265, 266, 267, 268, 868, 869, 870, 871, 872, 873, 874, 875, 876, 877, 878, 879, 880, 881, 882, 883] (by decide +kernel) (by decide +kernel)
set_option maxRecDepth 20000 in
theorem gL_law_X6_reason : GoodIn wsL_law (wsV RL 150 RX6 yX6_reason wsX6_reason) := goodIn_app (goodIn_of _ (by decide +kernel)) ggL_law_X6_reason
set_option maxRecDepth 20000 in
theorem ggL_law_X5_bestGain : GoodIn wsL_law wsX5_bestGain := goodIn_r _ [539, 16, 21, 540, 541, 414, 415, 15, 416, 101, 417, 418, 419, 20, 420, 421, 306, 307, 308, 309, 36, 37, 422, 423, 424, 425, 35, 157, 105, 106, 107, 32, 34, 426, 427, 428, 429, 33, 430, 258, 259, 260, 38, 39, 431, 432, 433, 434, 435, 436, 437, 438, 439, 440, 441, 442, 443, 444, 445, 446, 447, 448, 449, 862, 863, 864, 865, 866, 867, 895, 896, 897, 898, 884, 885, 886, 887, 888, 889, 890, 891, 892, 893, 894] (by decide +kernel) (by decide +kernel)
set_option maxRecDepth 20000 in
theorem gL_law_X5_bestGain : GoodIn wsL_law (wsV RL 151 RX5 yX5_bestGain wsX5_bestGain) := goodIn_app (goodIn_of _ (by decide +kernel)) ggL_law_X5_bestGain
set_option maxRecDepth 20000 in
theorem ggL_law_X6_bestGain : GoodIn wsL_law wsX6_bestGain := goodIn_r _ [545, 60, 470, 474, 475, 476, 5, 477, 55, 478, 479, 480, 481, 326, 327, 328, 329, 126, 127, 128, 129, 135, 136, 137, 138, 122, 123, 124, 125, 482, 483, 484, 485, 265, 266, 267, 268, 486, 487, 488, 489, 472, 473, 471, 490, 491, 492, 493, 868, 869, 870, 871, 872, 873, 874, 875, 876, 877, 878, 879, 880, 881, 882, 883] (by decide +kernel) (by decide +kernel)
set_option maxRecDepth 20000 in
theorem gL_law_X6_bestGain : GoodIn wsL_law (wsV RL 154 RX6 yX6_bestGain wsX6_bestGain) := goodIn_app (goodIn_of _ (by decide +kernel)) ggL_law_X6_bestGain
set_option maxRecDepth 20000 in
theorem ggL_law_L_costAfterNight : GoodIn wsL_law wsL_costAfterNight := goodIn_ca (goodIn_r _ [548, 66, 549, 550, 551, 2, 552, 17, 16, 21, 405, 406, 407, 72, 73, 93, 94, 95, 15, 96, 32, 97, 98, 99, 100, 33, 34, 35, 36, 37, 38, 39, 101, 102, 103, 408, 409, 410, 411, 412, 413, 414, 415, 416, 417, 418, 419, 20, 420, 421, 306, 307, 308, 309, 422, 423, 424, 425, 157, 105, 106, 107, 426, 427, 428, 429, 430, 258, 259, 260, 431, 432, 433, 434, 435, 436, 437, 438, 439, 440, 441, 442, 443, 444, 445, 446, 447, 448, 449, 450, 451, 452, 453, 454, 455, 456, 457, 458, 459, 460, 461, 346, 347, 348, 502, 503, 504, 505, 862, 863, 864, 865, 866, 867, 884, 885, 886, 887, 888, 889, 890, 891, 892, 893, 894, 895, 896, 897, 898] (by decide +kernel) (by decide +kernel)) (goodIn_sub (fun _ h => List.mem_append_left _ (List.mem_append_left _ (List.mem_append_right _ h))) (by decide +kernel))
set_option maxRecDepth 20000 in
theorem gL_law_L_costAfterNight : GoodIn wsL_law (va_wsS RL 155 yL_costAfterNight wsL_costAfterNight) := goodIn_app (goodIn_of _ (by decide +kernel)) ggL_law_L_costAfterNight
set_option maxRecDepth 20000 in
theorem ggL_law_X6_costAfterNight : GoodIn wsL_law wsX6_costAfterNight := goodIn_r _ [556, 60, 56, 55, 115, 116, 5, 117, 118, 119, 120, 121, 466, 467, 468, 469, 470, 471, 472, 473, 474, 475, 476, 477, 478, 479, 480, 481, 326, 327, 328, 329, 126, 127, 128, 129, 135, 136, 137, 138, 122, 123, 124, 125, 482, 483, 484, 485, 265, 266, 267, 268, 486, 487, 488, 489, 490, 491, 492, 493, 494, 495, 496, 497, 174, 175, 176, 177, 510, 511, 512, 513, 868, 869, 870, 871, 872, 873, 874, 875, 876, 877, 878, 879, 880, 881, 882, 883] (by decide +kernel) (by decide +kernel)
set_option maxRecDepth 20000 in
theorem gL_law_X6_costAfterNight : GoodIn wsL_law (wsV RL 157 RX6 yX6_costAfterNight wsX6_costAfterNight) := goodIn_app (goodIn_of _ (by decide +kernel)) ggL_law_X6_costAfterNight
set_option maxRecDepth 20000 in
theorem ggL_law_L_walkTo : GoodIn wsL_law wsL_walkTo := goodIn_ca (goodIn_r _ [559, 65, 560, 561, 562, 2, 563, 16, 185, 186, 187, 188, 82, 83, 189, 190, 191, 15, 192, 101, 564, 303, 304, 305, 37, 33, 36, 306, 307, 308, 309, 310, 311, 312, 313, 862, 863, 864, 865, 866, 867, 884, 885, 886, 887, 888, 889, 890, 891, 892, 893, 894] (by decide +kernel) (by decide +kernel)) (goodIn_sub (fun _ h => List.mem_append_right _ h) (by decide +kernel))
set_option maxRecDepth 20000 in
theorem gL_law_L_walkTo : GoodIn wsL_law (va_wsS RL 158 yL_walkTo wsL_walkTo) := goodIn_app (goodIn_of _ (by decide +kernel)) ggL_law_L_walkTo
set_option maxRecDepth 20000 in
theorem ggL_law_X6_walkTo : GoodIn wsL_law wsX6_walkTo := goodIn_r _ [568, 60, 201, 202, 203, 5, 204, 55, 115, 116, 117, 322, 323, 324, 325, 126, 127, 128, 129, 326, 327, 328, 329, 330, 331, 332, 333, 118, 119, 120, 121, 868, 869, 870, 871, 872, 873, 874, 875, 876, 877, 878, 879, 880, 881, 882, 883] (by decide +kernel) (by decide +kernel)
set_option maxRecDepth 20000 in
theorem gL_law_X6_walkTo : GoodIn wsL_law (wsV RL 160 RX6 yX6_walkTo wsX6_walkTo) := goodIn_app (goodIn_of _ (by decide +kernel)) ggL_law_X6_walkTo
set_option maxRecDepth 20000 in
theorem ggL_law_L_shelfFor : GoodIn wsL_law wsL_shelfFor := goodIn_ca (goodIn_r _ [571, 66, 572, 573, 574, 2, 575, 16, 78, 150, 151, 152, 72, 73, 104, 105, 106, 15, 107, 32, 34, 862, 863, 864, 865, 866, 867, 884, 885, 886, 887, 888, 889, 890, 891, 892, 893, 894] (by decide +kernel) (by decide +kernel)) (goodIn_sub (fun _ h => List.mem_append_left _ (List.mem_append_left _ (List.mem_append_right _ h))) (by decide +kernel))
set_option maxRecDepth 20000 in
theorem gL_law_L_shelfFor : GoodIn wsL_law (va_wsS RL 161 yL_shelfFor wsL_shelfFor) := goodIn_app (goodIn_of _ (by decide +kernel)) ggL_law_L_shelfFor
set_option maxRecDepth 20000 in
theorem ggL_law_X6_shelfFor : GoodIn wsL_law wsX6_shelfFor := goodIn_r _ [579, 60, 115, 116, 5, 117, 118, 119, 120, 121, 135, 136, 137, 138, 55, 122, 123, 124, 125, 126, 127, 128, 129, 330, 331, 332, 333, 868, 869, 870, 871, 872, 873, 874, 875, 876, 877, 878, 879, 880, 881, 882, 883] (by decide +kernel) (by decide +kernel)
set_option maxRecDepth 20000 in
theorem gL_law_X6_shelfFor : GoodIn wsL_law (wsV RL 163 RX6 yX6_shelfFor wsX6_shelfFor) := goodIn_app (goodIn_of _ (by decide +kernel)) ggL_law_X6_shelfFor
set_option maxRecDepth 20000 in
theorem ggL_law_X5_fullness : GoodIn wsL_law wsX5_fullness := goodIn_r _ [583, 16, 76, 77, 862, 863, 864, 865, 866, 867, 884, 885, 886, 887, 888, 889, 890, 891, 892, 893, 894] (by decide +kernel) (by decide +kernel)
set_option maxRecDepth 20000 in
theorem gL_law_X5_fullness : GoodIn wsL_law (wsV RL 164 RX5 yX5_fullness wsX5_fullness) := goodIn_app (goodIn_of _ (by decide +kernel)) ggL_law_X5_fullness
set_option maxRecDepth 20000 in
theorem ggL_law_X6_fullness : GoodIn wsL_law wsX6_fullness := goodIn_r _ [587, 60, 55, 122, 123, 124, 5, 125, 126, 127, 128, 129, 868, 869, 870, 871, 872, 873, 874, 875, 876, 877, 878, 879, 880, 881, 882, 883] (by decide +kernel) (by decide +kernel)
set_option maxRecDepth 20000 in
theorem gL_law_X6_fullness : GoodIn wsL_law (wsV RL 168 RX6 yX6_fullness wsX6_fullness) := goodIn_app (goodIn_of _ (by decide +kernel)) ggL_law_X6_fullness
set_option maxRecDepth 20000 in
theorem ggL_law_L_append : GoodIn wsL_law wsL_append := goodIn_ca (goodIn_ca (goodIn_r _ [590, 66, 67, 591, 592, 593, 2, 594, 72, 73, 74, 75, 25, 595, 596, 597, 598, 24, 599, 46, 600, 862, 863, 864, 865, 866, 867, 899, 900, 901, 902, 903, 904, 905] (by decide +kernel) (by decide +kernel)) (goodIn_sub (fun _ h => List.mem_append_left _ (List.mem_append_left _ (List.mem_append_right _ h))) (by decide +kernel))) (goodIn_sub (fun _ h => List.mem_append_left _ (List.mem_append_right _ h)) (by decide +kernel))
set_option maxRecDepth 20000 in
theorem gL_law_L_append : GoodIn wsL_law (va_wsS RL 169 yL_append wsL_append) := goodIn_app (goodIn_of _ (by decide +kernel)) ggL_law_L_append
set_option maxRecDepth 20000 in
theorem ggL_law_X6_append : GoodIn wsL_law wsX6_append := goodIn_r _ [604, 60, 605, 58, 115, 116, 5, 117, 118, 119, 120, 121, 868, 869, 870, 871, 872, 873, 874, 875, 876, 877, 878, 879, 880, 881, 882, 883] (by decide +kernel) (by decide +kernel)
set_option maxRecDepth 20000 in
theorem gL_law_X6_append : GoodIn wsL_law (wsV RL 171 RX6 yX6_append wsX6_append) := goodIn_app (goodIn_of _ (by decide +kernel)) ggL_law_X6_append
set_option maxRecDepth 20000 in
theorem ggL_law_X5_clearText : GoodIn wsL_law wsX5_clearText := goodIn_r _ [609, 25, 610, 611, 612, 24, 613, 600, 862, 863, 864, 865, 866, 867, 899, 900, 901, 902, 903, 904, 905] (by decide +kernel) (by decide +kernel)
set_option maxRecDepth 20000 in
theorem gL_law_X5_clearText : GoodIn wsL_law (wsV RL 172 RX5 yX5_clearText wsX5_clearText) := goodIn_app (goodIn_of _ (by decide +kernel)) ggL_law_X5_clearText
set_option maxRecDepth 20000 in
theorem ggL_law_X6_clearText : GoodIn wsL_law wsX6_clearText := goodIn_r _ [617, 60, 605, 868, 869, 870, 871, 872, 873, 874, 875, 876, 877, 878, 879, 880, 881, 882, 883] (by decide +kernel) (by decide +kernel)
set_option maxRecDepth 20000 in
theorem gL_law_X6_clearText : GoodIn wsL_law (wsV RL 175 RX6 yX6_clearText wsX6_clearText) := goodIn_app (goodIn_of _ (by decide +kernel)) ggL_law_X6_clearText
set_option maxRecDepth 20000 in
theorem ggL_law_X5_firstError : GoodIn wsL_law wsX5_firstError := goodIn_r _ [621, 25, 622, 623, 624, 625, 24, 626, 627, 628, 600, 629, 630, 631, 632, 633, 48, 634, 635, 636, 637, 638, 639, 640, 641, 642, 46, 643, 644, 645, 646, 647, 648, 649, 650, 651, 652, 653, 654, 655, 656, 657, 658, 659, 660, 661, 662, 663, 664, 665, 666, 667, 668, 669, 670, 671, 672, 673, 674, 675, 676, 677, 678, 679, 680, 681, 682, 683, 684, 685, 686, 687, 688, 689, 690, 691, 692, 693, 694, 695, 696, 697, 698, 699, 700, 701, 702, 703, 704, 705, 706, 707, 708, 709, 710, 711, 712, 713, 714, 715, 716, 717, 718, 49, 719, 720, 721, 722, 723, 724, 725, 726, 50, 862, 863, 864, 865, 866, 867, 899, 900, 901, 902, 903, 904, 905] (by decide +kernel) (by decide +kernel)
set_option maxRecDepth 20000 in
theorem gL_law_X5_firstError : GoodIn wsL_law (wsV RL 176 RX5 yX5_firstError wsX5_firstError) := goodIn_app (goodIn_of _ (by decide +kernel)) ggL_law_X5_firstError
set_option maxRecDepth 20000 in
theorem ggL_law_X6_firstError : GoodIn wsL_law wsX6_firstError := goodIn_r _ [730, 60, 605, 731, 732, 733, 734, 5, 735, 736, 737, 738, 739, 740, 741, 59, 742, 743, 744, 745, 746, 747, 748, 749, 58, 750, 751, 752, 753, 754, 755, 756, 757, 758, 759, 760, 761, 115, 116, 117, 868, 869, 870, 871, 872, 873, 874, 875, 876, 877, 878, 879, 880, 881, 882, 883] (by decide +kernel) (by decide +kernel)
set_option maxRecDepth 20000 in
theorem gL_law_X6_firstError : GoodIn wsL_law (wsV RL 179 RX6 yX6_firstError wsX6_firstError) := goodIn_app (goodIn_of _ (by decide +kernel)) ggL_law_X6_firstError
set_option maxRecDepth 20000 in
theorem ggL_law_L_run : GoodIn wsL_law wsL_run := goodIn_ca (goodIn_r _ [764, 66, 765, 766, 767, 2, 768, 72, 73, 25, 769, 623, 624, 625, 24, 626, 627, 628, 600, 629, 630, 631, 632, 633, 48, 634, 635, 636, 637, 638, 639, 640, 641, 642, 46, 643, 644, 645, 646, 647, 648, 649, 650, 651, 652, 653, 654, 655, 656, 657, 658, 659, 660, 661, 662, 663, 664, 665, 666, 667, 668, 669, 670, 671, 672, 673, 674, 675, 676, 677, 678, 679, 680, 681, 682, 683, 684, 685, 686, 687, 688, 689, 690, 691, 692, 693, 694, 695, 696, 697, 698, 699, 700, 701, 702, 703, 704, 705, 706, 707, 708, 709, 710, 711, 712, 713, 714, 715, 716, 717, 718, 49, 719, 720, 721, 722, 723, 724, 725, 726, 50, 84, 85, 86, 87, 88, 26, 16, 89, 90, 91, 92, 93, 94, 95, 15, 96, 32, 97, 98, 99, 100, 33, 34, 35, 36, 37, 38, 39, 101, 102, 103, 770, 771, 772, 773, 774, 775, 776, 777, 21, 778, 779, 780, 781, 782, 783, 784, 785, 786, 787, 788, 153, 154, 155, 156, 157, 105, 106, 107, 158, 159, 160, 161, 789, 790, 791, 792, 189, 190, 191, 192, 298, 299, 300, 301, 302, 303, 304, 305, 306, 307, 308, 309, 310, 311, 312, 313, 793, 794, 795, 796, 341, 342, 343, 344, 345, 346, 347, 348, 361, 362, 363, 364, 408, 409, 410, 411, 412, 413, 414, 415, 416, 417, 418, 419, 20, 420, 421, 422, 423, 424, 425, 426, 427, 428, 429, 430, 258, 259, 260, 431, 432, 433, 434, 435, 436, 437, 438, 439, 440, 441, 442, 443, 444, 445, 446, 447, 448, 449, 450, 451, 452, 453, 454, 455, 456, 457, 458, 459, 460, 461, 610, 611, 612, 613, 862, 863, 864, 865, 866, 867, 899, 900, 901, 902, 903, 904, 905, 884, 885, 886, 887, 888, 889, 890, 891, 892, 893, 894, 895, 896, 897, 898] (by decide +kernel) (by decide +kernel)) (goodIn_sub (fun _ h => List.mem_append_left _ (List.mem_append_left _ (List.mem_append_right _ h))) (by decide +kernel))
set_option maxRecDepth 20000 in
theorem gL_law_L_run : GoodIn wsL_law (va_wsS RL 180 yL_run wsL_run) := goodIn_app (goodIn_of _ (by decide +kernel)) ggL_law_L_run
set_option maxRecDepth 20000 in
theorem ggL_law_X6_run : GoodIn wsL_law wsX6_run := goodIn_r _ [800, 60, 605, 736, 732, 733, 734, 5, 735, 731, 737, 738, 739, 740, 741, 59, 742, 743, 744, 745, 746, 747, 748, 749, 58, 750, 751, 752, 753, 754, 755, 756, 757, 758, 759, 760, 761, 115, 116, 117, 118, 119, 120, 121, 130, 131, 132, 133, 134, 57, 55, 801, 802, 803, 804, 805, 806, 807, 808, 166, 167, 168, 169, 112, 113, 114, 135, 136, 137, 138, 122, 123, 124, 125, 126, 127, 128, 129, 170, 171, 172, 173, 174, 175, 176, 177, 809, 810, 811, 812, 201, 202, 203, 204, 318, 319, 320, 321, 322, 323, 324, 325, 326, 327, 328, 329, 330, 331, 332, 333, 813, 814, 815, 816, 353, 354, 355, 356, 369, 370, 371, 372, 466, 467, 468, 469, 470, 471, 472, 473, 474, 475, 476, 477, 478, 479, 480, 481, 482, 483, 484, 485, 265, 266, 267, 268, 486, 487, 488, 489, 490, 491, 492, 493, 494, 495, 496, 497, 868, 869, 870, 871, 872, 873, 874, 875, 876, 877, 878, 879, 880, 881, 882, 883] (by decide +kernel) (by decide +kernel)
set_option maxRecDepth 20000 in
theorem gL_law_X6_run : GoodIn wsL_law (wsV RL 183 RX6 yX6_run wsX6_run) := goodIn_app (goodIn_of _ (by decide +kernel)) ggL_law_X6_run
set_option maxRecDepth 20000 in
theorem ggL_law_L_undo : GoodIn wsL_law wsL_undo := goodIn_ca (goodIn_r _ [819, 67, 820, 821, 822, 2, 823, 74, 75, 88, 16, 26, 93, 94, 95, 15, 96, 32, 97, 98, 99, 100, 33, 34, 35, 36, 37, 38, 39, 101, 102, 103, 862, 863, 864, 865, 866, 867, 884, 885, 886, 887, 888, 889, 890, 891, 892, 893, 894] (by decide +kernel) (by decide +kernel)) (goodIn_sub (fun _ h => List.mem_append_left _ (List.mem_append_right _ h)) (by decide +kernel))
set_option maxRecDepth 20000 in
theorem gL_law_L_undo : GoodIn wsL_law (va_wsS RL 184 yL_undo wsL_undo) := goodIn_app (goodIn_of _ (by decide +kernel)) ggL_law_L_undo
set_option maxRecDepth 20000 in
theorem ggL_law_X6_undo : GoodIn wsL_law wsX6_undo := goodIn_r _ [827, 60, 134, 55, 57, 118, 119, 120, 5, 121, 868, 869, 870, 871, 872, 873, 874, 875, 876, 877, 878, 879, 880, 881, 882, 883] (by decide +kernel) (by decide +kernel)
set_option maxRecDepth 20000 in
theorem gL_law_X6_undo : GoodIn wsL_law (wsV RL 186 RX6 yX6_undo wsX6_undo) := goodIn_app (goodIn_of _ (by decide +kernel)) ggL_law_X6_undo
set_option maxRecDepth 20000 in
theorem ggL_law_X5_savedStates : GoodIn wsL_law wsX5_savedStates := goodIn_r _ [831, 88, 862, 863, 864, 865, 866, 867] (by decide +kernel) (by decide +kernel)
set_option maxRecDepth 20000 in
theorem gL_law_X5_savedStates : GoodIn wsL_law (wsV RL 187 RX5 yX5_savedStates wsX5_savedStates) := goodIn_app (goodIn_of _ (by decide +kernel)) ggL_law_X5_savedStates
set_option maxRecDepth 20000 in
theorem ggL_law_X6_savedStates : GoodIn wsL_law wsX6_savedStates := goodIn_r _ [835, 60, 134, 868, 869, 870, 871, 872, 873, 874, 875, 876, 877, 878, 879, 880, 881, 882, 883] (by decide +kernel) (by decide +kernel)
set_option maxRecDepth 20000 in
theorem gL_law_X6_savedStates : GoodIn wsL_law (wsV RL 190 RX6 yX6_savedStates wsX6_savedStates) := goodIn_app (goodIn_of _ (by decide +kernel)) ggL_law_X6_savedStates
set_option maxRecDepth 20000 in
theorem ggL_law_X5_digest : GoodIn wsL_law wsX5_digest := goodIn_r _ [839, 840, 16, 78, 209, 221, 233, 245, 841, 206, 207, 2, 208, 842, 843, 844, 845, 846, 374, 375, 376, 377, 378, 379, 15, 380, 101, 306, 307, 308, 309, 36, 37, 847, 390, 391, 392, 393, 848, 499, 500, 501, 502, 503, 504, 505, 33, 430, 258, 259, 260, 38, 39, 849, 515, 516, 517, 518, 850, 537, 538, 539, 21, 540, 541, 414, 415, 416, 417, 418, 419, 20, 420, 421, 422, 423, 424, 425, 35, 157, 105, 106, 107, 32, 34, 426, 427, 428, 429, 431, 432, 433, 434, 435, 436, 437, 438, 439, 440, 441, 442, 443, 444, 445, 446, 447, 448, 449, 104, 257, 564, 303, 304, 305, 310, 311, 312, 313, 862, 863, 864, 865, 866, 867, 884, 885, 886, 887, 888, 889, 890, 891, 892, 893, 894, 895, 896, 897, 898] (by decide +kernel) (by decide +kernel)
set_option maxRecDepth 20000 in
theorem gL_law_X5_digest : GoodIn wsL_law (wsV RL 191 RX5 yX5_digest wsX5_digest) := goodIn_app (goodIn_of _ (by decide +kernel)) ggL_law_X5_digest
set_option maxRecDepth 20000 in
theorem ggL_law_X6_digest : GoodIn wsL_law wsX6_digest := goodIn_r _ [854, 60, 855, 856, 55, 470, 474, 475, 476, 5, 477, 478, 479, 480, 481, 326, 327, 328, 329, 126, 127, 128, 129, 135, 136, 137, 138, 122, 123, 124, 125, 482, 483, 484, 485, 265, 266, 267, 268, 486, 487, 488, 489, 472, 473, 471, 490, 491, 492, 493, 857, 858, 859, 860, 861, 385, 386, 387, 388, 510, 511, 512, 513, 322, 323, 324, 325, 330, 331, 332, 333, 868, 869, 870, 871, 872, 873, 874, 875, 876, 877, 878, 879, 880, 881, 882, 883] (by decide +kernel) (by decide +kernel)
set_option maxRecDepth 20000 in
theorem gL_law_X6_digest : GoodIn wsL_law (wsV RL 195 RX6 yX6_digest wsX6_digest) := goodIn_app (goodIn_of _ (by decide +kernel)) ggL_law_X6_digest
