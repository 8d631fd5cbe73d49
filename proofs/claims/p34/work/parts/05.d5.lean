set_option maxRecDepth 20000 in
theorem ggX5_init_X3_init : GoodIn wsX5_init wsX3_init := goodIn_r _ [20, 21, 2, 3, 22, 23, 24, 25, 26, 27, 28, 29, 30, 42, 43, 44, 45, 46, 47, 48, 49, 50, 51, 52] (by decide +kernel) (by decide +kernel)
set_option maxRecDepth 20000 in
theorem gX5_init_X3_init : GoodIn wsX5_init (wsX3_init) := ggX5_init_X3_init
set_option maxRecDepth 20000 in
theorem ggX5_init_X2_init : GoodIn wsX5_init wsX2_init := goodIn_r _ [32, 33, 2, 3] (by decide +kernel) (by decide +kernel)
set_option maxRecDepth 20000 in
theorem gX5_init_X2_init_n21 : GoodIn wsX5_init (wsX2_init) := ggX5_init_X2_init
set_option maxRecDepth 20000 in
theorem ggX5_init_X1_init : GoodIn wsX5_init wsX1_init := goodIn_r _ [35, 36, 2, 3, 22, 37, 38, 39, 40, 41, 63, 64, 65, 66, 67, 68, 69] (by decide +kernel) (by decide +kernel)
set_option maxRecDepth 20000 in
theorem gX5_init_X1_init_n28 : GoodIn wsX5_init (wsX1_init) := ggX5_init_X1_init
theorem dX5_init_0 : decode cX5_init 0 = .ok (.aload_n 0, 1) := by decide +kernel
theorem dX5_init_1 : decode cX5_init 1 = .ok (.invokespecial 1, 3) := by decide +kernel
theorem dX5_init_4 : decode cX5_init 4 = .ok (.aload_n 0, 1) := by decide +kernel
theorem dX5_init_5 : decode cX5_init 5 = .ok (.new 7, 3) := by decide +kernel
theorem dX5_init_8 : decode cX5_init 8 = .ok (.dup, 1) := by decide +kernel
theorem dX5_init_9 : decode cX5_init 9 = .ok (.invokespecial 9, 3) := by decide +kernel
theorem dX5_init_12 : decode cX5_init 12 = .ok (.putfield 10, 3) := by decide +kernel
theorem dX5_init_15 : decode cX5_init 15 = .ok (.aload_n 0, 1) := by decide +kernel
theorem dX5_init_16 : decode cX5_init 16 = .ok (.new 7, 3) := by decide +kernel
theorem dX5_init_19 : decode cX5_init 19 = .ok (.dup, 1) := by decide +kernel
theorem dX5_init_20 : decode cX5_init 20 = .ok (.invokespecial 9, 3) := by decide +kernel
theorem dX5_init_23 : decode cX5_init 23 = .ok (.putfield 16, 3) := by decide +kernel
theorem dX5_init_26 : decode cX5_init 26 = .ok (.aload_n 0, 1) := by decide +kernel
theorem dX5_init_27 : decode cX5_init 27 = .ok (.new 19, 3) := by decide +kernel
theorem dX5_init_30 : decode cX5_init 30 = .ok (.dup, 1) := by decide +kernel
theorem dX5_init_31 : decode cX5_init 31 = .ok (.invokespecial 21, 3) := by decide +kernel
theorem dX5_init_34 : decode cX5_init 34 = .ok (.putfield 22, 3) := by decide +kernel
theorem dX5_init_37 : decode cX5_init 37 = .ok (.aload_n 0, 1) := by decide +kernel
theorem dX5_init_38 : decode cX5_init 38 = .ok (.new 26, 3) := by decide +kernel
theorem dX5_init_41 : decode cX5_init 41 = .ok (.dup, 1) := by decide +kernel
theorem dX5_init_42 : decode cX5_init 42 = .ok (.invokespecial 28, 3) := by decide +kernel
theorem dX5_init_45 : decode cX5_init 45 = .ok (.putfield 29, 3) := by decide +kernel
theorem dX5_init_48 : decode cX5_init 48 = .ok (.aload_n 0, 1) := by decide +kernel
theorem dX5_init_49 : decode cX5_init 49 = .ok (.bipush 6, 2) := by decide +kernel
theorem dX5_init_51 : decode cX5_init 51 = .ok (.anewarray 7, 3) := by decide +kernel
theorem dX5_init_54 : decode cX5_init 54 = .ok (.putfield 33, 3) := by decide +kernel
theorem dX5_init_57 : decode cX5_init 57 = .ok (.iconst 0, 1) := by decide +kernel
theorem dX5_init_58 : decode cX5_init 58 = .ok (.istore_n 1, 1) := by decide +kernel
theorem dX5_init_59 : decode cX5_init 59 = .ok (.iload_n 1, 1) := by decide +kernel
theorem dX5_init_60 : decode cX5_init 60 = .ok (.bipush 6, 2) := by decide +kernel
theorem dX5_init_62 : decode cX5_init 62 = .ok (.if_icmp .ge 22, 3) := by decide +kernel
theorem dX5_init_65 : decode cX5_init 65 = .ok (.aload_n 0, 1) := by decide +kernel
theorem dX5_init_66 : decode cX5_init 66 = .ok (.getfield 33, 3) := by decide +kernel
theorem dX5_init_69 : decode cX5_init 69 = .ok (.iload_n 1, 1) := by decide +kernel
theorem dX5_init_70 : decode cX5_init 70 = .ok (.new 7, 3) := by decide +kernel
theorem dX5_init_73 : decode cX5_init 73 = .ok (.dup, 1) := by decide +kernel
theorem dX5_init_74 : decode cX5_init 74 = .ok (.invokespecial 9, 3) := by decide +kernel
theorem dX5_init_77 : decode cX5_init 77 = .ok (.aastore, 1) := by decide +kernel
theorem dX5_init_78 : decode cX5_init 78 = .ok (.iinc 1 1, 3) := by decide +kernel
theorem dX5_init_81 : decode cX5_init 81 = .ok (.goto (-22), 3) := by decide +kernel
theorem dX5_init_84 : decode cX5_init 84 = .ok (.return_, 1) := by decide +kernel
set_option maxRecDepth 20000 in
theorem ggX5_setShelf_X5_requireShelf : GoodIn wsX5_setShelf wsX5_requireShelf := goodIn_ca (goodIn_r _ [12, 13, 14] (by decide +kernel) (by decide +kernel)) (goodIn_sub (fun _ h => List.mem_cons_of_mem _ (List.mem_append_right _ h)) (by decide +kernel))
set_option maxRecDepth 20000 in
theorem gX5_setShelf_X5_requireShelf : GoodIn wsX5_setShelf (va_wsS RX5 37 yX5_requireShelf wsX5_requireShelf) := goodIn_app (goodIn_of _ (by decide +kernel)) ggX5_setShelf_X5_requireShelf
set_option maxRecDepth 20000 in
theorem ggX5_setShelf_X5_saveState : GoodIn wsX5_setShelf wsX5_saveState := goodIn_r _ [18, 19, 20, 5, 21, 22, 23, 11, 24, 25, 26, 27, 28, 29, 30, 31, 32, 33, 34, 35, 36, 37, 38, 39, 40, 41, 42, 43, 44, 49, 50, 51, 52, 53, 54, 55, 56, 57, 58, 59, 60, 61, 62, 63, 64, 65] (by decide +kernel) (by decide +kernel)
set_option maxRecDepth 20000 in
theorem gX5_setShelf_X5_saveState : GoodIn wsX5_setShelf (wsV RX5 59 RX5 yX5_saveState wsX5_saveState) := goodIn_app (goodIn_of _ (by decide +kernel)) ggX5_setShelf_X5_saveState
set_option maxRecDepth 20000 in
theorem ggX5_setShelf_X3_freeRoom : GoodIn wsX5_setShelf wsX3_freeRoom := goodIn_r _ [48, 30, 36, 55, 56, 57, 58, 59, 60, 61, 62, 63, 64, 65] (by decide +kernel) (by decide +kernel)
set_option maxRecDepth 20000 in
theorem gX5_setShelf_X3_freeRoom : GoodIn wsX5_setShelf (wsV RX5 68 RX3 yX3_freeRoom wsX3_freeRoom) := goodIn_app (goodIn_of _ (by decide +kernel)) ggX5_setShelf_X3_freeRoom
theorem dX5_setShelf_0 : decode cX5_setShelf 0 = .ok (.iload_n 1, 1) := by decide +kernel
theorem dX5_setShelf_1 : decode cX5_setShelf 1 = .ok (.invokestatic 37, 3) := by decide +kernel
theorem dX5_setShelf_4 : decode cX5_setShelf 4 = .ok (.iload_n 2, 1) := by decide +kernel
theorem dX5_setShelf_5 : decode cX5_setShelf 5 = .ok (.bipush 10, 2) := by decide +kernel
theorem dX5_setShelf_7 : decode cX5_setShelf 7 = .ok (.if_icmp .lt 9, 3) := by decide +kernel
theorem dX5_setShelf_10 : decode cX5_setShelf 10 = .ok (.iload_n 2, 1) := by decide +kernel
theorem dX5_setShelf_11 : decode cX5_setShelf 11 = .ok (.bipush 99, 2) := by decide +kernel
theorem dX5_setShelf_13 : decode cX5_setShelf 13 = .ok (.if_icmp .le 13, 3) := by decide +kernel
theorem dX5_setShelf_16 : decode cX5_setShelf 16 = .ok (.new 41, 3) := by decide +kernel
theorem dX5_setShelf_19 : decode cX5_setShelf 19 = .ok (.dup, 1) := by decide +kernel
theorem dX5_setShelf_20 : decode cX5_setShelf 20 = .ok (.ldc 43, 2) := by decide +kernel
theorem dX5_setShelf_22 : decode cX5_setShelf 22 = .ok (.invokespecial 45, 3) := by decide +kernel
theorem dX5_setShelf_25 : decode cX5_setShelf 25 = .ok (.athrow, 1) := by decide +kernel
theorem dX5_setShelf_26 : decode cX5_setShelf 26 = .ok (.iload_n 3, 1) := by decide +kernel
theorem dX5_setShelf_27 : decode cX5_setShelf 27 = .ok (.iconst 1, 1) := by decide +kernel
theorem dX5_setShelf_28 : decode cX5_setShelf 28 = .ok (.if_icmp .lt 9, 3) := by decide +kernel
theorem dX5_setShelf_31 : decode cX5_setShelf 31 = .ok (.iload_n 3, 1) := by decide +kernel
theorem dX5_setShelf_32 : decode cX5_setShelf 32 = .ok (.bipush 99, 2) := by decide +kernel
theorem dX5_setShelf_34 : decode cX5_setShelf 34 = .ok (.if_icmp .le 13, 3) := by decide +kernel
theorem dX5_setShelf_37 : decode cX5_setShelf 37 = .ok (.new 41, 3) := by decide +kernel
theorem dX5_setShelf_40 : decode cX5_setShelf 40 = .ok (.dup, 1) := by decide +kernel
theorem dX5_setShelf_41 : decode cX5_setShelf 41 = .ok (.ldc 48, 2) := by decide +kernel
theorem dX5_setShelf_43 : decode cX5_setShelf 43 = .ok (.invokespecial 45, 3) := by decide +kernel
theorem dX5_setShelf_46 : decode cX5_setShelf 46 = .ok (.athrow, 1) := by decide +kernel
theorem dX5_setShelf_47 : decode cX5_setShelf 47 = .ok (.aload_n 0, 1) := by decide +kernel
theorem dX5_setShelf_48 : decode cX5_setShelf 48 = .ok (.getfield 10, 3) := by decide +kernel
theorem dX5_setShelf_51 : decode cX5_setShelf 51 = .ok (.getfield 50, 3) := by decide +kernel
theorem dX5_setShelf_54 : decode cX5_setShelf 54 = .ok (.iload_n 1, 1) := by decide +kernel
theorem dX5_setShelf_55 : decode cX5_setShelf 55 = .ok (.iaload, 1) := by decide +kernel
theorem dX5_setShelf_56 : decode cX5_setShelf 56 = .ok (.iload_n 2, 1) := by decide +kernel
theorem dX5_setShelf_57 : decode cX5_setShelf 57 = .ok (.if_icmp .le 13, 3) := by decide +kernel
theorem dX5_setShelf_60 : decode cX5_setShelf 60 = .ok (.new 54, 3) := by decide +kernel
theorem dX5_setShelf_63 : decode cX5_setShelf 63 = .ok (.dup, 1) := by decide +kernel
theorem dX5_setShelf_64 : decode cX5_setShelf 64 = .ok (.ldc 56, 2) := by decide +kernel
theorem dX5_setShelf_66 : decode cX5_setShelf 66 = .ok (.invokespecial 58, 3) := by decide +kernel
theorem dX5_setShelf_69 : decode cX5_setShelf 69 = .ok (.athrow, 1) := by decide +kernel
theorem dX5_setShelf_70 : decode cX5_setShelf 70 = .ok (.aload_n 0, 1) := by decide +kernel
theorem dX5_setShelf_71 : decode cX5_setShelf 71 = .ok (.invokevirtual 59, 3) := by decide +kernel
theorem dX5_setShelf_74 : decode cX5_setShelf 74 = .ok (.aload_n 0, 1) := by decide +kernel
theorem dX5_setShelf_75 : decode cX5_setShelf 75 = .ok (.getfield 10, 3) := by decide +kernel
theorem dX5_setShelf_78 : decode cX5_setShelf 78 = .ok (.getfield 62, 3) := by decide +kernel
theorem dX5_setShelf_81 : decode cX5_setShelf 81 = .ok (.iload_n 1, 1) := by decide +kernel
theorem dX5_setShelf_82 : decode cX5_setShelf 82 = .ok (.iload_n 2, 1) := by decide +kernel
theorem dX5_setShelf_83 : decode cX5_setShelf 83 = .ok (.iastore, 1) := by decide +kernel
theorem dX5_setShelf_84 : decode cX5_setShelf 84 = .ok (.aload_n 0, 1) := by decide +kernel
theorem dX5_setShelf_85 : decode cX5_setShelf 85 = .ok (.getfield 10, 3) := by decide +kernel
theorem dX5_setShelf_88 : decode cX5_setShelf 88 = .ok (.getfield 65, 3) := by decide +kernel
theorem dX5_setShelf_91 : decode cX5_setShelf 91 = .ok (.iload_n 1, 1) := by decide +kernel
theorem dX5_setShelf_92 : decode cX5_setShelf 92 = .ok (.iload_n 3, 1) := by decide +kernel
theorem dX5_setShelf_93 : decode cX5_setShelf 93 = .ok (.iastore, 1) := by decide +kernel
theorem dX5_setShelf_94 : decode cX5_setShelf 94 = .ok (.aload_n 0, 1) := by decide +kernel
theorem dX5_setShelf_95 : decode cX5_setShelf 95 = .ok (.getfield 10, 3) := by decide +kernel
theorem dX5_setShelf_98 : decode cX5_setShelf 98 = .ok (.iload_n 1, 1) := by decide +kernel
theorem dX5_setShelf_99 : decode cX5_setShelf 99 = .ok (.invokevirtual 68, 3) := by decide +kernel
theorem dX5_setShelf_102 : decode cX5_setShelf 102 = .ok (.ireturn, 1) := by decide +kernel
set_option maxRecDepth 20000 in
theorem ggX5_addRecord_X5_requireShelf : GoodIn wsX5_addRecord wsX5_requireShelf := goodIn_ca (goodIn_r _ [7, 8, 9] (by decide +kernel) (by decide +kernel)) (goodIn_sub (fun _ h => List.mem_cons_of_mem _ (List.mem_append_left _ (List.mem_append_right _ h))) (by decide +kernel))
set_option maxRecDepth 20000 in
theorem gX5_addRecord_X5_requireShelf : GoodIn wsX5_addRecord (va_wsS RX5 37 yX5_requireShelf wsX5_requireShelf) := goodIn_app (goodIn_of _ (by decide +kernel)) ggX5_addRecord_X5_requireShelf
set_option maxRecDepth 20000 in
theorem ggX5_addRecord_X5_requireWidth : GoodIn wsX5_addRecord wsX5_requireWidth := goodIn_ca (goodIn_r _ [12, 13, 14] (by decide +kernel) (by decide +kernel)) (goodIn_sub (fun _ h => List.mem_cons_of_mem _ (List.mem_append_right _ h)) (by decide +kernel))
set_option maxRecDepth 20000 in
theorem gX5_addRecord_X5_requireWidth : GoodIn wsX5_addRecord (va_wsS RX5 72 yX5_requireWidth wsX5_requireWidth) := goodIn_app (goodIn_of _ (by decide +kernel)) ggX5_addRecord_X5_requireWidth
set_option maxRecDepth 20000 in
theorem ggX5_addRecord_X3_canTakeIn : GoodIn wsX5_addRecord wsX3_canTakeIn := goodIn_r _ [19, 20, 21, 22, 23, 18, 24, 25, 26, 63, 64, 65, 66, 67, 68, 69, 70, 71, 72, 73] (by decide +kernel) (by decide +kernel)
set_option maxRecDepth 20000 in
theorem gX5_addRecord_X3_canTakeIn : GoodIn wsX5_addRecord (wsV RX5 75 RX3 yX3_canTakeIn wsX3_canTakeIn) := goodIn_app (goodIn_of _ (by decide +kernel)) ggX5_addRecord_X3_canTakeIn
set_option maxRecDepth 20000 in
theorem ggX5_addRecord_X5_saveState : GoodIn wsX5_addRecord wsX5_saveState := goodIn_r _ [30, 31, 32, 3, 33, 34, 35, 6, 36, 37, 38, 39, 18, 40, 25, 41, 42, 43, 44, 45, 26, 46, 47, 48, 49, 50, 20, 51, 52, 57, 58, 59, 60, 61, 62, 63, 64, 65, 66, 67, 68, 69, 70, 71, 72, 73] (by decide +kernel) (by decide +kernel)
set_option maxRecDepth 20000 in
theorem gX5_addRecord_X5_saveState : GoodIn wsX5_addRecord (wsV RX5 59 RX5 yX5_saveState wsX5_saveState) := goodIn_app (goodIn_of _ (by decide +kernel)) ggX5_addRecord_X5_saveState
set_option maxRecDepth 20000 in
theorem ggX5_addRecord_X3_takeIn : GoodIn wsX5_addRecord wsX3_takeIn := goodIn_r _ [56, 20, 46, 47, 48, 49, 50, 26, 63, 64, 65, 66, 67, 68, 69, 70, 71, 72, 73] (by decide +kernel) (by decide +kernel)
set_option maxRecDepth 20000 in
theorem gX5_addRecord_X3_takeIn : GoodIn wsX5_addRecord (wsV RX5 81 RX3 yX3_takeIn wsX3_takeIn) := goodIn_app (goodIn_of _ (by decide +kernel)) ggX5_addRecord_X3_takeIn
theorem dX5_addRecord_0 : decode cX5_addRecord 0 = .ok (.iload_n 2, 1) := by decide +kernel
theorem dX5_addRecord_1 : decode cX5_addRecord 1 = .ok (.invokestatic 37, 3) := by decide +kernel
theorem dX5_addRecord_4 : decode cX5_addRecord 4 = .ok (.iload_n 1, 1) := by decide +kernel
theorem dX5_addRecord_5 : decode cX5_addRecord 5 = .ok (.invokestatic 72, 3) := by decide +kernel
theorem dX5_addRecord_8 : decode cX5_addRecord 8 = .ok (.aload_n 0, 1) := by decide +kernel
theorem dX5_addRecord_9 : decode cX5_addRecord 9 = .ok (.getfield 10, 3) := by decide +kernel
theorem dX5_addRecord_12 : decode cX5_addRecord 12 = .ok (.iload_n 1, 1) := by decide +kernel
theorem dX5_addRecord_13 : decode cX5_addRecord 13 = .ok (.iload_n 2, 1) := by decide +kernel
theorem dX5_addRecord_14 : decode cX5_addRecord 14 = .ok (.invokevirtual 75, 3) := by decide +kernel
theorem dX5_addRecord_17 : decode cX5_addRecord 17 = .ok (.ifCond .ne 13, 3) := by decide +kernel
theorem dX5_addRecord_20 : decode cX5_addRecord 20 = .ok (.new 54, 3) := by decide +kernel
theorem dX5_addRecord_23 : decode cX5_addRecord 23 = .ok (.dup, 1) := by decide +kernel
theorem dX5_addRecord_24 : decode cX5_addRecord 24 = .ok (.ldc 79, 2) := by decide +kernel
theorem dX5_addRecord_26 : decode cX5_addRecord 26 = .ok (.invokespecial 58, 3) := by decide +kernel
theorem dX5_addRecord_29 : decode cX5_addRecord 29 = .ok (.athrow, 1) := by decide +kernel
theorem dX5_addRecord_30 : decode cX5_addRecord 30 = .ok (.aload_n 0, 1) := by decide +kernel
theorem dX5_addRecord_31 : decode cX5_addRecord 31 = .ok (.invokevirtual 59, 3) := by decide +kernel
theorem dX5_addRecord_34 : decode cX5_addRecord 34 = .ok (.aload_n 0, 1) := by decide +kernel
theorem dX5_addRecord_35 : decode cX5_addRecord 35 = .ok (.getfield 10, 3) := by decide +kernel
theorem dX5_addRecord_38 : decode cX5_addRecord 38 = .ok (.iload_n 1, 1) := by decide +kernel
theorem dX5_addRecord_39 : decode cX5_addRecord 39 = .ok (.iload_n 2, 1) := by decide +kernel
theorem dX5_addRecord_40 : decode cX5_addRecord 40 = .ok (.invokevirtual 81, 3) := by decide +kernel
theorem dX5_addRecord_43 : decode cX5_addRecord 43 = .ok (.ireturn, 1) := by decide +kernel
set_option maxRecDepth 20000 in
theorem ggX5_removeRecord_X5_requireRecord : GoodIn wsX5_removeRecord wsX5_requireRecord := goodIn_ca (goodIn_r _ [6, 7, 8, 1, 9, 10, 11, 12, 13, 14, 47, 48, 49, 50, 51, 52, 53, 54, 55, 56, 57, 58, 59, 60, 61, 62, 63] (by decide +kernel) (by decide +kernel)) (goodIn_sub (fun _ h => List.mem_cons_of_mem _ (List.mem_append_right _ h)) (by decide +kernel))
set_option maxRecDepth 20000 in
theorem gX5_removeRecord_X5_requireRecord : GoodIn wsX5_removeRecord (wsV RX5 85 RX5 yX5_requireRecord wsX5_requireRecord) := goodIn_app (goodIn_of _ (by decide +kernel)) ggX5_removeRecord_X5_requireRecord
set_option maxRecDepth 20000 in
theorem ggX5_removeRecord_X5_saveState : GoodIn wsX5_removeRecord wsX5_saveState := goodIn_r _ [18, 19, 20, 1, 21, 22, 23, 5, 24, 25, 26, 27, 12, 28, 29, 30, 31, 32, 33, 34, 35, 36, 37, 38, 39, 40, 14, 41, 42, 47, 48, 49, 50, 51, 52, 53, 54, 55, 56, 57, 58, 59, 60, 61, 62, 63] (by decide +kernel) (by decide +kernel)
set_option maxRecDepth 20000 in
theorem gX5_removeRecord_X5_saveState : GoodIn wsX5_removeRecord (wsV RX5 59 RX5 yX5_saveState wsX5_saveState) := goodIn_app (goodIn_of _ (by decide +kernel)) ggX5_removeRecord_X5_saveState
set_option maxRecDepth 20000 in
theorem ggX5_removeRecord_X3_takeOut : GoodIn wsX5_removeRecord wsX3_takeOut := goodIn_r _ [46, 37, 35, 36, 14, 38, 39, 40, 53, 54, 55, 56, 57, 58, 59, 60, 61, 62, 63] (by decide +kernel) (by decide +kernel)
set_option maxRecDepth 20000 in
theorem gX5_removeRecord_X3_takeOut : GoodIn wsX5_removeRecord (wsV RX5 88 RX3 yX3_takeOut wsX3_takeOut) := goodIn_app (goodIn_of _ (by decide +kernel)) ggX5_removeRecord_X3_takeOut
theorem dX5_removeRecord_0 : decode cX5_removeRecord 0 = .ok (.aload_n 0, 1) := by decide +kernel
theorem dX5_removeRecord_1 : decode cX5_removeRecord 1 = .ok (.iload_n 1, 1) := by decide +kernel
theorem dX5_removeRecord_2 : decode cX5_removeRecord 2 = .ok (.invokevirtual 85, 3) := by decide +kernel
theorem dX5_removeRecord_5 : decode cX5_removeRecord 5 = .ok (.aload_n 0, 1) := by decide +kernel
theorem dX5_removeRecord_6 : decode cX5_removeRecord 6 = .ok (.invokevirtual 59, 3) := by decide +kernel
theorem dX5_removeRecord_9 : decode cX5_removeRecord 9 = .ok (.aload_n 0, 1) := by decide +kernel
theorem dX5_removeRecord_10 : decode cX5_removeRecord 10 = .ok (.getfield 10, 3) := by decide +kernel
theorem dX5_removeRecord_13 : decode cX5_removeRecord 13 = .ok (.iload_n 1, 1) := by decide +kernel
theorem dX5_removeRecord_14 : decode cX5_removeRecord 14 = .ok (.invokevirtual 88, 3) := by decide +kernel
theorem dX5_removeRecord_17 : decode cX5_removeRecord 17 = .ok (.ireturn, 1) := by decide +kernel
theorem dX5_records_0 : decode cX5_records 0 = .ok (.aload_n 0, 1) := by decide +kernel
theorem dX5_records_1 : decode cX5_records 1 = .ok (.getfield 10, 3) := by decide +kernel
theorem dX5_records_4 : decode cX5_records 4 = .ok (.getfield 91, 3) := by decide +kernel
theorem dX5_records_7 : decode cX5_records 7 = .ok (.ireturn, 1) := by decide +kernel
set_option maxRecDepth 20000 in
theorem ggX5_width_X5_requireRecord : GoodIn wsX5_width wsX5_requireRecord := goodIn_ca (goodIn_r _ [7, 8, 9, 1, 10, 11, 12, 13, 14, 15, 16, 17, 18, 19, 20, 21, 22, 23, 24, 25, 26, 27, 28, 29, 30, 31, 32] (by decide +kernel) (by decide +kernel)) (goodIn_sub (fun _ h => List.mem_cons_of_mem _ (List.mem_append_right _ h)) (by decide +kernel))
set_option maxRecDepth 20000 in
theorem gX5_width_X5_requireRecord : GoodIn wsX5_width (wsV RX5 85 RX5 yX5_requireRecord wsX5_requireRecord) := goodIn_app (goodIn_of _ (by decide +kernel)) ggX5_width_X5_requireRecord
theorem dX5_width_0 : decode cX5_width 0 = .ok (.aload_n 0, 1) := by decide +kernel
theorem dX5_width_1 : decode cX5_width 1 = .ok (.iload_n 1, 1) := by decide +kernel
theorem dX5_width_2 : decode cX5_width 2 = .ok (.invokevirtual 85, 3) := by decide +kernel
theorem dX5_width_5 : decode cX5_width 5 = .ok (.aload_n 0, 1) := by decide +kernel
theorem dX5_width_6 : decode cX5_width 6 = .ok (.getfield 10, 3) := by decide +kernel
theorem dX5_width_9 : decode cX5_width 9 = .ok (.getfield 95, 3) := by decide +kernel
theorem dX5_width_12 : decode cX5_width 12 = .ok (.iload_n 1, 1) := by decide +kernel
theorem dX5_width_13 : decode cX5_width 13 = .ok (.iaload, 1) := by decide +kernel
theorem dX5_width_14 : decode cX5_width 14 = .ok (.ireturn, 1) := by decide +kernel
set_option maxRecDepth 20000 in
theorem ggX5_shelfOf_X5_requireRecord : GoodIn wsX5_shelfOf wsX5_requireRecord := goodIn_ca (goodIn_r _ [7, 8, 9, 1, 10, 11, 12, 13, 14, 15, 16, 17, 18, 19, 20, 21, 22, 23, 24, 25, 26, 27, 28, 29, 30, 31, 32] (by decide +kernel) (by decide +kernel)) (goodIn_sub (fun _ h => List.mem_cons_of_mem _ (List.mem_append_right _ h)) (by decide +kernel))
set_option maxRecDepth 20000 in
theorem gX5_shelfOf_X5_requireRecord : GoodIn wsX5_shelfOf (wsV RX5 85 RX5 yX5_requireRecord wsX5_requireRecord) := goodIn_app (goodIn_of _ (by decide +kernel)) ggX5_shelfOf_X5_requireRecord
theorem dX5_shelfOf_0 : decode cX5_shelfOf 0 = .ok (.aload_n 0, 1) := by decide +kernel
theorem dX5_shelfOf_1 : decode cX5_shelfOf 1 = .ok (.iload_n 1, 1) := by decide +kernel
theorem dX5_shelfOf_2 : decode cX5_shelfOf 2 = .ok (.invokevirtual 85, 3) := by decide +kernel
theorem dX5_shelfOf_5 : decode cX5_shelfOf 5 = .ok (.aload_n 0, 1) := by decide +kernel
theorem dX5_shelfOf_6 : decode cX5_shelfOf 6 = .ok (.getfield 10, 3) := by decide +kernel
theorem dX5_shelfOf_9 : decode cX5_shelfOf 9 = .ok (.getfield 98, 3) := by decide +kernel
theorem dX5_shelfOf_12 : decode cX5_shelfOf 12 = .ok (.iload_n 1, 1) := by decide +kernel
theorem dX5_shelfOf_13 : decode cX5_shelfOf 13 = .ok (.iaload, 1) := by decide +kernel
theorem dX5_shelfOf_14 : decode cX5_shelfOf 14 = .ok (.ireturn, 1) := by decide +kernel
set_option maxRecDepth 20000 in
theorem ggX5_catalog_X5_requireRecord : GoodIn wsX5_catalog wsX5_requireRecord := goodIn_ca (goodIn_r _ [7, 8, 9, 1, 10, 11, 12, 13, 14, 15, 16, 17, 18, 19, 20, 21, 22, 23, 24, 25, 26, 27, 28, 29, 30, 31, 32] (by decide +kernel) (by decide +kernel)) (goodIn_sub (fun _ h => List.mem_cons_of_mem _ (List.mem_append_right _ h)) (by decide +kernel))
set_option maxRecDepth 20000 in
theorem gX5_catalog_X5_requireRecord : GoodIn wsX5_catalog (wsV RX5 85 RX5 yX5_requireRecord wsX5_requireRecord) := goodIn_app (goodIn_of _ (by decide +kernel)) ggX5_catalog_X5_requireRecord
theorem dX5_catalog_0 : decode cX5_catalog 0 = .ok (.aload_n 0, 1) := by decide +kernel
theorem dX5_catalog_1 : decode cX5_catalog 1 = .ok (.iload_n 1, 1) := by decide +kernel
theorem dX5_catalog_2 : decode cX5_catalog 2 = .ok (.invokevirtual 85, 3) := by decide +kernel
theorem dX5_catalog_5 : decode cX5_catalog 5 = .ok (.aload_n 0, 1) := by decide +kernel
theorem dX5_catalog_6 : decode cX5_catalog 6 = .ok (.getfield 10, 3) := by decide +kernel
theorem dX5_catalog_9 : decode cX5_catalog 9 = .ok (.getfield 101, 3) := by decide +kernel
theorem dX5_catalog_12 : decode cX5_catalog 12 = .ok (.iload_n 1, 1) := by decide +kernel
theorem dX5_catalog_13 : decode cX5_catalog 13 = .ok (.iaload, 1) := by decide +kernel
theorem dX5_catalog_14 : decode cX5_catalog 14 = .ok (.ireturn, 1) := by decide +kernel
set_option maxRecDepth 20000 in
theorem ggX5_weight_X5_requireRecord : GoodIn wsX5_weight wsX5_requireRecord := goodIn_ca (goodIn_r _ [6, 7, 8, 1, 9, 10, 11, 12, 13, 14, 21, 22, 23, 24, 25, 26, 27, 28, 29, 30, 31, 32, 33, 34, 35, 36, 37] (by decide +kernel) (by decide +kernel)) (goodIn_sub (fun _ h => List.mem_cons_of_mem _ (List.mem_append_right _ h)) (by decide +kernel))
set_option maxRecDepth 20000 in
theorem gX5_weight_X5_requireRecord : GoodIn wsX5_weight (wsV RX5 85 RX5 yX5_requireRecord wsX5_requireRecord) := goodIn_app (goodIn_of _ (by decide +kernel)) ggX5_weight_X5_requireRecord
set_option maxRecDepth 20000 in
theorem ggX5_weight_X3_weightOf : GoodIn wsX5_weight wsX3_weightOf := goodIn_r _ [18, 19, 20, 27, 28, 29, 30, 31, 32, 33, 34, 35, 36, 37] (by decide +kernel) (by decide +kernel)
set_option maxRecDepth 20000 in
theorem gX5_weight_X3_weightOf : GoodIn wsX5_weight (wsV RX5 104 RX3 yX3_weightOf wsX3_weightOf) := goodIn_app (goodIn_of _ (by decide +kernel)) ggX5_weight_X3_weightOf
theorem dX5_weight_0 : decode cX5_weight 0 = .ok (.aload_n 0, 1) := by decide +kernel
theorem dX5_weight_1 : decode cX5_weight 1 = .ok (.iload_n 1, 1) := by decide +kernel
theorem dX5_weight_2 : decode cX5_weight 2 = .ok (.invokevirtual 85, 3) := by decide +kernel
theorem dX5_weight_5 : decode cX5_weight 5 = .ok (.aload_n 0, 1) := by decide +kernel
theorem dX5_weight_6 : decode cX5_weight 6 = .ok (.getfield 10, 3) := by decide +kernel
theorem dX5_weight_9 : decode cX5_weight 9 = .ok (.iload_n 1, 1) := by decide +kernel
theorem dX5_weight_10 : decode cX5_weight 10 = .ok (.invokevirtual 104, 3) := by decide +kernel
theorem dX5_weight_13 : decode cX5_weight 13 = .ok (.ireturn, 1) := by decide +kernel
set_option maxRecDepth 20000 in
theorem ggX5_free_X5_requireShelf : GoodIn wsX5_free wsX5_requireShelf := goodIn_ca (goodIn_r _ [5, 6, 7] (by decide +kernel) (by decide +kernel)) (goodIn_sub (fun _ h => List.mem_cons_of_mem _ (List.mem_append_right _ h)) (by decide +kernel))
set_option maxRecDepth 20000 in
theorem gX5_free_X5_requireShelf : GoodIn wsX5_free (va_wsS RX5 37 yX5_requireShelf wsX5_requireShelf) := goodIn_app (goodIn_of _ (by decide +kernel)) ggX5_free_X5_requireShelf
set_option maxRecDepth 20000 in
theorem ggX5_free_X3_freeRoom : GoodIn wsX5_free wsX3_freeRoom := goodIn_r _ [12, 13, 14, 21, 22, 23, 24, 25, 26, 27, 28, 29, 30, 31] (by decide +kernel) (by decide +kernel)
set_option maxRecDepth 20000 in
theorem gX5_free_X3_freeRoom : GoodIn wsX5_free (wsV RX5 68 RX3 yX3_freeRoom wsX3_freeRoom) := goodIn_app (goodIn_of _ (by decide +kernel)) ggX5_free_X3_freeRoom
theorem dX5_free_0 : decode cX5_free 0 = .ok (.iload_n 1, 1) := by decide +kernel
theorem dX5_free_1 : decode cX5_free 1 = .ok (.invokestatic 37, 3) := by decide +kernel
theorem dX5_free_4 : decode cX5_free 4 = .ok (.aload_n 0, 1) := by decide +kernel
theorem dX5_free_5 : decode cX5_free 5 = .ok (.getfield 10, 3) := by decide +kernel
theorem dX5_free_8 : decode cX5_free 8 = .ok (.iload_n 1, 1) := by decide +kernel
theorem dX5_free_9 : decode cX5_free 9 = .ok (.invokevirtual 68, 3) := by decide +kernel
theorem dX5_free_12 : decode cX5_free 12 = .ok (.ireturn, 1) := by decide +kernel
set_option maxRecDepth 20000 in
theorem ggX5_reach_X5_requireShelf : GoodIn wsX5_reach wsX5_requireShelf := goodIn_ca (goodIn_r _ [6, 7, 8] (by decide +kernel) (by decide +kernel)) (goodIn_sub (fun _ h => List.mem_cons_of_mem _ (List.mem_append_right _ h)) (by decide +kernel))
set_option maxRecDepth 20000 in
theorem gX5_reach_X5_requireShelf : GoodIn wsX5_reach (va_wsS RX5 37 yX5_requireShelf wsX5_requireShelf) := goodIn_app (goodIn_of _ (by decide +kernel)) ggX5_reach_X5_requireShelf
theorem dX5_reach_0 : decode cX5_reach 0 = .ok (.iload_n 1, 1) := by decide +kernel
theorem dX5_reach_1 : decode cX5_reach 1 = .ok (.invokestatic 37, 3) := by decide +kernel
theorem dX5_reach_4 : decode cX5_reach 4 = .ok (.aload_n 0, 1) := by decide +kernel
theorem dX5_reach_5 : decode cX5_reach 5 = .ok (.getfield 10, 3) := by decide +kernel
theorem dX5_reach_8 : decode cX5_reach 8 = .ok (.getfield 65, 3) := by decide +kernel
theorem dX5_reach_11 : decode cX5_reach 11 = .ok (.iload_n 1, 1) := by decide +kernel
theorem dX5_reach_12 : decode cX5_reach 12 = .ok (.iaload, 1) := by decide +kernel
theorem dX5_reach_13 : decode cX5_reach 13 = .ok (.ireturn, 1) := by decide +kernel
set_option maxRecDepth 20000 in
theorem ggX5_call_X5_requireRecord : GoodIn wsX5_call wsX5_requireRecord := goodIn_ca (goodIn_r _ [6, 7, 8, 1, 9, 10, 11, 12, 13, 14, 59, 60, 61, 62, 63, 64, 65, 66, 67, 68, 69, 70, 71, 72, 73, 74, 75] (by decide +kernel) (by decide +kernel)) (goodIn_sub (fun _ h => List.mem_cons_of_mem _ (List.mem_append_right _ h)) (by decide +kernel))
set_option maxRecDepth 20000 in
theorem gX5_call_X5_requireRecord : GoodIn wsX5_call (wsV RX5 85 RX5 yX5_requireRecord wsX5_requireRecord) := goodIn_app (goodIn_of _ (by decide +kernel)) ggX5_call_X5_requireRecord
set_option maxRecDepth 20000 in
theorem ggX5_call_X5_saveState : GoodIn wsX5_call wsX5_saveState := goodIn_r _ [18, 19, 20, 1, 21, 22, 23, 5, 24, 25, 26, 27, 12, 28, 29, 30, 31, 32, 33, 34, 35, 36, 37, 38, 39, 40, 14, 41, 42, 59, 60, 61, 62, 63, 64, 65, 66, 67, 68, 69, 70, 71, 72, 73, 74, 75] (by decide +kernel) (by decide +kernel)
set_option maxRecDepth 20000 in
theorem gX5_call_X5_saveState : GoodIn wsX5_call (wsV RX5 59 RX5 yX5_saveState wsX5_saveState) := goodIn_app (goodIn_of _ (by decide +kernel)) ggX5_call_X5_saveState
set_option maxRecDepth 20000 in
theorem ggX5_call_X3_fetch : GoodIn wsX5_call wsX3_fetch := goodIn_r _ [46, 39, 41, 38, 37, 47, 48, 49, 12, 50, 34, 51, 52, 53, 54, 55, 56, 57, 58, 65, 66, 67, 68, 69, 70, 71, 72, 73, 74, 75] (by decide +kernel) (by decide +kernel)
set_option maxRecDepth 20000 in
theorem gX5_call_X3_fetch : GoodIn wsX5_call (wsV RX5 107 RX3 yX3_fetch wsX3_fetch) := goodIn_app (goodIn_of _ (by decide +kernel)) ggX5_call_X3_fetch
theorem dX5_call_0 : decode cX5_call 0 = .ok (.aload_n 0, 1) := by decide +kernel
theorem dX5_call_1 : decode cX5_call 1 = .ok (.iload_n 1, 1) := by decide +kernel
theorem dX5_call_2 : decode cX5_call 2 = .ok (.invokevirtual 85, 3) := by decide +kernel
theorem dX5_call_5 : decode cX5_call 5 = .ok (.aload_n 0, 1) := by decide +kernel
theorem dX5_call_6 : decode cX5_call 6 = .ok (.invokevirtual 59, 3) := by decide +kernel
theorem dX5_call_9 : decode cX5_call 9 = .ok (.aload_n 0, 1) := by decide +kernel
theorem dX5_call_10 : decode cX5_call 10 = .ok (.getfield 10, 3) := by decide +kernel
theorem dX5_call_13 : decode cX5_call 13 = .ok (.iload_n 1, 1) := by decide +kernel
theorem dX5_call_14 : decode cX5_call 14 = .ok (.invokevirtual 107, 3) := by decide +kernel
theorem dX5_call_17 : decode cX5_call 17 = .ok (.ireturn, 1) := by decide +kernel
set_option maxRecDepth 20000 in
theorem ggX5_misplace_X5_requireRecord : GoodIn wsX5_misplace wsX5_requireRecord := goodIn_ca (goodIn_r _ [8, 9, 10, 3, 11, 12, 13, 14, 15, 16, 60, 61, 62, 63, 64, 65, 66, 67, 68, 69, 70, 71, 72, 73, 74, 75, 76] (by decide +kernel) (by decide +kernel)) (goodIn_sub (fun _ h => List.mem_cons_of_mem _ (List.mem_append_right _ h)) (by decide +kernel))
set_option maxRecDepth 20000 in
theorem gX5_misplace_X5_requireRecord : GoodIn wsX5_misplace (wsV RX5 85 RX5 yX5_requireRecord wsX5_requireRecord) := goodIn_app (goodIn_of _ (by decide +kernel)) ggX5_misplace_X5_requireRecord
set_option maxRecDepth 20000 in
theorem ggX5_misplace_X5_requireShelf : GoodIn wsX5_misplace wsX5_requireShelf := goodIn_ca (goodIn_r _ [19, 9, 10] (by decide +kernel) (by decide +kernel)) (goodIn_sub (fun _ h => List.mem_cons_of_mem _ (List.mem_append_right _ h)) (by decide +kernel))
set_option maxRecDepth 20000 in
theorem gX5_misplace_X5_requireShelf : GoodIn wsX5_misplace (va_wsS RX5 37 yX5_requireShelf wsX5_requireShelf) := goodIn_app (goodIn_of _ (by decide +kernel)) ggX5_misplace_X5_requireShelf
set_option maxRecDepth 20000 in
theorem ggX5_misplace_X3_canStandOn : GoodIn wsX5_misplace wsX3_canStandOn := goodIn_r _ [23, 24, 25, 26, 27, 28, 14, 29, 30, 31, 66, 67, 68, 69, 70, 71, 72, 73, 74, 75, 76] (by decide +kernel) (by decide +kernel)
set_option maxRecDepth 20000 in
theorem gX5_misplace_X3_canStandOn : GoodIn wsX5_misplace (wsV RX5 110 RX3 yX3_canStandOn wsX3_canStandOn) := goodIn_app (goodIn_of _ (by decide +kernel)) ggX5_misplace_X3_canStandOn
set_option maxRecDepth 20000 in
theorem ggX5_misplace_X5_saveState : GoodIn wsX5_misplace wsX5_saveState := goodIn_r _ [35, 36, 37, 3, 38, 39, 40, 7, 41, 42, 43, 44, 14, 45, 30, 46, 47, 48, 49, 50, 31, 25, 24, 51, 52, 53, 16, 54, 55, 60, 61, 62, 63, 64, 65, 66, 67, 68, 69, 70, 71, 72, 73, 74, 75, 76] (by decide +kernel) (by decide +kernel)
set_option maxRecDepth 20000 in
theorem gX5_misplace_X5_saveState : GoodIn wsX5_misplace (wsV RX5 59 RX5 yX5_saveState wsX5_saveState) := goodIn_app (goodIn_of _ (by decide +kernel)) ggX5_misplace_X5_saveState
set_option maxRecDepth 20000 in
theorem ggX5_misplace_X3_putOn : GoodIn wsX5_misplace wsX3_putOn := goodIn_r _ [59, 24, 31, 25, 66, 67, 68, 69, 70, 71, 72, 73, 74, 75, 76] (by decide +kernel) (by decide +kernel)
set_option maxRecDepth 20000 in
theorem gX5_misplace_X3_putOn : GoodIn wsX5_misplace (wsV RX5 115 RX3 yX3_putOn wsX3_putOn) := goodIn_app (goodIn_of _ (by decide +kernel)) ggX5_misplace_X3_putOn
theorem dX5_misplace_0 : decode cX5_misplace 0 = .ok (.aload_n 0, 1) := by decide +kernel
theorem dX5_misplace_1 : decode cX5_misplace 1 = .ok (.iload_n 1, 1) := by decide +kernel
theorem dX5_misplace_2 : decode cX5_misplace 2 = .ok (.invokevirtual 85, 3) := by decide +kernel
theorem dX5_misplace_5 : decode cX5_misplace 5 = .ok (.iload_n 2, 1) := by decide +kernel
theorem dX5_misplace_6 : decode cX5_misplace 6 = .ok (.invokestatic 37, 3) := by decide +kernel
theorem dX5_misplace_9 : decode cX5_misplace 9 = .ok (.aload_n 0, 1) := by decide +kernel
theorem dX5_misplace_10 : decode cX5_misplace 10 = .ok (.getfield 10, 3) := by decide +kernel
theorem dX5_misplace_13 : decode cX5_misplace 13 = .ok (.iload_n 1, 1) := by decide +kernel
theorem dX5_misplace_14 : decode cX5_misplace 14 = .ok (.iload_n 2, 1) := by decide +kernel
theorem dX5_misplace_15 : decode cX5_misplace 15 = .ok (.invokevirtual 110, 3) := by decide +kernel
theorem dX5_misplace_18 : decode cX5_misplace 18 = .ok (.ifCond .ne 13, 3) := by decide +kernel
theorem dX5_misplace_21 : decode cX5_misplace 21 = .ok (.new 54, 3) := by decide +kernel
theorem dX5_misplace_24 : decode cX5_misplace 24 = .ok (.dup, 1) := by decide +kernel
theorem dX5_misplace_25 : decode cX5_misplace 25 = .ok (.ldc 113, 2) := by decide +kernel
theorem dX5_misplace_27 : decode cX5_misplace 27 = .ok (.invokespecial 58, 3) := by decide +kernel
theorem dX5_misplace_30 : decode cX5_misplace 30 = .ok (.athrow, 1) := by decide +kernel
theorem dX5_misplace_31 : decode cX5_misplace 31 = .ok (.aload_n 0, 1) := by decide +kernel
theorem dX5_misplace_32 : decode cX5_misplace 32 = .ok (.invokevirtual 59, 3) := by decide +kernel
theorem dX5_misplace_35 : decode cX5_misplace 35 = .ok (.aload_n 0, 1) := by decide +kernel
theorem dX5_misplace_36 : decode cX5_misplace 36 = .ok (.getfield 10, 3) := by decide +kernel
theorem dX5_misplace_39 : decode cX5_misplace 39 = .ok (.iload_n 1, 1) := by decide +kernel
theorem dX5_misplace_40 : decode cX5_misplace 40 = .ok (.iload_n 2, 1) := by decide +kernel
theorem dX5_misplace_41 : decode cX5_misplace 41 = .ok (.invokevirtual 115, 3) := by decide +kernel
theorem dX5_misplace_44 : decode cX5_misplace 44 = .ok (.ireturn, 1) := by decide +kernel
set_option maxRecDepth 20000 in
theorem ggX5_month_X5_saveState : GoodIn wsX5_month wsX5_saveState := goodIn_r _ [6, 7, 8, 1, 9, 10, 11, 5, 12, 13, 14, 15, 16, 17, 18, 19, 20, 21, 22, 23, 24, 25, 26, 27, 28, 29, 30, 31, 32, 37, 38, 39, 40, 41, 42, 43, 44, 45, 46, 47, 48, 49, 50, 51, 52, 53] (by decide +kernel) (by decide +kernel)
set_option maxRecDepth 20000 in
theorem gX5_month_X5_saveState : GoodIn wsX5_month (wsV RX5 59 RX5 yX5_saveState wsX5_saveState) := goodIn_app (goodIn_of _ (by decide +kernel)) ggX5_month_X5_saveState
set_option maxRecDepth 20000 in
theorem ggX5_month_X3_beginMonth : GoodIn wsX5_month wsX3_beginMonth := goodIn_r _ [36, 30, 28, 29, 43, 44, 45, 46, 47, 48, 49, 50, 51, 52, 53] (by decide +kernel) (by decide +kernel)
set_option maxRecDepth 20000 in
theorem gX5_month_X3_beginMonth : GoodIn wsX5_month (wsV RX5 118 RX3 yX3_beginMonth wsX3_beginMonth) := goodIn_app (goodIn_of _ (by decide +kernel)) ggX5_month_X3_beginMonth
theorem dX5_month_0 : decode cX5_month 0 = .ok (.aload_n 0, 1) := by decide +kernel
theorem dX5_month_1 : decode cX5_month 1 = .ok (.invokevirtual 59, 3) := by decide +kernel
theorem dX5_month_4 : decode cX5_month 4 = .ok (.aload_n 0, 1) := by decide +kernel
theorem dX5_month_5 : decode cX5_month 5 = .ok (.getfield 10, 3) := by decide +kernel
theorem dX5_month_8 : decode cX5_month 8 = .ok (.invokevirtual 118, 3) := by decide +kernel
theorem dX5_month_11 : decode cX5_month 11 = .ok (.ireturn, 1) := by decide +kernel
set_option maxRecDepth 20000 in
theorem ggX5_misplaced_X3_countMisplaced : GoodIn wsX5_misplaced wsX3_countMisplaced := goodIn_r _ [6, 7, 8, 9, 10, 5, 11, 12, 13, 20, 21, 22, 23, 24, 25, 26, 27, 28, 29, 30] (by decide +kernel) (by decide +kernel)
set_option maxRecDepth 20000 in
theorem gX5_misplaced_X3_countMisplaced : GoodIn wsX5_misplaced (wsV RX5 122 RX3 yX3_countMisplaced wsX3_countMisplaced) := goodIn_app (goodIn_of _ (by decide +kernel)) ggX5_misplaced_X3_countMisplaced
theorem dX5_misplaced_0 : decode cX5_misplaced 0 = .ok (.aload_n 0, 1) := by decide +kernel
theorem dX5_misplaced_1 : decode cX5_misplaced 1 = .ok (.getfield 10, 3) := by decide +kernel
theorem dX5_misplaced_4 : decode cX5_misplaced 4 = .ok (.invokevirtual 122, 3) := by decide +kernel
theorem dX5_misplaced_7 : decode cX5_misplaced 7 = .ok (.ireturn, 1) := by decide +kernel
theorem dX5_walked_0 : decode cX5_walked 0 = .ok (.aload_n 0, 1) := by decide +kernel
theorem dX5_walked_1 : decode cX5_walked 1 = .ok (.getfield 10, 3) := by decide +kernel
theorem dX5_walked_4 : decode cX5_walked 4 = .ok (.getfield 125, 3) := by decide +kernel
theorem dX5_walked_7 : decode cX5_walked 7 = .ok (.ireturn, 1) := by decide +kernel
set_option maxRecDepth 20000 in
theorem ggX5_night_X5_requireSteps : GoodIn wsX5_night wsX5_requireSteps := goodIn_ca (goodIn_r _ [6, 7, 8] (by decide +kernel) (by decide +kernel)) (goodIn_sub (fun _ h => List.mem_cons_of_mem _ (List.mem_append_right _ h)) (by decide +kernel))
set_option maxRecDepth 20000 in
theorem gX5_night_X5_requireSteps : GoodIn wsX5_night (va_wsS RX5 128 yX5_requireSteps wsX5_requireSteps) := goodIn_app (goodIn_of _ (by decide +kernel)) ggX5_night_X5_requireSteps
set_option maxRecDepth 20000 in
theorem ggX5_night_X5_saveState : GoodIn wsX5_night wsX5_saveState := goodIn_r _ [12, 13, 14, 1, 15, 16, 17, 5, 18, 19, 20, 21, 22, 23, 24, 25, 26, 27, 28, 29, 30, 31, 32, 33, 34, 35, 36, 37, 38, 108, 109, 110, 111, 112, 113, 114, 115, 116, 117, 118, 119, 120, 121, 122, 123, 124] (by decide +kernel) (by decide +kernel)
set_option maxRecDepth 20000 in
theorem gX5_night_X5_saveState : GoodIn wsX5_night (wsV RX5 59 RX5 yX5_saveState wsX5_saveState) := goodIn_app (goodIn_of _ (by decide +kernel)) ggX5_night_X5_saveState
set_option maxRecDepth 20000 in
theorem ggX5_night_X3_makeBestSteps : GoodIn wsX5_night wsX3_makeBestSteps := goodIn_r _ [42, 43, 44, 45, 46, 22, 47, 36, 48, 49, 50, 51, 52, 53, 54, 55, 56, 57, 32, 33, 58, 59, 60, 61, 31, 62, 63, 64, 65, 24, 30, 66, 67, 68, 69, 29, 70, 71, 72, 73, 34, 35, 74, 75, 76, 77, 78, 79, 80, 81, 82, 83, 84, 85, 86, 87, 88, 89, 90, 91, 92, 93, 94, 95, 96, 97, 98, 99, 38, 100, 101, 102, 103, 104, 105, 106, 107, 125, 126, 127, 128, 114, 115, 116, 117, 118, 119, 120, 121, 122, 123, 124] (by decide +kernel) (by decide +kernel)
set_option maxRecDepth 20000 in
theorem gX5_night_X3_makeBestSteps : GoodIn wsX5_night (wsV RX5 131 RX3 yX3_makeBestSteps wsX3_makeBestSteps) := goodIn_app (goodIn_of _ (by decide +kernel)) ggX5_night_X3_makeBestSteps
theorem dX5_night_0 : decode cX5_night 0 = .ok (.iload_n 1, 1) := by decide +kernel
theorem dX5_night_1 : decode cX5_night 1 = .ok (.invokestatic 128, 3) := by decide +kernel
theorem dX5_night_4 : decode cX5_night 4 = .ok (.aload_n 0, 1) := by decide +kernel
theorem dX5_night_5 : decode cX5_night 5 = .ok (.invokevirtual 59, 3) := by decide +kernel
theorem dX5_night_8 : decode cX5_night 8 = .ok (.aload_n 0, 1) := by decide +kernel
theorem dX5_night_9 : decode cX5_night 9 = .ok (.getfield 10, 3) := by decide +kernel
theorem dX5_night_12 : decode cX5_night 12 = .ok (.iload_n 1, 1) := by decide +kernel
theorem dX5_night_13 : decode cX5_night 13 = .ok (.aload_n 0, 1) := by decide +kernel
theorem dX5_night_14 : decode cX5_night 14 = .ok (.getfield 22, 3) := by decide +kernel
theorem dX5_night_17 : decode cX5_night 17 = .ok (.invokevirtual 131, 3) := by decide +kernel
theorem dX5_night_20 : decode cX5_night 20 = .ok (.ireturn, 1) := by decide +kernel
set_option maxRecDepth 20000 in
theorem ggX5_cost_X3_totalCost : GoodIn wsX5_cost wsX3_totalCost := goodIn_r _ [6, 7, 8, 9, 10, 11, 12, 5, 13, 14, 15, 22, 23, 24, 25, 26, 27, 28, 29, 30, 31, 32] (by decide +kernel) (by decide +kernel)
set_option maxRecDepth 20000 in
theorem gX5_cost_X3_totalCost : GoodIn wsX5_cost (wsV RX5 135 RX3 yX3_totalCost wsX3_totalCost) := goodIn_app (goodIn_of _ (by decide +kernel)) ggX5_cost_X3_totalCost
theorem dX5_cost_0 : decode cX5_cost 0 = .ok (.aload_n 0, 1) := by decide +kernel
theorem dX5_cost_1 : decode cX5_cost 1 = .ok (.getfield 10, 3) := by decide +kernel
theorem dX5_cost_4 : decode cX5_cost 4 = .ok (.invokevirtual 135, 3) := by decide +kernel
theorem dX5_cost_7 : decode cX5_cost 7 = .ok (.ireturn, 1) := by decide +kernel
theorem dX5_steps_0 : decode cX5_steps 0 = .ok (.aload_n 0, 1) := by decide +kernel
theorem dX5_steps_1 : decode cX5_steps 1 = .ok (.getfield 10, 3) := by decide +kernel
theorem dX5_steps_4 : decode cX5_steps 4 = .ok (.getfield 138, 3) := by decide +kernel
theorem dX5_steps_7 : decode cX5_steps 7 = .ok (.ireturn, 1) := by decide +kernel
set_option maxRecDepth 20000 in
theorem ggX5_reason_X5_requireRecord : GoodIn wsX5_reason wsX5_requireRecord := goodIn_ca (goodIn_r _ [8, 9, 10, 1, 11, 12, 13, 14, 15, 16, 43, 44, 45, 46, 47, 48, 49, 50, 51, 52, 53, 54, 55, 56, 57, 58, 59] (by decide +kernel) (by decide +kernel)) (goodIn_sub (fun _ h => List.mem_cons_of_mem _ (List.mem_append_right _ h)) (by decide +kernel))
set_option maxRecDepth 20000 in
theorem gX5_reason_X5_requireRecord : GoodIn wsX5_reason (wsV RX5 85 RX5 yX5_requireRecord wsX5_requireRecord) := goodIn_app (goodIn_of _ (by decide +kernel)) ggX5_reason_X5_requireRecord
set_option maxRecDepth 20000 in
theorem ggX5_reason_X5_requireShelf : GoodIn wsX5_reason wsX5_requireShelf := goodIn_ca (goodIn_r _ [19, 9, 10] (by decide +kernel) (by decide +kernel)) (goodIn_sub (fun _ h => List.mem_cons_of_mem _ (List.mem_append_right _ h)) (by decide +kernel))
set_option maxRecDepth 20000 in
theorem gX5_reason_X5_requireShelf : GoodIn wsX5_reason (va_wsS RX5 37 yX5_requireShelf wsX5_requireShelf) := goodIn_app (goodIn_of _ (by decide +kernel)) ggX5_reason_X5_requireShelf
set_option maxRecDepth 20000 in
theorem ggX5_reason_X3_isMisplaced : GoodIn wsX5_reason wsX3_isMisplaced := goodIn_r _ [23, 24, 25, 49, 50, 51, 52, 53, 54, 55, 56, 57, 58, 59] (by decide +kernel) (by decide +kernel)
set_option maxRecDepth 20000 in
theorem gX5_reason_X3_isMisplaced : GoodIn wsX5_reason (wsV RX5 141 RX3 yX3_isMisplaced wsX3_isMisplaced) := goodIn_app (goodIn_of _ (by decide +kernel)) ggX5_reason_X3_isMisplaced
set_option maxRecDepth 20000 in
theorem ggX5_reason_X3_freeRoom : GoodIn wsX5_reason wsX3_freeRoom := goodIn_r _ [29, 30, 31, 49, 50, 51, 52, 53, 54, 55, 56, 57, 58, 59] (by decide +kernel) (by decide +kernel)
set_option maxRecDepth 20000 in
theorem gX5_reason_X3_freeRoom : GoodIn wsX5_reason (wsV RX5 68 RX3 yX3_freeRoom wsX3_freeRoom) := goodIn_app (goodIn_of _ (by decide +kernel)) ggX5_reason_X3_freeRoom
set_option maxRecDepth 20000 in
theorem ggX5_reason_X3_moveGain : GoodIn wsX5_reason wsX3_moveGain := goodIn_r _ [35, 36, 24, 37, 38, 39, 14, 40, 41, 42, 49, 50, 51, 52, 53, 54, 55, 56, 57, 58, 59] (by decide +kernel) (by decide +kernel)
set_option maxRecDepth 20000 in
theorem gX5_reason_X3_moveGain : GoodIn wsX5_reason (wsV RX5 145 RX3 yX3_moveGain wsX3_moveGain) := goodIn_app (goodIn_of _ (by decide +kernel)) ggX5_reason_X3_moveGain
theorem dX5_reason_0 : decode cX5_reason 0 = .ok (.aload_n 0, 1) := by decide +kernel
theorem dX5_reason_1 : decode cX5_reason 1 = .ok (.iload_n 1, 1) := by decide +kernel
theorem dX5_reason_2 : decode cX5_reason 2 = .ok (.invokevirtual 85, 3) := by decide +kernel
theorem dX5_reason_5 : decode cX5_reason 5 = .ok (.iload_n 2, 1) := by decide +kernel
theorem dX5_reason_6 : decode cX5_reason 6 = .ok (.invokestatic 37, 3) := by decide +kernel
theorem dX5_reason_9 : decode cX5_reason 9 = .ok (.aload_n 0, 1) := by decide +kernel
theorem dX5_reason_10 : decode cX5_reason 10 = .ok (.getfield 10, 3) := by decide +kernel
theorem dX5_reason_13 : decode cX5_reason 13 = .ok (.iload_n 1, 1) := by decide +kernel
theorem dX5_reason_14 : decode cX5_reason 14 = .ok (.invokevirtual 141, 3) := by decide +kernel
theorem dX5_reason_17 : decode cX5_reason 17 = .ok (.ifCond .eq 5, 3) := by decide +kernel
theorem dX5_reason_20 : decode cX5_reason 20 = .ok (.iconst 1, 1) := by decide +kernel
theorem dX5_reason_21 : decode cX5_reason 21 = .ok (.ireturn, 1) := by decide +kernel
theorem dX5_reason_22 : decode cX5_reason 22 = .ok (.aload_n 0, 1) := by decide +kernel
theorem dX5_reason_23 : decode cX5_reason 23 = .ok (.getfield 10, 3) := by decide +kernel
theorem dX5_reason_26 : decode cX5_reason 26 = .ok (.getfield 98, 3) := by decide +kernel
theorem dX5_reason_29 : decode cX5_reason 29 = .ok (.iload_n 1, 1) := by decide +kernel
theorem dX5_reason_30 : decode cX5_reason 30 = .ok (.iaload, 1) := by decide +kernel
theorem dX5_reason_31 : decode cX5_reason 31 = .ok (.iload_n 2, 1) := by decide +kernel
theorem dX5_reason_32 : decode cX5_reason 32 = .ok (.if_icmp .ne 5, 3) := by decide +kernel
theorem dX5_reason_35 : decode cX5_reason 35 = .ok (.iconst 2, 1) := by decide +kernel
theorem dX5_reason_36 : decode cX5_reason 36 = .ok (.ireturn, 1) := by decide +kernel
theorem dX5_reason_37 : decode cX5_reason 37 = .ok (.aload_n 0, 1) := by decide +kernel
theorem dX5_reason_38 : decode cX5_reason 38 = .ok (.getfield 10, 3) := by decide +kernel
theorem dX5_reason_41 : decode cX5_reason 41 = .ok (.iload_n 2, 1) := by decide +kernel
theorem dX5_reason_42 : decode cX5_reason 42 = .ok (.invokevirtual 68, 3) := by decide +kernel
theorem dX5_reason_45 : decode cX5_reason 45 = .ok (.aload_n 0, 1) := by decide +kernel
theorem dX5_reason_46 : decode cX5_reason 46 = .ok (.getfield 10, 3) := by decide +kernel
theorem dX5_reason_49 : decode cX5_reason 49 = .ok (.getfield 95, 3) := by decide +kernel
theorem dX5_reason_52 : decode cX5_reason 52 = .ok (.iload_n 1, 1) := by decide +kernel
theorem dX5_reason_53 : decode cX5_reason 53 = .ok (.iaload, 1) := by decide +kernel
theorem dX5_reason_54 : decode cX5_reason 54 = .ok (.if_icmp .ge 5, 3) := by decide +kernel
theorem dX5_reason_57 : decode cX5_reason 57 = .ok (.iconst 3, 1) := by decide +kernel
theorem dX5_reason_58 : decode cX5_reason 58 = .ok (.ireturn, 1) := by decide +kernel
theorem dX5_reason_59 : decode cX5_reason 59 = .ok (.aload_n 0, 1) := by decide +kernel
theorem dX5_reason_60 : decode cX5_reason 60 = .ok (.getfield 10, 3) := by decide +kernel
theorem dX5_reason_63 : decode cX5_reason 63 = .ok (.iload_n 1, 1) := by decide +kernel
theorem dX5_reason_64 : decode cX5_reason 64 = .ok (.iload_n 2, 1) := by decide +kernel
theorem dX5_reason_65 : decode cX5_reason 65 = .ok (.invokevirtual 145, 3) := by decide +kernel
theorem dX5_reason_68 : decode cX5_reason 68 = .ok (.iconst 1, 1) := by decide +kernel
theorem dX5_reason_69 : decode cX5_reason 69 = .ok (.if_icmp .ge 7, 3) := by decide +kernel
theorem dX5_reason_72 : decode cX5_reason 72 = .ok (.iconst 4, 1) := by decide +kernel
theorem dX5_reason_73 : decode cX5_reason 73 = .ok (.goto 4, 3) := by decide +kernel
theorem dX5_reason_76 : decode cX5_reason 76 = .ok (.iconst 0, 1) := by decide +kernel
theorem dX5_reason_77 : decode cX5_reason 77 = .ok (.ireturn, 1) := by decide +kernel
set_option maxRecDepth 20000 in
theorem ggX5_bestGain_X3_findBestStep : GoodIn wsX5_bestGain wsX3_findBestStep := goodIn_r _ [8, 9, 10, 11, 12, 13, 14, 15, 16, 17, 18, 7, 19, 20, 21, 22, 23, 24, 25, 26, 27, 28, 29, 30, 31, 32, 33, 34, 35, 36, 37, 38, 39, 40, 41, 42, 43, 44, 45, 46, 47, 48, 49, 50, 51, 52, 53, 54, 55, 56, 57, 58, 59, 60, 61, 62, 73, 74, 75, 76, 77, 78, 79, 80, 81, 82, 83, 69, 70, 71, 72] (by decide +kernel) (by decide +kernel)
set_option maxRecDepth 20000 in
theorem gX5_bestGain_X3_findBestStep : GoodIn wsX5_bestGain (wsV RX5 148 RX3 yX3_findBestStep wsX3_findBestStep) := goodIn_app (goodIn_of _ (by decide +kernel)) ggX5_bestGain_X3_findBestStep
theorem dX5_bestGain_0 : decode cX5_bestGain 0 = .ok (.aload_n 0, 1) := by decide +kernel
theorem dX5_bestGain_1 : decode cX5_bestGain 1 = .ok (.getfield 10, 3) := by decide +kernel
theorem dX5_bestGain_4 : decode cX5_bestGain 4 = .ok (.aload_n 0, 1) := by decide +kernel
theorem dX5_bestGain_5 : decode cX5_bestGain 5 = .ok (.getfield 22, 3) := by decide +kernel
theorem dX5_bestGain_8 : decode cX5_bestGain 8 = .ok (.invokevirtual 148, 3) := by decide +kernel
theorem dX5_bestGain_11 : decode cX5_bestGain 11 = .ok (.aload_n 0, 1) := by decide +kernel
theorem dX5_bestGain_12 : decode cX5_bestGain 12 = .ok (.getfield 22, 3) := by decide +kernel
theorem dX5_bestGain_15 : decode cX5_bestGain 15 = .ok (.getfield 152, 3) := by decide +kernel
theorem dX5_bestGain_18 : decode cX5_bestGain 18 = .ok (.ireturn, 1) := by decide +kernel
set_option maxRecDepth 20000 in
theorem ggX5_costAfterNight_X5_requireSteps : GoodIn wsX5_costAfterNight wsX5_requireSteps := goodIn_ca (goodIn_r _ [7, 8, 9] (by decide +kernel) (by decide +kernel)) (goodIn_sub (fun _ h => List.mem_cons_of_mem _ (List.mem_append_right _ h)) (by decide +kernel))
set_option maxRecDepth 20000 in
theorem gX5_costAfterNight_X5_requireSteps : GoodIn wsX5_costAfterNight (va_wsS RX5 128 yX5_requireSteps wsX5_requireSteps) := goodIn_app (goodIn_of _ (by decide +kernel)) ggX5_costAfterNight_X5_requireSteps
set_option maxRecDepth 20000 in
theorem ggX5_costAfterNight_X3_copyFrom : GoodIn wsX5_costAfterNight wsX3_copyFrom := goodIn_r _ [14, 15, 16, 17, 18, 19, 20, 21, 22, 23, 24, 25, 26, 27, 28, 29, 109, 110, 111, 112, 113, 114, 115, 116, 117, 118, 119] (by decide +kernel) (by decide +kernel)
set_option maxRecDepth 20000 in
theorem gX5_costAfterNight_X3_copyFrom : GoodIn wsX5_costAfterNight (wsV RX5 155 RX3 yX3_copyFrom wsX3_copyFrom) := goodIn_app (goodIn_of _ (by decide +kernel)) ggX5_costAfterNight_X3_copyFrom
set_option maxRecDepth 20000 in
theorem ggX5_costAfterNight_X3_makeBestSteps : GoodIn wsX5_costAfterNight wsX3_makeBestSteps := goodIn_r _ [33, 34, 35, 36, 37, 13, 38, 27, 39, 40, 41, 42, 43, 44, 45, 46, 47, 48, 23, 24, 49, 50, 51, 52, 22, 53, 54, 55, 56, 15, 21, 57, 58, 59, 60, 20, 61, 62, 63, 64, 25, 26, 65, 66, 67, 68, 69, 70, 71, 72, 73, 74, 75, 76, 77, 78, 79, 80, 81, 82, 83, 84, 85, 86, 87, 88, 89, 90, 29, 91, 92, 93, 94, 95, 96, 97, 98, 120, 121, 122, 123, 109, 110, 111, 112, 113, 114, 115, 116, 117, 118, 119] (by decide +kernel) (by decide +kernel)
set_option maxRecDepth 20000 in
theorem gX5_costAfterNight_X3_makeBestSteps : GoodIn wsX5_costAfterNight (wsV RX5 131 RX3 yX3_makeBestSteps wsX3_makeBestSteps) := goodIn_app (goodIn_of _ (by decide +kernel)) ggX5_costAfterNight_X3_makeBestSteps
set_option maxRecDepth 20000 in
theorem ggX5_costAfterNight_X3_totalCost : GoodIn wsX5_costAfterNight wsX3_totalCost := goodIn_r _ [102, 27, 20, 24, 61, 62, 63, 13, 64, 25, 26, 109, 110, 111, 112, 113, 114, 115, 116, 117, 118, 119] (by decide +kernel) (by decide +kernel)
set_option maxRecDepth 20000 in
theorem gX5_costAfterNight_X3_totalCost : GoodIn wsX5_costAfterNight (wsV RX5 135 RX3 yX3_totalCost wsX3_totalCost) := goodIn_app (goodIn_of _ (by decide +kernel)) ggX5_costAfterNight_X3_totalCost
theorem dX5_costAfterNight_0 : decode cX5_costAfterNight 0 = .ok (.iload_n 1, 1) := by decide +kernel
theorem dX5_costAfterNight_1 : decode cX5_costAfterNight 1 = .ok (.invokestatic 128, 3) := by decide +kernel
theorem dX5_costAfterNight_4 : decode cX5_costAfterNight 4 = .ok (.aload_n 0, 1) := by decide +kernel
theorem dX5_costAfterNight_5 : decode cX5_costAfterNight 5 = .ok (.getfield 16, 3) := by decide +kernel
theorem dX5_costAfterNight_8 : decode cX5_costAfterNight 8 = .ok (.aload_n 0, 1) := by decide +kernel
theorem dX5_costAfterNight_9 : decode cX5_costAfterNight 9 = .ok (.getfield 10, 3) := by decide +kernel
theorem dX5_costAfterNight_12 : decode cX5_costAfterNight 12 = .ok (.invokevirtual 155, 3) := by decide +kernel
theorem dX5_costAfterNight_15 : decode cX5_costAfterNight 15 = .ok (.aload_n 0, 1) := by decide +kernel
theorem dX5_costAfterNight_16 : decode cX5_costAfterNight 16 = .ok (.getfield 16, 3) := by decide +kernel
theorem dX5_costAfterNight_19 : decode cX5_costAfterNight 19 = .ok (.iload_n 1, 1) := by decide +kernel
theorem dX5_costAfterNight_20 : decode cX5_costAfterNight 20 = .ok (.aload_n 0, 1) := by decide +kernel
theorem dX5_costAfterNight_21 : decode cX5_costAfterNight 21 = .ok (.getfield 22, 3) := by decide +kernel
theorem dX5_costAfterNight_24 : decode cX5_costAfterNight 24 = .ok (.invokevirtual 131, 3) := by decide +kernel
theorem dX5_costAfterNight_27 : decode cX5_costAfterNight 27 = .ok (.pop, 1) := by decide +kernel
theorem dX5_costAfterNight_28 : decode cX5_costAfterNight 28 = .ok (.aload_n 0, 1) := by decide +kernel
theorem dX5_costAfterNight_29 : decode cX5_costAfterNight 29 = .ok (.getfield 16, 3) := by decide +kernel
theorem dX5_costAfterNight_32 : decode cX5_costAfterNight 32 = .ok (.invokevirtual 135, 3) := by decide +kernel
theorem dX5_costAfterNight_35 : decode cX5_costAfterNight 35 = .ok (.ireturn, 1) := by decide +kernel
set_option maxRecDepth 20000 in
theorem ggX5_walkTo_X5_requireRecord : GoodIn wsX5_walkTo wsX5_requireRecord := goodIn_ca (goodIn_r _ [6, 7, 8, 1, 9, 10, 11, 12, 13, 14, 30, 31, 32, 33, 34, 35, 36, 37, 38, 39, 40, 41, 42, 43, 44, 45, 46] (by decide +kernel) (by decide +kernel)) (goodIn_sub (fun _ h => List.mem_cons_of_mem _ (List.mem_append_right _ h)) (by decide +kernel))
set_option maxRecDepth 20000 in
theorem gX5_walkTo_X5_requireRecord : GoodIn wsX5_walkTo (wsV RX5 85 RX5 yX5_requireRecord wsX5_requireRecord) := goodIn_app (goodIn_of _ (by decide +kernel)) ggX5_walkTo_X5_requireRecord
set_option maxRecDepth 20000 in
theorem ggX5_walkTo_X3_walkOf : GoodIn wsX5_walkTo wsX3_walkOf := goodIn_r _ [18, 19, 20, 21, 22, 23, 24, 12, 25, 26, 27, 28, 29, 36, 37, 38, 39, 40, 41, 42, 43, 44, 45, 46] (by decide +kernel) (by decide +kernel)
set_option maxRecDepth 20000 in
theorem gX5_walkTo_X3_walkOf : GoodIn wsX5_walkTo (wsV RX5 159 RX3 yX3_walkOf wsX3_walkOf) := goodIn_app (goodIn_of _ (by decide +kernel)) ggX5_walkTo_X3_walkOf
theorem dX5_walkTo_0 : decode cX5_walkTo 0 = .ok (.aload_n 0, 1) := by decide +kernel
theorem dX5_walkTo_1 : decode cX5_walkTo 1 = .ok (.iload_n 1, 1) := by decide +kernel
theorem dX5_walkTo_2 : decode cX5_walkTo 2 = .ok (.invokevirtual 85, 3) := by decide +kernel
theorem dX5_walkTo_5 : decode cX5_walkTo 5 = .ok (.aload_n 0, 1) := by decide +kernel
theorem dX5_walkTo_6 : decode cX5_walkTo 6 = .ok (.getfield 10, 3) := by decide +kernel
theorem dX5_walkTo_9 : decode cX5_walkTo 9 = .ok (.iload_n 1, 1) := by decide +kernel
theorem dX5_walkTo_10 : decode cX5_walkTo 10 = .ok (.invokevirtual 159, 3) := by decide +kernel
theorem dX5_walkTo_13 : decode cX5_walkTo 13 = .ok (.ireturn, 1) := by decide +kernel
set_option maxRecDepth 20000 in
theorem ggX5_undo_X3_copyFrom : GoodIn wsX5_undo wsX3_copyFrom := goodIn_r _ [10, 11, 12, 13, 14, 15, 16, 17, 18, 19, 20, 21, 22, 23, 24, 25, 32, 33, 34, 35, 36, 37, 38, 39, 40, 41, 42] (by decide +kernel) (by decide +kernel)
set_option maxRecDepth 20000 in
theorem gX5_undo_X3_copyFrom : GoodIn wsX5_undo (wsV RX5 155 RX3 yX3_copyFrom wsX3_copyFrom) := goodIn_app (goodIn_of _ (by decide +kernel)) ggX5_undo_X3_copyFrom
theorem dX5_undo_0 : decode cX5_undo 0 = .ok (.aload_n 0, 1) := by decide +kernel
theorem dX5_undo_1 : decode cX5_undo 1 = .ok (.getfield 190, 3) := by decide +kernel
theorem dX5_undo_4 : decode cX5_undo 4 = .ok (.iconst 1, 1) := by decide +kernel
theorem dX5_undo_5 : decode cX5_undo 5 = .ok (.if_icmp .ge 13, 3) := by decide +kernel
theorem dX5_undo_8 : decode cX5_undo 8 = .ok (.new 54, 3) := by decide +kernel
theorem dX5_undo_11 : decode cX5_undo 11 = .ok (.dup, 1) := by decide +kernel
theorem dX5_undo_12 : decode cX5_undo 12 = .ok (.ldc 193, 2) := by decide +kernel
theorem dX5_undo_14 : decode cX5_undo 14 = .ok (.invokespecial 58, 3) := by decide +kernel
theorem dX5_undo_17 : decode cX5_undo 17 = .ok (.athrow, 1) := by decide +kernel
theorem dX5_undo_18 : decode cX5_undo 18 = .ok (.aload_n 0, 1) := by decide +kernel
theorem dX5_undo_19 : decode cX5_undo 19 = .ok (.dup, 1) := by decide +kernel
theorem dX5_undo_20 : decode cX5_undo 20 = .ok (.getfield 190, 3) := by decide +kernel
theorem dX5_undo_23 : decode cX5_undo 23 = .ok (.iconst 1, 1) := by decide +kernel
theorem dX5_undo_24 : decode cX5_undo 24 = .ok (.isub, 1) := by decide +kernel
theorem dX5_undo_25 : decode cX5_undo 25 = .ok (.putfield 190, 3) := by decide +kernel
theorem dX5_undo_28 : decode cX5_undo 28 = .ok (.aload_n 0, 1) := by decide +kernel
theorem dX5_undo_29 : decode cX5_undo 29 = .ok (.getfield 10, 3) := by decide +kernel
theorem dX5_undo_32 : decode cX5_undo 32 = .ok (.aload_n 0, 1) := by decide +kernel
theorem dX5_undo_33 : decode cX5_undo 33 = .ok (.getfield 33, 3) := by decide +kernel
theorem dX5_undo_36 : decode cX5_undo 36 = .ok (.aload_n 0, 1) := by decide +kernel
theorem dX5_undo_37 : decode cX5_undo 37 = .ok (.getfield 190, 3) := by decide +kernel
theorem dX5_undo_40 : decode cX5_undo 40 = .ok (.aaload, 1) := by decide +kernel
theorem dX5_undo_41 : decode cX5_undo 41 = .ok (.invokevirtual 155, 3) := by decide +kernel
theorem dX5_undo_44 : decode cX5_undo 44 = .ok (.aload_n 0, 1) := by decide +kernel
theorem dX5_undo_45 : decode cX5_undo 45 = .ok (.getfield 190, 3) := by decide +kernel
theorem dX5_undo_48 : decode cX5_undo 48 = .ok (.ireturn, 1) := by decide +kernel
theorem dX5_savedStates_0 : decode cX5_savedStates 0 = .ok (.aload_n 0, 1) := by decide +kernel
theorem dX5_savedStates_1 : decode cX5_savedStates 1 = .ok (.getfield 190, 3) := by decide +kernel
theorem dX5_savedStates_4 : decode cX5_savedStates 4 = .ok (.ireturn, 1) := by decide +kernel
set_option maxRecDepth 20000 in
theorem ggX5_digest_X5_records : GoodIn wsX5_digest wsX5_records := goodIn_r _ [12, 2, 4, 118, 119, 120, 121, 122, 123, 124, 125, 126, 127, 128, 129, 130, 131, 132, 133, 134] (by decide +kernel) (by decide +kernel)
set_option maxRecDepth 20000 in
theorem gX5_digest_X5_records : GoodIn wsX5_digest (wsV RX5 197 RX5 yX5_records wsX5_records) := goodIn_app (goodIn_of _ (by decide +kernel)) ggX5_digest_X5_records
set_option maxRecDepth 20000 in
theorem ggX5_digest_X5_mix : GoodIn wsX5_digest wsX5_mix := goodIn_r _ [15, 16] (by decide +kernel) (by decide +kernel)
set_option maxRecDepth 20000 in
theorem gX5_digest_X5_mix : GoodIn wsX5_digest (va_wsS RX5 200 yX5_mix wsX5_mix) := goodIn_app (goodIn_of _ (by decide +kernel)) ggX5_digest_X5_mix
set_option maxRecDepth 20000 in
theorem ggX5_digest_X5_misplaced : GoodIn wsX5_digest wsX5_misplaced := goodIn_r _ [20, 2, 21, 22, 23, 24, 25, 26, 27, 28, 29, 30, 31, 32, 118, 119, 120, 121, 122, 123, 124, 125, 126, 127, 128, 129, 130, 131, 132, 133, 134] (by decide +kernel) (by decide +kernel)
set_option maxRecDepth 20000 in
theorem gX5_digest_X5_misplaced : GoodIn wsX5_digest (wsV RX5 204 RX5 yX5_misplaced wsX5_misplaced) := goodIn_app (goodIn_of _ (by decide +kernel)) ggX5_digest_X5_misplaced
set_option maxRecDepth 20000 in
theorem ggX5_digest_X5_walked : GoodIn wsX5_digest wsX5_walked := goodIn_r _ [36, 2, 37, 118, 119, 120, 121, 122, 123, 124, 125, 126, 127, 128, 129, 130, 131, 132, 133, 134] (by decide +kernel) (by decide +kernel)
set_option maxRecDepth 20000 in
theorem gX5_digest_X5_walked : GoodIn wsX5_digest (wsV RX5 207 RX5 yX5_walked wsX5_walked) := goodIn_app (goodIn_of _ (by decide +kernel)) ggX5_digest_X5_walked
set_option maxRecDepth 20000 in
theorem ggX5_digest_X5_cost : GoodIn wsX5_digest wsX5_cost := goodIn_r _ [41, 2, 42, 43, 44, 24, 45, 26, 46, 32, 47, 48, 49, 50, 51, 52, 118, 119, 120, 121, 122, 123, 124, 125, 126, 127, 128, 129, 130, 131, 132, 133, 134] (by decide +kernel) (by decide +kernel)
set_option maxRecDepth 20000 in
theorem gX5_digest_X5_cost : GoodIn wsX5_digest (wsV RX5 210 RX5 yX5_cost wsX5_cost) := goodIn_app (goodIn_of _ (by decide +kernel)) ggX5_digest_X5_cost
set_option maxRecDepth 20000 in
theorem ggX5_digest_X5_steps : GoodIn wsX5_digest wsX5_steps := goodIn_r _ [56, 2, 57, 118, 119, 120, 121, 122, 123, 124, 125, 126, 127, 128, 129, 130, 131, 132, 133, 134] (by decide +kernel) (by decide +kernel)
set_option maxRecDepth 20000 in
theorem gX5_digest_X5_steps : GoodIn wsX5_digest (wsV RX5 213 RX5 yX5_steps wsX5_steps) := goodIn_app (goodIn_of _ (by decide +kernel)) ggX5_digest_X5_steps
set_option maxRecDepth 20000 in
theorem ggX5_digest_X5_bestGain : GoodIn wsX5_digest wsX5_bestGain := goodIn_r _ [61, 2, 62, 63, 64, 65, 66, 24, 67, 26, 68, 69, 70, 71, 72, 73, 27, 28, 29, 30, 31, 32, 74, 75, 76, 77, 78, 79, 80, 81, 82, 83, 84, 85, 86, 87, 88, 46, 47, 48, 49, 50, 51, 52, 89, 90, 91, 92, 93, 94, 95, 96, 97, 98, 99, 100, 101, 102, 103, 104, 105, 106, 107, 118, 119, 120, 121, 122, 123, 135, 136, 137, 138, 124, 125, 126, 127, 128, 129, 130, 131, 132, 133, 134] (by decide +kernel) (by decide +kernel)
set_option maxRecDepth 20000 in
theorem gX5_digest_X5_bestGain : GoodIn wsX5_digest (wsV RX5 216 RX5 yX5_bestGain wsX5_bestGain) := goodIn_app (goodIn_of _ (by decide +kernel)) ggX5_digest_X5_bestGain
set_option maxRecDepth 20000 in
theorem ggX5_digest_X3_freeRoom : GoodIn wsX5_digest wsX3_freeRoom := goodIn_r _ [82, 83, 84, 124, 125, 126, 127, 128, 129, 130, 131, 132, 133, 134] (by decide +kernel) (by decide +kernel)
set_option maxRecDepth 20000 in
theorem gX5_digest_X3_freeRoom : GoodIn wsX5_digest (wsV RX5 68 RX3 yX3_freeRoom wsX3_freeRoom) := goodIn_app (goodIn_of _ (by decide +kernel)) ggX5_digest_X3_freeRoom
set_option maxRecDepth 20000 in
theorem ggX5_digest_X3_weightOf : GoodIn wsX5_digest wsX3_weightOf := goodIn_r _ [50, 51, 52, 124, 125, 126, 127, 128, 129, 130, 131, 132, 133, 134] (by decide +kernel) (by decide +kernel)
set_option maxRecDepth 20000 in
theorem gX5_digest_X3_weightOf : GoodIn wsX5_digest (wsV RX5 104 RX3 yX3_weightOf wsX3_weightOf) := goodIn_app (goodIn_of _ (by decide +kernel)) ggX5_digest_X3_weightOf
set_option maxRecDepth 20000 in
theorem ggX5_digest_X3_walkOf : GoodIn wsX5_digest wsX3_walkOf := goodIn_r _ [113, 32, 46, 31, 27, 28, 29, 24, 30, 114, 115, 116, 117, 124, 125, 126, 127, 128, 129, 130, 131, 132, 133, 134] (by decide +kernel) (by decide +kernel)
set_option maxRecDepth 20000 in
theorem gX5_digest_X3_walkOf : GoodIn wsX5_digest (wsV RX5 159 RX3 yX3_walkOf wsX3_walkOf) := goodIn_app (goodIn_of _ (by decide +kernel)) ggX5_digest_X3_walkOf
theorem dX5_digest_0 : decode cX5_digest 0 = .ok (.ldc2_w 195, 3) := by decide +kernel
theorem dX5_digest_3 : decode cX5_digest 3 = .ok (.aload_n 0, 1) := by decide +kernel
theorem dX5_digest_4 : decode cX5_digest 4 = .ok (.invokevirtual 197, 3) := by decide +kernel
theorem dX5_digest_7 : decode cX5_digest 7 = .ok (.invokestatic 200, 3) := by decide +kernel
theorem dX5_digest_10 : decode cX5_digest 10 = .ok (.lstore_n 1, 1) := by decide +kernel
theorem dX5_digest_11 : decode cX5_digest 11 = .ok (.lload_n 1, 1) := by decide +kernel
theorem dX5_digest_12 : decode cX5_digest 12 = .ok (.aload_n 0, 1) := by decide +kernel
theorem dX5_digest_13 : decode cX5_digest 13 = .ok (.invokevirtual 204, 3) := by decide +kernel
theorem dX5_digest_16 : decode cX5_digest 16 = .ok (.invokestatic 200, 3) := by decide +kernel
theorem dX5_digest_19 : decode cX5_digest 19 = .ok (.lstore_n 1, 1) := by decide +kernel
theorem dX5_digest_20 : decode cX5_digest 20 = .ok (.lload_n 1, 1) := by decide +kernel
theorem dX5_digest_21 : decode cX5_digest 21 = .ok (.aload_n 0, 1) := by decide +kernel
theorem dX5_digest_22 : decode cX5_digest 22 = .ok (.invokevirtual 207, 3) := by decide +kernel
theorem dX5_digest_25 : decode cX5_digest 25 = .ok (.invokestatic 200, 3) := by decide +kernel
theorem dX5_digest_28 : decode cX5_digest 28 = .ok (.lstore_n 1, 1) := by decide +kernel
theorem dX5_digest_29 : decode cX5_digest 29 = .ok (.lload_n 1, 1) := by decide +kernel
theorem dX5_digest_30 : decode cX5_digest 30 = .ok (.aload_n 0, 1) := by decide +kernel
theorem dX5_digest_31 : decode cX5_digest 31 = .ok (.invokevirtual 210, 3) := by decide +kernel
theorem dX5_digest_34 : decode cX5_digest 34 = .ok (.invokestatic 200, 3) := by decide +kernel
theorem dX5_digest_37 : decode cX5_digest 37 = .ok (.lstore_n 1, 1) := by decide +kernel
theorem dX5_digest_38 : decode cX5_digest 38 = .ok (.lload_n 1, 1) := by decide +kernel
theorem dX5_digest_39 : decode cX5_digest 39 = .ok (.aload_n 0, 1) := by decide +kernel
theorem dX5_digest_40 : decode cX5_digest 40 = .ok (.invokevirtual 213, 3) := by decide +kernel
theorem dX5_digest_43 : decode cX5_digest 43 = .ok (.invokestatic 200, 3) := by decide +kernel
theorem dX5_digest_46 : decode cX5_digest 46 = .ok (.lstore_n 1, 1) := by decide +kernel
theorem dX5_digest_47 : decode cX5_digest 47 = .ok (.lload_n 1, 1) := by decide +kernel
theorem dX5_digest_48 : decode cX5_digest 48 = .ok (.aload_n 0, 1) := by decide +kernel
theorem dX5_digest_49 : decode cX5_digest 49 = .ok (.invokevirtual 216, 3) := by decide +kernel
theorem dX5_digest_52 : decode cX5_digest 52 = .ok (.invokestatic 200, 3) := by decide +kernel
theorem dX5_digest_55 : decode cX5_digest 55 = .ok (.lstore_n 1, 1) := by decide +kernel
theorem dX5_digest_56 : decode cX5_digest 56 = .ok (.iconst 0, 1) := by decide +kernel
theorem dX5_digest_57 : decode cX5_digest 57 = .ok (.istore_n 3, 1) := by decide +kernel
theorem dX5_digest_58 : decode cX5_digest 58 = .ok (.iload_n 3, 1) := by decide +kernel
theorem dX5_digest_59 : decode cX5_digest 59 = .ok (.bipush 6, 2) := by decide +kernel
theorem dX5_digest_61 : decode cX5_digest 61 = .ok (.if_icmp .ge 36, 3) := by decide +kernel
theorem dX5_digest_64 : decode cX5_digest 64 = .ok (.lload_n 1, 1) := by decide +kernel
theorem dX5_digest_65 : decode cX5_digest 65 = .ok (.aload_n 0, 1) := by decide +kernel
theorem dX5_digest_66 : decode cX5_digest 66 = .ok (.getfield 10, 3) := by decide +kernel
theorem dX5_digest_69 : decode cX5_digest 69 = .ok (.iload_n 3, 1) := by decide +kernel
theorem dX5_digest_70 : decode cX5_digest 70 = .ok (.invokevirtual 68, 3) := by decide +kernel
theorem dX5_digest_73 : decode cX5_digest 73 = .ok (.invokestatic 200, 3) := by decide +kernel
theorem dX5_digest_76 : decode cX5_digest 76 = .ok (.lstore_n 1, 1) := by decide +kernel
theorem dX5_digest_77 : decode cX5_digest 77 = .ok (.lload_n 1, 1) := by decide +kernel
theorem dX5_digest_78 : decode cX5_digest 78 = .ok (.aload_n 0, 1) := by decide +kernel
theorem dX5_digest_79 : decode cX5_digest 79 = .ok (.getfield 10, 3) := by decide +kernel
theorem dX5_digest_82 : decode cX5_digest 82 = .ok (.getfield 65, 3) := by decide +kernel
theorem dX5_digest_85 : decode cX5_digest 85 = .ok (.iload_n 3, 1) := by decide +kernel
theorem dX5_digest_86 : decode cX5_digest 86 = .ok (.iaload, 1) := by decide +kernel
theorem dX5_digest_87 : decode cX5_digest 87 = .ok (.invokestatic 200, 3) := by decide +kernel
theorem dX5_digest_90 : decode cX5_digest 90 = .ok (.lstore_n 1, 1) := by decide +kernel
theorem dX5_digest_91 : decode cX5_digest 91 = .ok (.iinc 3 1, 3) := by decide +kernel
theorem dX5_digest_94 : decode cX5_digest 94 = .ok (.goto (-36), 3) := by decide +kernel
theorem dX5_digest_97 : decode cX5_digest 97 = .ok (.iconst 0, 1) := by decide +kernel
theorem dX5_digest_98 : decode cX5_digest 98 = .ok (.istore_n 3, 1) := by decide +kernel
theorem dX5_digest_99 : decode cX5_digest 99 = .ok (.iload_n 3, 1) := by decide +kernel
theorem dX5_digest_100 : decode cX5_digest 100 = .ok (.aload_n 0, 1) := by decide +kernel
theorem dX5_digest_101 : decode cX5_digest 101 = .ok (.getfield 10, 3) := by decide +kernel
theorem dX5_digest_104 : decode cX5_digest 104 = .ok (.getfield 91, 3) := by decide +kernel
theorem dX5_digest_107 : decode cX5_digest 107 = .ok (.if_icmp .ge 77, 3) := by decide +kernel
theorem dX5_digest_110 : decode cX5_digest 110 = .ok (.lload_n 1, 1) := by decide +kernel
theorem dX5_digest_111 : decode cX5_digest 111 = .ok (.aload_n 0, 1) := by decide +kernel
theorem dX5_digest_112 : decode cX5_digest 112 = .ok (.getfield 10, 3) := by decide +kernel
theorem dX5_digest_115 : decode cX5_digest 115 = .ok (.getfield 95, 3) := by decide +kernel
theorem dX5_digest_118 : decode cX5_digest 118 = .ok (.iload_n 3, 1) := by decide +kernel
theorem dX5_digest_119 : decode cX5_digest 119 = .ok (.iaload, 1) := by decide +kernel
theorem dX5_digest_120 : decode cX5_digest 120 = .ok (.invokestatic 200, 3) := by decide +kernel
theorem dX5_digest_123 : decode cX5_digest 123 = .ok (.lstore_n 1, 1) := by decide +kernel
theorem dX5_digest_124 : decode cX5_digest 124 = .ok (.lload_n 1, 1) := by decide +kernel
theorem dX5_digest_125 : decode cX5_digest 125 = .ok (.aload_n 0, 1) := by decide +kernel
theorem dX5_digest_126 : decode cX5_digest 126 = .ok (.getfield 10, 3) := by decide +kernel
theorem dX5_digest_129 : decode cX5_digest 129 = .ok (.getfield 98, 3) := by decide +kernel
theorem dX5_digest_132 : decode cX5_digest 132 = .ok (.iload_n 3, 1) := by decide +kernel
theorem dX5_digest_133 : decode cX5_digest 133 = .ok (.iaload, 1) := by decide +kernel
theorem dX5_digest_134 : decode cX5_digest 134 = .ok (.invokestatic 200, 3) := by decide +kernel
theorem dX5_digest_137 : decode cX5_digest 137 = .ok (.lstore_n 1, 1) := by decide +kernel
theorem dX5_digest_138 : decode cX5_digest 138 = .ok (.lload_n 1, 1) := by decide +kernel
theorem dX5_digest_139 : decode cX5_digest 139 = .ok (.aload_n 0, 1) := by decide +kernel
theorem dX5_digest_140 : decode cX5_digest 140 = .ok (.getfield 10, 3) := by decide +kernel
theorem dX5_digest_143 : decode cX5_digest 143 = .ok (.getfield 101, 3) := by decide +kernel
theorem dX5_digest_146 : decode cX5_digest 146 = .ok (.iload_n 3, 1) := by decide +kernel
theorem dX5_digest_147 : decode cX5_digest 147 = .ok (.iaload, 1) := by decide +kernel
theorem dX5_digest_148 : decode cX5_digest 148 = .ok (.invokestatic 200, 3) := by decide +kernel
theorem dX5_digest_151 : decode cX5_digest 151 = .ok (.lstore_n 1, 1) := by decide +kernel
theorem dX5_digest_152 : decode cX5_digest 152 = .ok (.lload_n 1, 1) := by decide +kernel
theorem dX5_digest_153 : decode cX5_digest 153 = .ok (.aload_n 0, 1) := by decide +kernel
theorem dX5_digest_154 : decode cX5_digest 154 = .ok (.getfield 10, 3) := by decide +kernel
theorem dX5_digest_157 : decode cX5_digest 157 = .ok (.iload_n 3, 1) := by decide +kernel
theorem dX5_digest_158 : decode cX5_digest 158 = .ok (.invokevirtual 104, 3) := by decide +kernel
theorem dX5_digest_161 : decode cX5_digest 161 = .ok (.invokestatic 200, 3) := by decide +kernel
theorem dX5_digest_164 : decode cX5_digest 164 = .ok (.lstore_n 1, 1) := by decide +kernel
theorem dX5_digest_165 : decode cX5_digest 165 = .ok (.lload_n 1, 1) := by decide +kernel
theorem dX5_digest_166 : decode cX5_digest 166 = .ok (.aload_n 0, 1) := by decide +kernel
theorem dX5_digest_167 : decode cX5_digest 167 = .ok (.getfield 10, 3) := by decide +kernel
theorem dX5_digest_170 : decode cX5_digest 170 = .ok (.iload_n 3, 1) := by decide +kernel
theorem dX5_digest_171 : decode cX5_digest 171 = .ok (.invokevirtual 159, 3) := by decide +kernel
theorem dX5_digest_174 : decode cX5_digest 174 = .ok (.invokestatic 200, 3) := by decide +kernel
theorem dX5_digest_177 : decode cX5_digest 177 = .ok (.lstore_n 1, 1) := by decide +kernel
theorem dX5_digest_178 : decode cX5_digest 178 = .ok (.iinc 3 1, 3) := by decide +kernel
theorem dX5_digest_181 : decode cX5_digest 181 = .ok (.goto (-82), 3) := by decide +kernel
theorem dX5_digest_184 : decode cX5_digest 184 = .ok (.lload_n 1, 1) := by decide +kernel
theorem dX5_digest_185 : decode cX5_digest 185 = .ok (.lreturn, 1) := by decide +kernel
theorem dX5_mix_0 : decode cX5_mix 0 = .ok (.ldc2_w 219, 3) := by decide +kernel
theorem dX5_mix_3 : decode cX5_mix 3 = .ok (.lload_n 0, 1) := by decide +kernel
theorem dX5_mix_4 : decode cX5_mix 4 = .ok (.lmul, 1) := by decide +kernel
theorem dX5_mix_5 : decode cX5_mix 5 = .ok (.iload_n 2, 1) := by decide +kernel
theorem dX5_mix_6 : decode cX5_mix 6 = .ok (.i2l, 1) := by decide +kernel
theorem dX5_mix_7 : decode cX5_mix 7 = .ok (.ladd, 1) := by decide +kernel
theorem dX5_mix_8 : decode cX5_mix 8 = .ok (.lreturn, 1) := by decide +kernel
theorem dX5_requireShelf_0 : decode cX5_requireShelf 0 = .ok (.iload_n 0, 1) := by decide +kernel
theorem dX5_requireShelf_1 : decode cX5_requireShelf 1 = .ok (.ifCond .lt 9, 3) := by decide +kernel
theorem dX5_requireShelf_4 : decode cX5_requireShelf 4 = .ok (.iload_n 0, 1) := by decide +kernel
theorem dX5_requireShelf_5 : decode cX5_requireShelf 5 = .ok (.bipush 6, 2) := by decide +kernel
theorem dX5_requireShelf_7 : decode cX5_requireShelf 7 = .ok (.if_icmp .lt 13, 3) := by decide +kernel
theorem dX5_requireShelf_10 : decode cX5_requireShelf 10 = .ok (.new 221, 3) := by decide +kernel
theorem dX5_requireShelf_13 : decode cX5_requireShelf 13 = .ok (.dup, 1) := by decide +kernel
theorem dX5_requireShelf_14 : decode cX5_requireShelf 14 = .ok (.ldc 223, 2) := by decide +kernel
theorem dX5_requireShelf_16 : decode cX5_requireShelf 16 = .ok (.invokespecial 225, 3) := by decide +kernel
theorem dX5_requireShelf_19 : decode cX5_requireShelf 19 = .ok (.athrow, 1) := by decide +kernel
theorem dX5_requireShelf_20 : decode cX5_requireShelf 20 = .ok (.return_, 1) := by decide +kernel
set_option maxRecDepth 20000 in
theorem ggX5_requireRecord_X3_hasRecord : GoodIn wsX5_requireRecord wsX3_hasRecord := goodIn_r _ [8, 9, 16, 17, 18, 19, 20, 21, 22, 23, 24, 25, 26] (by decide +kernel) (by decide +kernel)
set_option maxRecDepth 20000 in
theorem gX5_requireRecord_X3_hasRecord : GoodIn wsX5_requireRecord (wsV RX5 226 RX3 yX3_hasRecord wsX3_hasRecord) := goodIn_app (goodIn_of _ (by decide +kernel)) ggX5_requireRecord_X3_hasRecord
theorem dX5_requireRecord_0 : decode cX5_requireRecord 0 = .ok (.aload_n 0, 1) := by decide +kernel
theorem dX5_requireRecord_1 : decode cX5_requireRecord 1 = .ok (.getfield 10, 3) := by decide +kernel
theorem dX5_requireRecord_4 : decode cX5_requireRecord 4 = .ok (.iload_n 1, 1) := by decide +kernel
theorem dX5_requireRecord_5 : decode cX5_requireRecord 5 = .ok (.invokevirtual 226, 3) := by decide +kernel
theorem dX5_requireRecord_8 : decode cX5_requireRecord 8 = .ok (.ifCond .ne 13, 3) := by decide +kernel
theorem dX5_requireRecord_11 : decode cX5_requireRecord 11 = .ok (.new 221, 3) := by decide +kernel
theorem dX5_requireRecord_14 : decode cX5_requireRecord 14 = .ok (.dup, 1) := by decide +kernel
theorem dX5_requireRecord_15 : decode cX5_requireRecord 15 = .ok (.ldc 229, 2) := by decide +kernel
theorem dX5_requireRecord_17 : decode cX5_requireRecord 17 = .ok (.invokespecial 225, 3) := by decide +kernel
theorem dX5_requireRecord_20 : decode cX5_requireRecord 20 = .ok (.athrow, 1) := by decide +kernel
theorem dX5_requireRecord_21 : decode cX5_requireRecord 21 = .ok (.return_, 1) := by decide +kernel
theorem dX5_requireWidth_0 : decode cX5_requireWidth 0 = .ok (.iload_n 0, 1) := by decide +kernel
theorem dX5_requireWidth_1 : decode cX5_requireWidth 1 = .ok (.iconst 1, 1) := by decide +kernel
theorem dX5_requireWidth_2 : decode cX5_requireWidth 2 = .ok (.if_icmp .lt 9, 3) := by decide +kernel
theorem dX5_requireWidth_5 : decode cX5_requireWidth 5 = .ok (.iload_n 0, 1) := by decide +kernel
theorem dX5_requireWidth_6 : decode cX5_requireWidth 6 = .ok (.bipush 30, 2) := by decide +kernel
theorem dX5_requireWidth_8 : decode cX5_requireWidth 8 = .ok (.if_icmp .le 13, 3) := by decide +kernel
theorem dX5_requireWidth_11 : decode cX5_requireWidth 11 = .ok (.new 41, 3) := by decide +kernel
theorem dX5_requireWidth_14 : decode cX5_requireWidth 14 = .ok (.dup, 1) := by decide +kernel
theorem dX5_requireWidth_15 : decode cX5_requireWidth 15 = .ok (.ldc 231, 2) := by decide +kernel
theorem dX5_requireWidth_17 : decode cX5_requireWidth 17 = .ok (.invokespecial 45, 3) := by decide +kernel
theorem dX5_requireWidth_20 : decode cX5_requireWidth 20 = .ok (.athrow, 1) := by decide +kernel
theorem dX5_requireWidth_21 : decode cX5_requireWidth 21 = .ok (.return_, 1) := by decide +kernel
theorem dX5_requireSteps_0 : decode cX5_requireSteps 0 = .ok (.iload_n 0, 1) := by decide +kernel
theorem dX5_requireSteps_1 : decode cX5_requireSteps 1 = .ok (.iconst 1, 1) := by decide +kernel
theorem dX5_requireSteps_2 : decode cX5_requireSteps 2 = .ok (.if_icmp .lt 9, 3) := by decide +kernel
theorem dX5_requireSteps_5 : decode cX5_requireSteps 5 = .ok (.iload_n 0, 1) := by decide +kernel
theorem dX5_requireSteps_6 : decode cX5_requireSteps 6 = .ok (.bipush 20, 2) := by decide +kernel
theorem dX5_requireSteps_8 : decode cX5_requireSteps 8 = .ok (.if_icmp .le 13, 3) := by decide +kernel
theorem dX5_requireSteps_11 : decode cX5_requireSteps 11 = .ok (.new 41, 3) := by decide +kernel
theorem dX5_requireSteps_14 : decode cX5_requireSteps 14 = .ok (.dup, 1) := by decide +kernel
theorem dX5_requireSteps_15 : decode cX5_requireSteps 15 = .ok (.ldc 233, 2) := by decide +kernel
theorem dX5_requireSteps_17 : decode cX5_requireSteps 17 = .ok (.invokespecial 45, 3) := by decide +kernel
theorem dX5_requireSteps_20 : decode cX5_requireSteps 20 = .ok (.athrow, 1) := by decide +kernel
theorem dX5_requireSteps_21 : decode cX5_requireSteps 21 = .ok (.return_, 1) := by decide +kernel
set_option maxRecDepth 20000 in
theorem ggX5_saveState_X5_discardOldestState : GoodIn wsX5_saveState wsX5_discardOldestState := goodIn_r _ [8, 2, 1, 29, 30, 31, 32, 33, 34] (by decide +kernel) (by decide +kernel)
set_option maxRecDepth 20000 in
theorem gX5_saveState_X5_discardOldestState : GoodIn wsX5_saveState (wsV RX5 235 RX5 yX5_discardOldestState wsX5_discardOldestState) := goodIn_app (goodIn_of _ (by decide +kernel)) ggX5_saveState_X5_discardOldestState
set_option maxRecDepth 20000 in
theorem ggX5_saveState_X3_copyFrom : GoodIn wsX5_saveState wsX3_copyFrom := goodIn_r _ [13, 14, 15, 16, 17, 18, 19, 20, 21, 22, 23, 24, 25, 26, 27, 28, 35, 36, 37, 38, 39, 40, 41, 42, 43, 44, 45] (by decide +kernel) (by decide +kernel)
set_option maxRecDepth 20000 in
theorem gX5_saveState_X3_copyFrom : GoodIn wsX5_saveState (wsV RX5 155 RX3 yX3_copyFrom wsX3_copyFrom) := goodIn_app (goodIn_of _ (by decide +kernel)) ggX5_saveState_X3_copyFrom
theorem dX5_saveState_0 : decode cX5_saveState 0 = .ok (.aload_n 0, 1) := by decide +kernel
theorem dX5_saveState_1 : decode cX5_saveState 1 = .ok (.getfield 190, 3) := by decide +kernel
theorem dX5_saveState_4 : decode cX5_saveState 4 = .ok (.bipush 6, 2) := by decide +kernel
theorem dX5_saveState_6 : decode cX5_saveState 6 = .ok (.if_icmp .ne 7, 3) := by decide +kernel
theorem dX5_saveState_9 : decode cX5_saveState 9 = .ok (.aload_n 0, 1) := by decide +kernel
theorem dX5_saveState_10 : decode cX5_saveState 10 = .ok (.invokevirtual 235, 3) := by decide +kernel
theorem dX5_saveState_13 : decode cX5_saveState 13 = .ok (.aload_n 0, 1) := by decide +kernel
theorem dX5_saveState_14 : decode cX5_saveState 14 = .ok (.getfield 33, 3) := by decide +kernel
theorem dX5_saveState_17 : decode cX5_saveState 17 = .ok (.aload_n 0, 1) := by decide +kernel
theorem dX5_saveState_18 : decode cX5_saveState 18 = .ok (.getfield 190, 3) := by decide +kernel
theorem dX5_saveState_21 : decode cX5_saveState 21 = .ok (.aaload, 1) := by decide +kernel
theorem dX5_saveState_22 : decode cX5_saveState 22 = .ok (.aload_n 0, 1) := by decide +kernel
theorem dX5_saveState_23 : decode cX5_saveState 23 = .ok (.getfield 10, 3) := by decide +kernel
theorem dX5_saveState_26 : decode cX5_saveState 26 = .ok (.invokevirtual 155, 3) := by decide +kernel
theorem dX5_saveState_29 : decode cX5_saveState 29 = .ok (.aload_n 0, 1) := by decide +kernel
theorem dX5_saveState_30 : decode cX5_saveState 30 = .ok (.dup, 1) := by decide +kernel
theorem dX5_saveState_31 : decode cX5_saveState 31 = .ok (.getfield 190, 3) := by decide +kernel
theorem dX5_saveState_34 : decode cX5_saveState 34 = .ok (.iconst 1, 1) := by decide +kernel
theorem dX5_saveState_35 : decode cX5_saveState 35 = .ok (.iadd, 1) := by decide +kernel
theorem dX5_saveState_36 : decode cX5_saveState 36 = .ok (.putfield 190, 3) := by decide +kernel
theorem dX5_saveState_39 : decode cX5_saveState 39 = .ok (.return_, 1) := by decide +kernel
theorem dX5_discardOldestState_0 : decode cX5_discardOldestState 0 = .ok (.aload_n 0, 1) := by decide +kernel
theorem dX5_discardOldestState_1 : decode cX5_discardOldestState 1 = .ok (.getfield 33, 3) := by decide +kernel
theorem dX5_discardOldestState_4 : decode cX5_discardOldestState 4 = .ok (.iconst 0, 1) := by decide +kernel
theorem dX5_discardOldestState_5 : decode cX5_discardOldestState 5 = .ok (.aaload, 1) := by decide +kernel
theorem dX5_discardOldestState_6 : decode cX5_discardOldestState 6 = .ok (.astore_n 1, 1) := by decide +kernel
theorem dX5_discardOldestState_7 : decode cX5_discardOldestState 7 = .ok (.iconst 1, 1) := by decide +kernel
theorem dX5_discardOldestState_8 : decode cX5_discardOldestState 8 = .ok (.istore_n 2, 1) := by decide +kernel
theorem dX5_discardOldestState_9 : decode cX5_discardOldestState 9 = .ok (.iload_n 2, 1) := by decide +kernel
theorem dX5_discardOldestState_10 : decode cX5_discardOldestState 10 = .ok (.bipush 6, 2) := by decide +kernel
theorem dX5_discardOldestState_12 : decode cX5_discardOldestState 12 = .ok (.if_icmp .ge 23, 3) := by decide +kernel
theorem dX5_discardOldestState_15 : decode cX5_discardOldestState 15 = .ok (.aload_n 0, 1) := by decide +kernel
theorem dX5_discardOldestState_16 : decode cX5_discardOldestState 16 = .ok (.getfield 33, 3) := by decide +kernel
theorem dX5_discardOldestState_19 : decode cX5_discardOldestState 19 = .ok (.iload_n 2, 1) := by decide +kernel
theorem dX5_discardOldestState_20 : decode cX5_discardOldestState 20 = .ok (.iconst 1, 1) := by decide +kernel
theorem dX5_discardOldestState_21 : decode cX5_discardOldestState 21 = .ok (.isub, 1) := by decide +kernel
theorem dX5_discardOldestState_22 : decode cX5_discardOldestState 22 = .ok (.aload_n 0, 1) := by decide +kernel
theorem dX5_discardOldestState_23 : decode cX5_discardOldestState 23 = .ok (.getfield 33, 3) := by decide +kernel
theorem dX5_discardOldestState_26 : decode cX5_discardOldestState 26 = .ok (.iload_n 2, 1) := by decide +kernel
theorem dX5_discardOldestState_27 : decode cX5_discardOldestState 27 = .ok (.aaload, 1) := by decide +kernel
theorem dX5_discardOldestState_28 : decode cX5_discardOldestState 28 = .ok (.aastore, 1) := by decide +kernel
theorem dX5_discardOldestState_29 : decode cX5_discardOldestState 29 = .ok (.iinc 2 1, 3) := by decide +kernel
theorem dX5_discardOldestState_32 : decode cX5_discardOldestState 32 = .ok (.goto (-23), 3) := by decide +kernel
theorem dX5_discardOldestState_35 : decode cX5_discardOldestState 35 = .ok (.aload_n 0, 1) := by decide +kernel
theorem dX5_discardOldestState_36 : decode cX5_discardOldestState 36 = .ok (.getfield 33, 3) := by decide +kernel
theorem dX5_discardOldestState_39 : decode cX5_discardOldestState 39 = .ok (.iconst 5, 1) := by decide +kernel
theorem dX5_discardOldestState_40 : decode cX5_discardOldestState 40 = .ok (.aload_n 1, 1) := by decide +kernel
theorem dX5_discardOldestState_41 : decode cX5_discardOldestState 41 = .ok (.aastore, 1) := by decide +kernel
theorem dX5_discardOldestState_42 : decode cX5_discardOldestState 42 = .ok (.aload_n 0, 1) := by decide +kernel
theorem dX5_discardOldestState_43 : decode cX5_discardOldestState 43 = .ok (.iconst 5, 1) := by decide +kernel
theorem dX5_discardOldestState_44 : decode cX5_discardOldestState 44 = .ok (.putfield 190, 3) := by decide +kernel
theorem dX5_discardOldestState_47 : decode cX5_discardOldestState 47 = .ok (.return_, 1) := by decide +kernel
