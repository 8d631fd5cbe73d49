theorem dX6_init_0 : decode cX6_init 0 = .ok (.aload_n 0, 1) := by decide +kernel
theorem dX6_init_1 : decode cX6_init 1 = .ok (.invokespecial 1, 3) := by decide +kernel
theorem dX6_init_4 : decode cX6_init 4 = .ok (.aload_n 0, 1) := by decide +kernel
theorem dX6_init_5 : decode cX6_init 5 = .ok (.bipush 96, 2) := by decide +kernel
theorem dX6_init_7 : decode cX6_init 7 = .ok (.newarray .int, 2) := by decide +kernel
theorem dX6_init_9 : decode cX6_init 9 = .ok (.putfield 7, 3) := by decide +kernel
theorem dX6_init_12 : decode cX6_init 12 = .ok (.aload_n 0, 1) := by decide +kernel
theorem dX6_init_13 : decode cX6_init 13 = .ok (.bipush 96, 2) := by decide +kernel
theorem dX6_init_15 : decode cX6_init 15 = .ok (.newarray .int, 2) := by decide +kernel
theorem dX6_init_17 : decode cX6_init 17 = .ok (.putfield 13, 3) := by decide +kernel
theorem dX6_init_20 : decode cX6_init 20 = .ok (.aload_n 0, 1) := by decide +kernel
theorem dX6_init_21 : decode cX6_init 21 = .ok (.sipush 576, 3) := by decide +kernel
theorem dX6_init_24 : decode cX6_init 24 = .ok (.newarray .int, 2) := by decide +kernel
theorem dX6_init_26 : decode cX6_init 26 = .ok (.putfield 16, 3) := by decide +kernel
theorem dX6_init_29 : decode cX6_init 29 = .ok (.aload_n 0, 1) := by decide +kernel
theorem dX6_init_30 : decode cX6_init 30 = .ok (.bipush 60, 2) := by decide +kernel
theorem dX6_init_32 : decode cX6_init 32 = .ok (.newarray .int, 2) := by decide +kernel
theorem dX6_init_34 : decode cX6_init 34 = .ok (.putfield 19, 3) := by decide +kernel
theorem dX6_init_37 : decode cX6_init 37 = .ok (.aload_n 0, 1) := by decide +kernel
theorem dX6_init_38 : decode cX6_init 38 = .ok (.bipush 48, 2) := by decide +kernel
theorem dX6_init_40 : decode cX6_init 40 = .ok (.newarray .int, 2) := by decide +kernel
theorem dX6_init_42 : decode cX6_init 42 = .ok (.putfield 22, 3) := by decide +kernel
theorem dX6_init_45 : decode cX6_init 45 = .ok (.aload_n 0, 1) := by decide +kernel
theorem dX6_init_46 : decode cX6_init 46 = .ok (.iconst 0, 1) := by decide +kernel
theorem dX6_init_47 : decode cX6_init 47 = .ok (.putfield 25, 3) := by decide +kernel
theorem dX6_init_50 : decode cX6_init 50 = .ok (.iconst 0, 1) := by decide +kernel
theorem dX6_init_51 : decode cX6_init 51 = .ok (.istore_n 1, 1) := by decide +kernel
theorem dX6_init_52 : decode cX6_init 52 = .ok (.iload_n 1, 1) := by decide +kernel
theorem dX6_init_53 : decode cX6_init 53 = .ok (.bipush 6, 2) := by decide +kernel
theorem dX6_init_55 : decode cX6_init 55 = .ok (.if_icmp .ge 35, 3) := by decide +kernel
theorem dX6_init_58 : decode cX6_init 58 = .ok (.aload_n 0, 1) := by decide +kernel
theorem dX6_init_59 : decode cX6_init 59 = .ok (.getfield 7, 3) := by decide +kernel
theorem dX6_init_62 : decode cX6_init 62 = .ok (.iconst 3, 1) := by decide +kernel
theorem dX6_init_63 : decode cX6_init 63 = .ok (.iload_n 1, 1) := by decide +kernel
theorem dX6_init_64 : decode cX6_init 64 = .ok (.iadd, 1) := by decide +kernel
theorem dX6_init_65 : decode cX6_init 65 = .ok (.bipush 30, 2) := by decide +kernel
theorem dX6_init_67 : decode cX6_init 67 = .ok (.iastore, 1) := by decide +kernel
theorem dX6_init_68 : decode cX6_init 68 = .ok (.aload_n 0, 1) := by decide +kernel
theorem dX6_init_69 : decode cX6_init 69 = .ok (.getfield 7, 3) := by decide +kernel
theorem dX6_init_72 : decode cX6_init 72 = .ok (.bipush 9, 2) := by decide +kernel
theorem dX6_init_74 : decode cX6_init 74 = .ok (.iload_n 1, 1) := by decide +kernel
theorem dX6_init_75 : decode cX6_init 75 = .ok (.iadd, 1) := by decide +kernel
theorem dX6_init_76 : decode cX6_init 76 = .ok (.bipush 10, 2) := by decide +kernel
theorem dX6_init_78 : decode cX6_init 78 = .ok (.bipush 10, 2) := by decide +kernel
theorem dX6_init_80 : decode cX6_init 80 = .ok (.iload_n 1, 1) := by decide +kernel
theorem dX6_init_81 : decode cX6_init 81 = .ok (.imul, 1) := by decide +kernel
theorem dX6_init_82 : decode cX6_init 82 = .ok (.iadd, 1) := by decide +kernel
theorem dX6_init_83 : decode cX6_init 83 = .ok (.iastore, 1) := by decide +kernel
theorem dX6_init_84 : decode cX6_init 84 = .ok (.iinc 1 1, 3) := by decide +kernel
theorem dX6_init_87 : decode cX6_init 87 = .ok (.goto (-35), 3) := by decide +kernel
theorem dX6_init_90 : decode cX6_init 90 = .ok (.return_, 1) := by decide +kernel
theorem dX6_thrown_0 : decode cX6_thrown 0 = .ok (.aload_n 0, 1) := by decide +kernel
theorem dX6_thrown_1 : decode cX6_thrown 1 = .ok (.getfield 25, 3) := by decide +kernel
theorem dX6_thrown_4 : decode cX6_thrown 4 = .ok (.ireturn, 1) := by decide +kernel
theorem dX6_in_0 : decode cX6_in 0 = .ok (.iload_n 0, 1) := by decide +kernel
theorem dX6_in_1 : decode cX6_in 1 = .ok (.iload_n 1, 1) := by decide +kernel
theorem dX6_in_2 : decode cX6_in 2 = .ok (.if_icmp .lt 12, 3) := by decide +kernel
theorem dX6_in_5 : decode cX6_in 5 = .ok (.iload_n 0, 1) := by decide +kernel
theorem dX6_in_6 : decode cX6_in 6 = .ok (.iload_n 2, 1) := by decide +kernel
theorem dX6_in_7 : decode cX6_in 7 = .ok (.if_icmp .gt 7, 3) := by decide +kernel
theorem dX6_in_10 : decode cX6_in 10 = .ok (.iconst 1, 1) := by decide +kernel
theorem dX6_in_11 : decode cX6_in 11 = .ok (.goto 4, 3) := by decide +kernel
theorem dX6_in_14 : decode cX6_in 14 = .ok (.iconst 0, 1) := by decide +kernel
theorem dX6_in_15 : decode cX6_in 15 = .ok (.ireturn, 1) := by decide +kernel
theorem dX6_fails_0 : decode cX6_fails 0 = .ok (.aload_n 0, 1) := by decide +kernel
theorem dX6_fails_1 : decode cX6_fails 1 = .ok (.iload_n 1, 1) := by decide +kernel
theorem dX6_fails_2 : decode cX6_fails 2 = .ok (.putfield 25, 3) := by decide +kernel
theorem dX6_fails_5 : decode cX6_fails 5 = .ok (.iconst 0, 1) := by decide +kernel
theorem dX6_fails_6 : decode cX6_fails 6 = .ok (.ireturn, 1) := by decide +kernel
set_option maxRecDepth 20000 in
theorem ggX6_isShelf_X6_in : GoodIn wsX6_isShelf wsX6_in := goodIn_r _ [4] (by decide +kernel) (by decide +kernel)
set_option maxRecDepth 20000 in
theorem gX6_isShelf_X6_in : GoodIn wsX6_isShelf (va_wsS RX6 29 yX6_in wsX6_in) := goodIn_app (goodIn_of _ (by decide +kernel)) ggX6_isShelf_X6_in
theorem dX6_isShelf_0 : decode cX6_isShelf 0 = .ok (.iload_n 0, 1) := by decide +kernel
theorem dX6_isShelf_1 : decode cX6_isShelf 1 = .ok (.iconst 0, 1) := by decide +kernel
theorem dX6_isShelf_2 : decode cX6_isShelf 2 = .ok (.iconst 5, 1) := by decide +kernel
theorem dX6_isShelf_3 : decode cX6_isShelf 3 = .ok (.invokestatic 29, 3) := by decide +kernel
theorem dX6_isShelf_6 : decode cX6_isShelf 6 = .ok (.ireturn, 1) := by decide +kernel
set_option maxRecDepth 20000 in
theorem ggX6_isRecord_X6_in : GoodIn wsX6_isRecord wsX6_in := goodIn_r _ [5] (by decide +kernel) (by decide +kernel)
set_option maxRecDepth 20000 in
theorem gX6_isRecord_X6_in : GoodIn wsX6_isRecord (va_wsS RX6 29 yX6_in wsX6_in) := goodIn_app (goodIn_of _ (by decide +kernel)) ggX6_isRecord_X6_in
theorem dX6_isRecord_0 : decode cX6_isRecord 0 = .ok (.iload_n 1, 1) := by decide +kernel
theorem dX6_isRecord_1 : decode cX6_isRecord 1 = .ok (.iconst 0, 1) := by decide +kernel
theorem dX6_isRecord_2 : decode cX6_isRecord 2 = .ok (.aload_n 0, 1) := by decide +kernel
theorem dX6_isRecord_3 : decode cX6_isRecord 3 = .ok (.getfield 7, 3) := by decide +kernel
theorem dX6_isRecord_6 : decode cX6_isRecord 6 = .ok (.iconst 0, 1) := by decide +kernel
theorem dX6_isRecord_7 : decode cX6_isRecord 7 = .ok (.iaload, 1) := by decide +kernel
theorem dX6_isRecord_8 : decode cX6_isRecord 8 = .ok (.iconst 1, 1) := by decide +kernel
theorem dX6_isRecord_9 : decode cX6_isRecord 9 = .ok (.isub, 1) := by decide +kernel
theorem dX6_isRecord_10 : decode cX6_isRecord 10 = .ok (.invokestatic 29, 3) := by decide +kernel
theorem dX6_isRecord_13 : decode cX6_isRecord 13 = .ok (.ireturn, 1) := by decide +kernel
theorem dX6_of_0 : decode cX6_of 0 = .ok (.aload_n 0, 1) := by decide +kernel
theorem dX6_of_1 : decode cX6_of 1 = .ok (.getfield 7, 3) := by decide +kernel
theorem dX6_of_4 : decode cX6_of 4 = .ok (.bipush 15, 2) := by decide +kernel
theorem dX6_of_6 : decode cX6_of 6 = .ok (.iconst 5, 1) := by decide +kernel
theorem dX6_of_7 : decode cX6_of 7 = .ok (.iload_n 1, 1) := by decide +kernel
theorem dX6_of_8 : decode cX6_of 8 = .ok (.imul, 1) := by decide +kernel
theorem dX6_of_9 : decode cX6_of 9 = .ok (.iadd, 1) := by decide +kernel
theorem dX6_of_10 : decode cX6_of 10 = .ok (.iload_n 2, 1) := by decide +kernel
theorem dX6_of_11 : decode cX6_of 11 = .ok (.iadd, 1) := by decide +kernel
theorem dX6_of_12 : decode cX6_of 12 = .ok (.iaload, 1) := by decide +kernel
theorem dX6_of_13 : decode cX6_of 13 = .ok (.ireturn, 1) := by decide +kernel
theorem dX6_lay_0 : decode cX6_lay 0 = .ok (.aload_n 0, 1) := by decide +kernel
theorem dX6_lay_1 : decode cX6_lay 1 = .ok (.getfield 7, 3) := by decide +kernel
theorem dX6_lay_4 : decode cX6_lay 4 = .ok (.bipush 15, 2) := by decide +kernel
theorem dX6_lay_6 : decode cX6_lay 6 = .ok (.iconst 5, 1) := by decide +kernel
theorem dX6_lay_7 : decode cX6_lay 7 = .ok (.iload_n 1, 1) := by decide +kernel
theorem dX6_lay_8 : decode cX6_lay 8 = .ok (.imul, 1) := by decide +kernel
theorem dX6_lay_9 : decode cX6_lay 9 = .ok (.iadd, 1) := by decide +kernel
theorem dX6_lay_10 : decode cX6_lay 10 = .ok (.iload_n 2, 1) := by decide +kernel
theorem dX6_lay_11 : decode cX6_lay 11 = .ok (.iadd, 1) := by decide +kernel
theorem dX6_lay_12 : decode cX6_lay 12 = .ok (.iload_n 3, 1) := by decide +kernel
theorem dX6_lay_13 : decode cX6_lay 13 = .ok (.iastore, 1) := by decide +kernel
theorem dX6_lay_14 : decode cX6_lay 14 = .ok (.return_, 1) := by decide +kernel
theorem dX6_saves_0 : decode cX6_saves 0 = .ok (.aload_n 0, 1) := by decide +kernel
theorem dX6_saves_1 : decode cX6_saves 1 = .ok (.getfield 33, 3) := by decide +kernel
theorem dX6_saves_4 : decode cX6_saves 4 = .ok (.bipush 6, 2) := by decide +kernel
theorem dX6_saves_6 : decode cX6_saves 6 = .ok (.if_icmp .ne 43, 3) := by decide +kernel
theorem dX6_saves_9 : decode cX6_saves 9 = .ok (.iconst 0, 1) := by decide +kernel
theorem dX6_saves_10 : decode cX6_saves 10 = .ok (.istore_n 1, 1) := by decide +kernel
theorem dX6_saves_11 : decode cX6_saves 11 = .ok (.iload_n 1, 1) := by decide +kernel
theorem dX6_saves_12 : decode cX6_saves 12 = .ok (.sipush 480, 3) := by decide +kernel
theorem dX6_saves_15 : decode cX6_saves 15 = .ok (.if_icmp .ge 24, 3) := by decide +kernel
theorem dX6_saves_18 : decode cX6_saves 18 = .ok (.aload_n 0, 1) := by decide +kernel
theorem dX6_saves_19 : decode cX6_saves 19 = .ok (.getfield 16, 3) := by decide +kernel
theorem dX6_saves_22 : decode cX6_saves 22 = .ok (.iload_n 1, 1) := by decide +kernel
theorem dX6_saves_23 : decode cX6_saves 23 = .ok (.aload_n 0, 1) := by decide +kernel
theorem dX6_saves_24 : decode cX6_saves 24 = .ok (.getfield 16, 3) := by decide +kernel
theorem dX6_saves_27 : decode cX6_saves 27 = .ok (.iload_n 1, 1) := by decide +kernel
theorem dX6_saves_28 : decode cX6_saves 28 = .ok (.bipush 96, 2) := by decide +kernel
theorem dX6_saves_30 : decode cX6_saves 30 = .ok (.iadd, 1) := by decide +kernel
theorem dX6_saves_31 : decode cX6_saves 31 = .ok (.iaload, 1) := by decide +kernel
theorem dX6_saves_32 : decode cX6_saves 32 = .ok (.iastore, 1) := by decide +kernel
theorem dX6_saves_33 : decode cX6_saves 33 = .ok (.iinc 1 1, 3) := by decide +kernel
theorem dX6_saves_36 : decode cX6_saves 36 = .ok (.goto (-25), 3) := by decide +kernel
theorem dX6_saves_39 : decode cX6_saves 39 = .ok (.aload_n 0, 1) := by decide +kernel
theorem dX6_saves_40 : decode cX6_saves 40 = .ok (.dup, 1) := by decide +kernel
theorem dX6_saves_41 : decode cX6_saves 41 = .ok (.getfield 33, 3) := by decide +kernel
theorem dX6_saves_44 : decode cX6_saves 44 = .ok (.iconst 1, 1) := by decide +kernel
theorem dX6_saves_45 : decode cX6_saves 45 = .ok (.isub, 1) := by decide +kernel
theorem dX6_saves_46 : decode cX6_saves 46 = .ok (.putfield 33, 3) := by decide +kernel
theorem dX6_saves_49 : decode cX6_saves 49 = .ok (.iconst 0, 1) := by decide +kernel
theorem dX6_saves_50 : decode cX6_saves 50 = .ok (.istore_n 1, 1) := by decide +kernel
theorem dX6_saves_51 : decode cX6_saves 51 = .ok (.iload_n 1, 1) := by decide +kernel
theorem dX6_saves_52 : decode cX6_saves 52 = .ok (.bipush 96, 2) := by decide +kernel
theorem dX6_saves_54 : decode cX6_saves 54 = .ok (.if_icmp .ge 29, 3) := by decide +kernel
theorem dX6_saves_57 : decode cX6_saves 57 = .ok (.aload_n 0, 1) := by decide +kernel
theorem dX6_saves_58 : decode cX6_saves 58 = .ok (.getfield 16, 3) := by decide +kernel
theorem dX6_saves_61 : decode cX6_saves 61 = .ok (.bipush 96, 2) := by decide +kernel
theorem dX6_saves_63 : decode cX6_saves 63 = .ok (.aload_n 0, 1) := by decide +kernel
theorem dX6_saves_64 : decode cX6_saves 64 = .ok (.getfield 33, 3) := by decide +kernel
theorem dX6_saves_67 : decode cX6_saves 67 = .ok (.imul, 1) := by decide +kernel
theorem dX6_saves_68 : decode cX6_saves 68 = .ok (.iload_n 1, 1) := by decide +kernel
theorem dX6_saves_69 : decode cX6_saves 69 = .ok (.iadd, 1) := by decide +kernel
theorem dX6_saves_70 : decode cX6_saves 70 = .ok (.aload_n 0, 1) := by decide +kernel
theorem dX6_saves_71 : decode cX6_saves 71 = .ok (.getfield 7, 3) := by decide +kernel
theorem dX6_saves_74 : decode cX6_saves 74 = .ok (.iload_n 1, 1) := by decide +kernel
theorem dX6_saves_75 : decode cX6_saves 75 = .ok (.iaload, 1) := by decide +kernel
theorem dX6_saves_76 : decode cX6_saves 76 = .ok (.iastore, 1) := by decide +kernel
theorem dX6_saves_77 : decode cX6_saves 77 = .ok (.iinc 1 1, 3) := by decide +kernel
theorem dX6_saves_80 : decode cX6_saves 80 = .ok (.goto (-29), 3) := by decide +kernel
theorem dX6_saves_83 : decode cX6_saves 83 = .ok (.aload_n 0, 1) := by decide +kernel
theorem dX6_saves_84 : decode cX6_saves 84 = .ok (.dup, 1) := by decide +kernel
theorem dX6_saves_85 : decode cX6_saves 85 = .ok (.getfield 33, 3) := by decide +kernel
theorem dX6_saves_88 : decode cX6_saves 88 = .ok (.iconst 1, 1) := by decide +kernel
theorem dX6_saves_89 : decode cX6_saves 89 = .ok (.iadd, 1) := by decide +kernel
theorem dX6_saves_90 : decode cX6_saves 90 = .ok (.putfield 33, 3) := by decide +kernel
theorem dX6_saves_93 : decode cX6_saves 93 = .ok (.return_, 1) := by decide +kernel
set_option maxRecDepth 20000 in
theorem ggX6_taken_X6_of : GoodIn wsX6_taken wsX6_of := goodIn_r _ [6, 1, 7, 8, 9, 10, 11, 12, 13, 14, 15, 16, 17, 18, 19, 20, 21, 22] (by decide +kernel) (by decide +kernel)
set_option maxRecDepth 20000 in
theorem gX6_taken_X6_of : GoodIn wsX6_taken (wsV RX6 36 RX6 yX6_of wsX6_of) := goodIn_app (goodIn_of _ (by decide +kernel)) ggX6_taken_X6_of
theorem dX6_taken_0 : decode cX6_taken 0 = .ok (.iconst 0, 1) := by decide +kernel
theorem dX6_taken_1 : decode cX6_taken 1 = .ok (.istore_n 2, 1) := by decide +kernel
theorem dX6_taken_2 : decode cX6_taken 2 = .ok (.iconst 0, 1) := by decide +kernel
theorem dX6_taken_3 : decode cX6_taken 3 = .ok (.istore_n 3, 1) := by decide +kernel
theorem dX6_taken_4 : decode cX6_taken 4 = .ok (.iload_n 3, 1) := by decide +kernel
theorem dX6_taken_5 : decode cX6_taken 5 = .ok (.aload_n 0, 1) := by decide +kernel
theorem dX6_taken_6 : decode cX6_taken 6 = .ok (.getfield 7, 3) := by decide +kernel
theorem dX6_taken_9 : decode cX6_taken 9 = .ok (.iconst 0, 1) := by decide +kernel
theorem dX6_taken_10 : decode cX6_taken 10 = .ok (.iaload, 1) := by decide +kernel
theorem dX6_taken_11 : decode cX6_taken 11 = .ok (.if_icmp .ge 32, 3) := by decide +kernel
theorem dX6_taken_14 : decode cX6_taken 14 = .ok (.iload_n 2, 1) := by decide +kernel
theorem dX6_taken_15 : decode cX6_taken 15 = .ok (.aload_n 0, 1) := by decide +kernel
theorem dX6_taken_16 : decode cX6_taken 16 = .ok (.iload_n 3, 1) := by decide +kernel
theorem dX6_taken_17 : decode cX6_taken 17 = .ok (.iconst 1, 1) := by decide +kernel
theorem dX6_taken_18 : decode cX6_taken 18 = .ok (.invokevirtual 36, 3) := by decide +kernel
theorem dX6_taken_21 : decode cX6_taken 21 = .ok (.iload_n 1, 1) := by decide +kernel
theorem dX6_taken_22 : decode cX6_taken 22 = .ok (.if_icmp .ne 12, 3) := by decide +kernel
theorem dX6_taken_25 : decode cX6_taken 25 = .ok (.aload_n 0, 1) := by decide +kernel
theorem dX6_taken_26 : decode cX6_taken 26 = .ok (.iload_n 3, 1) := by decide +kernel
theorem dX6_taken_27 : decode cX6_taken 27 = .ok (.iconst 0, 1) := by decide +kernel
theorem dX6_taken_28 : decode cX6_taken 28 = .ok (.invokevirtual 36, 3) := by decide +kernel
theorem dX6_taken_31 : decode cX6_taken 31 = .ok (.goto 4, 3) := by decide +kernel
theorem dX6_taken_34 : decode cX6_taken 34 = .ok (.iconst 0, 1) := by decide +kernel
theorem dX6_taken_35 : decode cX6_taken 35 = .ok (.iadd, 1) := by decide +kernel
theorem dX6_taken_36 : decode cX6_taken 36 = .ok (.istore_n 2, 1) := by decide +kernel
theorem dX6_taken_37 : decode cX6_taken 37 = .ok (.iinc 3 1, 3) := by decide +kernel
theorem dX6_taken_40 : decode cX6_taken 40 = .ok (.goto (-36), 3) := by decide +kernel
theorem dX6_taken_43 : decode cX6_taken 43 = .ok (.iload_n 2, 1) := by decide +kernel
theorem dX6_taken_44 : decode cX6_taken 44 = .ok (.ireturn, 1) := by decide +kernel
set_option maxRecDepth 20000 in
theorem ggX6_room_X6_taken : GoodIn wsX6_room wsX6_taken := goodIn_r _ [6, 1, 7, 8, 9, 5, 10, 11, 12, 13, 14, 15, 16, 17, 18, 19, 20, 21, 22, 23, 24, 25, 26] (by decide +kernel) (by decide +kernel)
set_option maxRecDepth 20000 in
theorem gX6_room_X6_taken : GoodIn wsX6_room (wsV RX6 40 RX6 yX6_taken wsX6_taken) := goodIn_app (goodIn_of _ (by decide +kernel)) ggX6_room_X6_taken
theorem dX6_room_0 : decode cX6_room 0 = .ok (.aload_n 0, 1) := by decide +kernel
theorem dX6_room_1 : decode cX6_room 1 = .ok (.getfield 7, 3) := by decide +kernel
theorem dX6_room_4 : decode cX6_room 4 = .ok (.iconst 3, 1) := by decide +kernel
theorem dX6_room_5 : decode cX6_room 5 = .ok (.iload_n 1, 1) := by decide +kernel
theorem dX6_room_6 : decode cX6_room 6 = .ok (.iadd, 1) := by decide +kernel
theorem dX6_room_7 : decode cX6_room 7 = .ok (.iaload, 1) := by decide +kernel
theorem dX6_room_8 : decode cX6_room 8 = .ok (.aload_n 0, 1) := by decide +kernel
theorem dX6_room_9 : decode cX6_room 9 = .ok (.iload_n 1, 1) := by decide +kernel
theorem dX6_room_10 : decode cX6_room 10 = .ok (.invokevirtual 40, 3) := by decide +kernel
theorem dX6_room_13 : decode cX6_room 13 = .ok (.isub, 1) := by decide +kernel
theorem dX6_room_14 : decode cX6_room 14 = .ok (.ireturn, 1) := by decide +kernel
set_option maxRecDepth 20000 in
theorem ggX6_heft_X6_of : GoodIn wsX6_heft wsX6_of := goodIn_r _ [5, 6, 7, 8, 9, 10, 11, 12, 13, 14, 15, 16, 17, 18, 19, 20, 21, 22] (by decide +kernel) (by decide +kernel)
set_option maxRecDepth 20000 in
theorem gX6_heft_X6_of : GoodIn wsX6_heft (wsV RX6 36 RX6 yX6_of wsX6_of) := goodIn_app (goodIn_of _ (by decide +kernel)) ggX6_heft_X6_of
theorem dX6_heft_0 : decode cX6_heft 0 = .ok (.iconst 2, 1) := by decide +kernel
theorem dX6_heft_1 : decode cX6_heft 1 = .ok (.aload_n 0, 1) := by decide +kernel
theorem dX6_heft_2 : decode cX6_heft 2 = .ok (.iload_n 1, 1) := by decide +kernel
theorem dX6_heft_3 : decode cX6_heft 3 = .ok (.iconst 3, 1) := by decide +kernel
theorem dX6_heft_4 : decode cX6_heft 4 = .ok (.invokevirtual 36, 3) := by decide +kernel
theorem dX6_heft_7 : decode cX6_heft 7 = .ok (.imul, 1) := by decide +kernel
theorem dX6_heft_8 : decode cX6_heft 8 = .ok (.aload_n 0, 1) := by decide +kernel
theorem dX6_heft_9 : decode cX6_heft 9 = .ok (.iload_n 1, 1) := by decide +kernel
theorem dX6_heft_10 : decode cX6_heft 10 = .ok (.iconst 4, 1) := by decide +kernel
theorem dX6_heft_11 : decode cX6_heft 11 = .ok (.invokevirtual 36, 3) := by decide +kernel
theorem dX6_heft_14 : decode cX6_heft 14 = .ok (.iadd, 1) := by decide +kernel
theorem dX6_heft_15 : decode cX6_heft 15 = .ok (.ireturn, 1) := by decide +kernel
set_option maxRecDepth 20000 in
theorem ggX6_isMisplaced_X6_of : GoodIn wsX6_isMisplaced wsX6_of := goodIn_r _ [5, 6, 7, 8, 9, 10, 11, 12, 13, 14, 15, 16, 17, 18, 19, 20, 21, 22] (by decide +kernel) (by decide +kernel)
set_option maxRecDepth 20000 in
theorem gX6_isMisplaced_X6_of : GoodIn wsX6_isMisplaced (wsV RX6 36 RX6 yX6_of wsX6_of) := goodIn_app (goodIn_of _ (by decide +kernel)) ggX6_isMisplaced_X6_of
theorem dX6_isMisplaced_0 : decode cX6_isMisplaced 0 = .ok (.aload_n 0, 1) := by decide +kernel
theorem dX6_isMisplaced_1 : decode cX6_isMisplaced 1 = .ok (.iload_n 1, 1) := by decide +kernel
theorem dX6_isMisplaced_2 : decode cX6_isMisplaced 2 = .ok (.iconst 1, 1) := by decide +kernel
theorem dX6_isMisplaced_3 : decode cX6_isMisplaced 3 = .ok (.invokevirtual 36, 3) := by decide +kernel
theorem dX6_isMisplaced_6 : decode cX6_isMisplaced 6 = .ok (.aload_n 0, 1) := by decide +kernel
theorem dX6_isMisplaced_7 : decode cX6_isMisplaced 7 = .ok (.iload_n 1, 1) := by decide +kernel
theorem dX6_isMisplaced_8 : decode cX6_isMisplaced 8 = .ok (.iconst 2, 1) := by decide +kernel
theorem dX6_isMisplaced_9 : decode cX6_isMisplaced 9 = .ok (.invokevirtual 36, 3) := by decide +kernel
theorem dX6_isMisplaced_12 : decode cX6_isMisplaced 12 = .ok (.if_icmp .eq 7, 3) := by decide +kernel
theorem dX6_isMisplaced_15 : decode cX6_isMisplaced 15 = .ok (.iconst 1, 1) := by decide +kernel
theorem dX6_isMisplaced_16 : decode cX6_isMisplaced 16 = .ok (.goto 4, 3) := by decide +kernel
theorem dX6_isMisplaced_19 : decode cX6_isMisplaced 19 = .ok (.iconst 0, 1) := by decide +kernel
theorem dX6_isMisplaced_20 : decode cX6_isMisplaced 20 = .ok (.ireturn, 1) := by decide +kernel
set_option maxRecDepth 20000 in
theorem ggX6_costs_X6_heft : GoodIn wsX6_costs wsX6_heft := goodIn_r _ [6, 7, 8, 9, 5, 10, 1, 11, 12, 13, 14, 15, 16, 17, 18, 19, 20, 21, 22, 23, 24, 25, 26] (by decide +kernel) (by decide +kernel)
set_option maxRecDepth 20000 in
theorem gX6_costs_X6_heft : GoodIn wsX6_costs (wsV RX6 44 RX6 yX6_heft wsX6_heft) := goodIn_app (goodIn_of _ (by decide +kernel)) ggX6_costs_X6_heft
set_option maxRecDepth 20000 in
theorem ggX6_costs_X6_of : GoodIn wsX6_costs wsX6_of := goodIn_r _ [10, 1, 11, 12, 13, 14, 15, 16, 17, 18, 19, 20, 21, 22, 23, 24, 25, 26] (by decide +kernel) (by decide +kernel)
set_option maxRecDepth 20000 in
theorem gX6_costs_X6_of : GoodIn wsX6_costs (wsV RX6 36 RX6 yX6_of wsX6_of) := goodIn_app (goodIn_of _ (by decide +kernel)) ggX6_costs_X6_of
theorem dX6_costs_0 : decode cX6_costs 0 = .ok (.iconst 0, 1) := by decide +kernel
theorem dX6_costs_1 : decode cX6_costs 1 = .ok (.istore_n 1, 1) := by decide +kernel
theorem dX6_costs_2 : decode cX6_costs 2 = .ok (.iconst 0, 1) := by decide +kernel
theorem dX6_costs_3 : decode cX6_costs 3 = .ok (.istore_n 2, 1) := by decide +kernel
theorem dX6_costs_4 : decode cX6_costs 4 = .ok (.iload_n 2, 1) := by decide +kernel
theorem dX6_costs_5 : decode cX6_costs 5 = .ok (.aload_n 0, 1) := by decide +kernel
theorem dX6_costs_6 : decode cX6_costs 6 = .ok (.getfield 7, 3) := by decide +kernel
theorem dX6_costs_9 : decode cX6_costs 9 = .ok (.iconst 0, 1) := by decide +kernel
theorem dX6_costs_10 : decode cX6_costs 10 = .ok (.iaload, 1) := by decide +kernel
theorem dX6_costs_11 : decode cX6_costs 11 = .ok (.if_icmp .ge 32, 3) := by decide +kernel
theorem dX6_costs_14 : decode cX6_costs 14 = .ok (.iload_n 1, 1) := by decide +kernel
theorem dX6_costs_15 : decode cX6_costs 15 = .ok (.aload_n 0, 1) := by decide +kernel
theorem dX6_costs_16 : decode cX6_costs 16 = .ok (.iload_n 2, 1) := by decide +kernel
theorem dX6_costs_17 : decode cX6_costs 17 = .ok (.invokevirtual 44, 3) := by decide +kernel
theorem dX6_costs_20 : decode cX6_costs 20 = .ok (.aload_n 0, 1) := by decide +kernel
theorem dX6_costs_21 : decode cX6_costs 21 = .ok (.getfield 7, 3) := by decide +kernel
theorem dX6_costs_24 : decode cX6_costs 24 = .ok (.bipush 9, 2) := by decide +kernel
theorem dX6_costs_26 : decode cX6_costs 26 = .ok (.aload_n 0, 1) := by decide +kernel
theorem dX6_costs_27 : decode cX6_costs 27 = .ok (.iload_n 2, 1) := by decide +kernel
theorem dX6_costs_28 : decode cX6_costs 28 = .ok (.iconst 2, 1) := by decide +kernel
theorem dX6_costs_29 : decode cX6_costs 29 = .ok (.invokevirtual 36, 3) := by decide +kernel
theorem dX6_costs_32 : decode cX6_costs 32 = .ok (.iadd, 1) := by decide +kernel
theorem dX6_costs_33 : decode cX6_costs 33 = .ok (.iaload, 1) := by decide +kernel
theorem dX6_costs_34 : decode cX6_costs 34 = .ok (.imul, 1) := by decide +kernel
theorem dX6_costs_35 : decode cX6_costs 35 = .ok (.iadd, 1) := by decide +kernel
theorem dX6_costs_36 : decode cX6_costs 36 = .ok (.istore_n 1, 1) := by decide +kernel
theorem dX6_costs_37 : decode cX6_costs 37 = .ok (.iinc 2 1, 3) := by decide +kernel
theorem dX6_costs_40 : decode cX6_costs 40 = .ok (.goto (-36), 3) := by decide +kernel
theorem dX6_costs_43 : decode cX6_costs 43 = .ok (.iload_n 1, 1) := by decide +kernel
theorem dX6_costs_44 : decode cX6_costs 44 = .ok (.ireturn, 1) := by decide +kernel
theorem dX6_isNearer_0 : decode cX6_isNearer 0 = .ok (.aload_n 0, 1) := by decide +kernel
theorem dX6_isNearer_1 : decode cX6_isNearer 1 = .ok (.getfield 7, 3) := by decide +kernel
theorem dX6_isNearer_4 : decode cX6_isNearer 4 = .ok (.bipush 9, 2) := by decide +kernel
theorem dX6_isNearer_6 : decode cX6_isNearer 6 = .ok (.iload_n 1, 1) := by decide +kernel
theorem dX6_isNearer_7 : decode cX6_isNearer 7 = .ok (.iadd, 1) := by decide +kernel
theorem dX6_isNearer_8 : decode cX6_isNearer 8 = .ok (.iaload, 1) := by decide +kernel
theorem dX6_isNearer_9 : decode cX6_isNearer 9 = .ok (.aload_n 0, 1) := by decide +kernel
theorem dX6_isNearer_10 : decode cX6_isNearer 10 = .ok (.getfield 7, 3) := by decide +kernel
theorem dX6_isNearer_13 : decode cX6_isNearer 13 = .ok (.bipush 9, 2) := by decide +kernel
theorem dX6_isNearer_15 : decode cX6_isNearer 15 = .ok (.iload_n 2, 1) := by decide +kernel
theorem dX6_isNearer_16 : decode cX6_isNearer 16 = .ok (.iadd, 1) := by decide +kernel
theorem dX6_isNearer_17 : decode cX6_isNearer 17 = .ok (.iaload, 1) := by decide +kernel
theorem dX6_isNearer_18 : decode cX6_isNearer 18 = .ok (.isub, 1) := by decide +kernel
theorem dX6_isNearer_19 : decode cX6_isNearer 19 = .ok (.istore_n 3, 1) := by decide +kernel
theorem dX6_isNearer_20 : decode cX6_isNearer 20 = .ok (.iload_n 3, 1) := by decide +kernel
theorem dX6_isNearer_21 : decode cX6_isNearer 21 = .ok (.ifCond .lt 12, 3) := by decide +kernel
theorem dX6_isNearer_24 : decode cX6_isNearer 24 = .ok (.iload_n 3, 1) := by decide +kernel
theorem dX6_isNearer_25 : decode cX6_isNearer 25 = .ok (.ifCond .ne 12, 3) := by decide +kernel
theorem dX6_isNearer_28 : decode cX6_isNearer 28 = .ok (.iload_n 1, 1) := by decide +kernel
theorem dX6_isNearer_29 : decode cX6_isNearer 29 = .ok (.iload_n 2, 1) := by decide +kernel
theorem dX6_isNearer_30 : decode cX6_isNearer 30 = .ok (.if_icmp .ge 7, 3) := by decide +kernel
theorem dX6_isNearer_33 : decode cX6_isNearer 33 = .ok (.iconst 1, 1) := by decide +kernel
theorem dX6_isNearer_34 : decode cX6_isNearer 34 = .ok (.goto 4, 3) := by decide +kernel
theorem dX6_isNearer_37 : decode cX6_isNearer 37 = .ok (.iconst 0, 1) := by decide +kernel
theorem dX6_isNearer_38 : decode cX6_isNearer 38 = .ok (.ireturn, 1) := by decide +kernel
set_option maxRecDepth 20000 in
theorem ggX6_walk_X6_of : GoodIn wsX6_walk wsX6_of := goodIn_r _ [6, 1, 15, 16, 17, 18, 19, 20, 21, 22, 23, 24, 25, 26, 27, 28, 29, 30] (by decide +kernel) (by decide +kernel)
set_option maxRecDepth 20000 in
theorem gX6_walk_X6_of : GoodIn wsX6_walk (wsV RX6 36 RX6 yX6_of wsX6_of) := goodIn_app (goodIn_of _ (by decide +kernel)) ggX6_walk_X6_of
set_option maxRecDepth 20000 in
theorem ggX6_walk_X6_isMisplaced : GoodIn wsX6_walk wsX6_isMisplaced := goodIn_r _ [10, 2, 3, 4, 5, 6, 1, 15, 16, 17, 18, 19, 20, 21, 22, 23, 24, 25, 26, 27, 28, 29, 30] (by decide +kernel) (by decide +kernel)
set_option maxRecDepth 20000 in
theorem gX6_walk_X6_isMisplaced : GoodIn wsX6_walk (wsV RX6 47 RX6 yX6_isMisplaced wsX6_isMisplaced) := goodIn_app (goodIn_of _ (by decide +kernel)) ggX6_walk_X6_isMisplaced
set_option maxRecDepth 20000 in
theorem ggX6_walk_X6_isNearer : GoodIn wsX6_walk wsX6_isNearer := goodIn_r _ [14, 1, 15, 16, 17, 18, 19, 20, 21, 22, 23, 24, 25, 26, 27, 28, 29, 30] (by decide +kernel) (by decide +kernel)
set_option maxRecDepth 20000 in
theorem gX6_walk_X6_isNearer : GoodIn wsX6_walk (wsV RX6 51 RX6 yX6_isNearer wsX6_isNearer) := goodIn_app (goodIn_of _ (by decide +kernel)) ggX6_walk_X6_isNearer
theorem dX6_walk_0 : decode cX6_walk 0 = .ok (.aload_n 0, 1) := by decide +kernel
theorem dX6_walk_1 : decode cX6_walk 1 = .ok (.getfield 7, 3) := by decide +kernel
theorem dX6_walk_4 : decode cX6_walk 4 = .ok (.bipush 9, 2) := by decide +kernel
theorem dX6_walk_6 : decode cX6_walk 6 = .ok (.aload_n 0, 1) := by decide +kernel
theorem dX6_walk_7 : decode cX6_walk 7 = .ok (.iload_n 1, 1) := by decide +kernel
theorem dX6_walk_8 : decode cX6_walk 8 = .ok (.iconst 2, 1) := by decide +kernel
theorem dX6_walk_9 : decode cX6_walk 9 = .ok (.invokevirtual 36, 3) := by decide +kernel
theorem dX6_walk_12 : decode cX6_walk 12 = .ok (.iadd, 1) := by decide +kernel
theorem dX6_walk_13 : decode cX6_walk 13 = .ok (.iaload, 1) := by decide +kernel
theorem dX6_walk_14 : decode cX6_walk 14 = .ok (.istore_n 2, 1) := by decide +kernel
theorem dX6_walk_15 : decode cX6_walk 15 = .ok (.iconst 0, 1) := by decide +kernel
theorem dX6_walk_16 : decode cX6_walk 16 = .ok (.istore_n 3, 1) := by decide +kernel
theorem dX6_walk_17 : decode cX6_walk 17 = .ok (.iload_n 3, 1) := by decide +kernel
theorem dX6_walk_18 : decode cX6_walk 18 = .ok (.bipush 6, 2) := by decide +kernel
theorem dX6_walk_20 : decode cX6_walk 20 = .ok (.if_icmp .ge 69, 3) := by decide +kernel
theorem dX6_walk_23 : decode cX6_walk 23 = .ok (.aload_n 0, 1) := by decide +kernel
theorem dX6_walk_24 : decode cX6_walk 24 = .ok (.iload_n 1, 1) := by decide +kernel
theorem dX6_walk_25 : decode cX6_walk 25 = .ok (.invokevirtual 47, 3) := by decide +kernel
theorem dX6_walk_28 : decode cX6_walk 28 = .ok (.ifCond .eq 61, 3) := by decide +kernel
theorem dX6_walk_31 : decode cX6_walk 31 = .ok (.iload_n 3, 1) := by decide +kernel
theorem dX6_walk_32 : decode cX6_walk 32 = .ok (.aload_n 0, 1) := by decide +kernel
theorem dX6_walk_33 : decode cX6_walk 33 = .ok (.iload_n 1, 1) := by decide +kernel
theorem dX6_walk_34 : decode cX6_walk 34 = .ok (.iconst 2, 1) := by decide +kernel
theorem dX6_walk_35 : decode cX6_walk 35 = .ok (.invokevirtual 36, 3) := by decide +kernel
theorem dX6_walk_38 : decode cX6_walk 38 = .ok (.if_icmp .eq 21, 3) := by decide +kernel
theorem dX6_walk_41 : decode cX6_walk 41 = .ok (.aload_n 0, 1) := by decide +kernel
theorem dX6_walk_42 : decode cX6_walk 42 = .ok (.aload_n 0, 1) := by decide +kernel
theorem dX6_walk_43 : decode cX6_walk 43 = .ok (.iload_n 1, 1) := by decide +kernel
theorem dX6_walk_44 : decode cX6_walk 44 = .ok (.iconst 1, 1) := by decide +kernel
theorem dX6_walk_45 : decode cX6_walk 45 = .ok (.invokevirtual 36, 3) := by decide +kernel
theorem dX6_walk_48 : decode cX6_walk 48 = .ok (.iload_n 3, 1) := by decide +kernel
theorem dX6_walk_49 : decode cX6_walk 49 = .ok (.invokevirtual 51, 3) := by decide +kernel
theorem dX6_walk_52 : decode cX6_walk 52 = .ok (.ifCond .ne 7, 3) := by decide +kernel
theorem dX6_walk_55 : decode cX6_walk 55 = .ok (.iconst 1, 1) := by decide +kernel
theorem dX6_walk_56 : decode cX6_walk 56 = .ok (.goto 4, 3) := by decide +kernel
theorem dX6_walk_59 : decode cX6_walk 59 = .ok (.iconst 0, 1) := by decide +kernel
theorem dX6_walk_60 : decode cX6_walk 60 = .ok (.istore 4, 2) := by decide +kernel
theorem dX6_walk_62 : decode cX6_walk 62 = .ok (.iload_n 2, 1) := by decide +kernel
theorem dX6_walk_63 : decode cX6_walk 63 = .ok (.iload 4, 2) := by decide +kernel
theorem dX6_walk_65 : decode cX6_walk 65 = .ok (.ifCond .eq 15, 3) := by decide +kernel
theorem dX6_walk_68 : decode cX6_walk 68 = .ok (.aload_n 0, 1) := by decide +kernel
theorem dX6_walk_69 : decode cX6_walk 69 = .ok (.getfield 7, 3) := by decide +kernel
theorem dX6_walk_72 : decode cX6_walk 72 = .ok (.bipush 9, 2) := by decide +kernel
theorem dX6_walk_74 : decode cX6_walk 74 = .ok (.iload_n 3, 1) := by decide +kernel
theorem dX6_walk_75 : decode cX6_walk 75 = .ok (.iadd, 1) := by decide +kernel
theorem dX6_walk_76 : decode cX6_walk 76 = .ok (.iaload, 1) := by decide +kernel
theorem dX6_walk_77 : decode cX6_walk 77 = .ok (.goto 4, 3) := by decide +kernel
theorem dX6_walk_80 : decode cX6_walk 80 = .ok (.iconst 0, 1) := by decide +kernel
theorem dX6_walk_81 : decode cX6_walk 81 = .ok (.iadd, 1) := by decide +kernel
theorem dX6_walk_82 : decode cX6_walk 82 = .ok (.istore_n 2, 1) := by decide +kernel
theorem dX6_walk_83 : decode cX6_walk 83 = .ok (.iinc 3 1, 3) := by decide +kernel
theorem dX6_walk_86 : decode cX6_walk 86 = .ok (.goto (-69), 3) := by decide +kernel
theorem dX6_walk_89 : decode cX6_walk 89 = .ok (.iload_n 2, 1) := by decide +kernel
theorem dX6_walk_90 : decode cX6_walk 90 = .ok (.ireturn, 1) := by decide +kernel
set_option maxRecDepth 20000 in
theorem ggX6_setShelf_X6_isShelf : GoodIn wsX6_setShelf wsX6_isShelf := goodIn_r _ [6, 7, 8, 5, 9] (by decide +kernel) (by decide +kernel)
set_option maxRecDepth 20000 in
theorem gX6_setShelf_X6_isShelf : GoodIn wsX6_setShelf (va_wsS RX6 55 yX6_isShelf wsX6_isShelf) := goodIn_app (goodIn_of _ (by decide +kernel)) ggX6_setShelf_X6_isShelf
set_option maxRecDepth 20000 in
theorem ggX6_setShelf_X6_fails : GoodIn wsX6_setShelf wsX6_fails := goodIn_r _ [13, 1, 32, 33, 34, 35, 36, 37, 38, 39, 40, 41, 42, 43, 44, 45, 46, 47] (by decide +kernel) (by decide +kernel)
set_option maxRecDepth 20000 in
theorem gX6_setShelf_X6_fails : GoodIn wsX6_setShelf (wsV RX6 58 RX6 yX6_fails wsX6_fails) := goodIn_app (goodIn_of _ (by decide +kernel)) ggX6_setShelf_X6_fails
set_option maxRecDepth 20000 in
theorem ggX6_setShelf_X6_in : GoodIn wsX6_setShelf wsX6_in := goodIn_r _ [9] (by decide +kernel) (by decide +kernel)
set_option maxRecDepth 20000 in
theorem gX6_setShelf_X6_in : GoodIn wsX6_setShelf (va_wsS RX6 29 yX6_in wsX6_in) := goodIn_app (goodIn_of _ (by decide +kernel)) ggX6_setShelf_X6_in
set_option maxRecDepth 20000 in
theorem ggX6_setShelf_X6_taken : GoodIn wsX6_setShelf wsX6_taken := goodIn_r _ [17, 2, 18, 19, 20, 5, 21, 32, 33, 34, 35, 36, 37, 38, 39, 40, 41, 42, 43, 44, 45, 46, 47] (by decide +kernel) (by decide +kernel)
set_option maxRecDepth 20000 in
theorem gX6_setShelf_X6_taken : GoodIn wsX6_setShelf (wsV RX6 40 RX6 yX6_taken wsX6_taken) := goodIn_app (goodIn_of _ (by decide +kernel)) ggX6_setShelf_X6_taken
set_option maxRecDepth 20000 in
theorem ggX6_setShelf_X6_saves : GoodIn wsX6_setShelf wsX6_saves := goodIn_r _ [25, 26, 27, 2, 32, 33, 34, 35, 36, 37, 38, 39, 40, 41, 42, 43, 44, 45, 46, 47] (by decide +kernel) (by decide +kernel)
set_option maxRecDepth 20000 in
theorem gX6_setShelf_X6_saves : GoodIn wsX6_setShelf (wsV RX6 61 RX6 yX6_saves wsX6_saves) := goodIn_app (goodIn_of _ (by decide +kernel)) ggX6_setShelf_X6_saves
set_option maxRecDepth 20000 in
theorem ggX6_setShelf_X6_room : GoodIn wsX6_setShelf wsX6_room := goodIn_r _ [31, 2, 14, 15, 16, 5, 17, 18, 19, 20, 21, 32, 33, 34, 35, 36, 37, 38, 39, 40, 41, 42, 43, 44, 45, 46, 47] (by decide +kernel) (by decide +kernel)
set_option maxRecDepth 20000 in
theorem gX6_setShelf_X6_room : GoodIn wsX6_setShelf (wsV RX6 64 RX6 yX6_room wsX6_room) := goodIn_app (goodIn_of _ (by decide +kernel)) ggX6_setShelf_X6_room
theorem dX6_setShelf_0 : decode cX6_setShelf 0 = .ok (.aload_n 0, 1) := by decide +kernel
theorem dX6_setShelf_1 : decode cX6_setShelf 1 = .ok (.iconst 0, 1) := by decide +kernel
theorem dX6_setShelf_2 : decode cX6_setShelf 2 = .ok (.putfield 25, 3) := by decide +kernel
theorem dX6_setShelf_5 : decode cX6_setShelf 5 = .ok (.iload_n 1, 1) := by decide +kernel
theorem dX6_setShelf_6 : decode cX6_setShelf 6 = .ok (.invokestatic 55, 3) := by decide +kernel
theorem dX6_setShelf_9 : decode cX6_setShelf 9 = .ok (.ifCond .ne 9, 3) := by decide +kernel
theorem dX6_setShelf_12 : decode cX6_setShelf 12 = .ok (.aload_n 0, 1) := by decide +kernel
theorem dX6_setShelf_13 : decode cX6_setShelf 13 = .ok (.iconst 1, 1) := by decide +kernel
theorem dX6_setShelf_14 : decode cX6_setShelf 14 = .ok (.invokevirtual 58, 3) := by decide +kernel
theorem dX6_setShelf_17 : decode cX6_setShelf 17 = .ok (.ireturn, 1) := by decide +kernel
theorem dX6_setShelf_18 : decode cX6_setShelf 18 = .ok (.iload_n 2, 1) := by decide +kernel
theorem dX6_setShelf_19 : decode cX6_setShelf 19 = .ok (.bipush 10, 2) := by decide +kernel
theorem dX6_setShelf_21 : decode cX6_setShelf 21 = .ok (.bipush 99, 2) := by decide +kernel
theorem dX6_setShelf_23 : decode cX6_setShelf 23 = .ok (.invokestatic 29, 3) := by decide +kernel
theorem dX6_setShelf_26 : decode cX6_setShelf 26 = .ok (.ifCond .eq 13, 3) := by decide +kernel
theorem dX6_setShelf_29 : decode cX6_setShelf 29 = .ok (.iload_n 3, 1) := by decide +kernel
theorem dX6_setShelf_30 : decode cX6_setShelf 30 = .ok (.iconst 1, 1) := by decide +kernel
theorem dX6_setShelf_31 : decode cX6_setShelf 31 = .ok (.bipush 99, 2) := by decide +kernel
theorem dX6_setShelf_33 : decode cX6_setShelf 33 = .ok (.invokestatic 29, 3) := by decide +kernel
theorem dX6_setShelf_36 : decode cX6_setShelf 36 = .ok (.ifCond .ne 9, 3) := by decide +kernel
theorem dX6_setShelf_39 : decode cX6_setShelf 39 = .ok (.aload_n 0, 1) := by decide +kernel
theorem dX6_setShelf_40 : decode cX6_setShelf 40 = .ok (.iconst 2, 1) := by decide +kernel
theorem dX6_setShelf_41 : decode cX6_setShelf 41 = .ok (.invokevirtual 58, 3) := by decide +kernel
theorem dX6_setShelf_44 : decode cX6_setShelf 44 = .ok (.ireturn, 1) := by decide +kernel
theorem dX6_setShelf_45 : decode cX6_setShelf 45 = .ok (.aload_n 0, 1) := by decide +kernel
theorem dX6_setShelf_46 : decode cX6_setShelf 46 = .ok (.iload_n 1, 1) := by decide +kernel
theorem dX6_setShelf_47 : decode cX6_setShelf 47 = .ok (.invokevirtual 40, 3) := by decide +kernel
theorem dX6_setShelf_50 : decode cX6_setShelf 50 = .ok (.iload_n 2, 1) := by decide +kernel
theorem dX6_setShelf_51 : decode cX6_setShelf 51 = .ok (.if_icmp .le 9, 3) := by decide +kernel
theorem dX6_setShelf_54 : decode cX6_setShelf 54 = .ok (.aload_n 0, 1) := by decide +kernel
theorem dX6_setShelf_55 : decode cX6_setShelf 55 = .ok (.iconst 3, 1) := by decide +kernel
theorem dX6_setShelf_56 : decode cX6_setShelf 56 = .ok (.invokevirtual 58, 3) := by decide +kernel
theorem dX6_setShelf_59 : decode cX6_setShelf 59 = .ok (.ireturn, 1) := by decide +kernel
theorem dX6_setShelf_60 : decode cX6_setShelf 60 = .ok (.aload_n 0, 1) := by decide +kernel
theorem dX6_setShelf_61 : decode cX6_setShelf 61 = .ok (.invokevirtual 61, 3) := by decide +kernel
theorem dX6_setShelf_64 : decode cX6_setShelf 64 = .ok (.aload_n 0, 1) := by decide +kernel
theorem dX6_setShelf_65 : decode cX6_setShelf 65 = .ok (.getfield 7, 3) := by decide +kernel
theorem dX6_setShelf_68 : decode cX6_setShelf 68 = .ok (.iconst 3, 1) := by decide +kernel
theorem dX6_setShelf_69 : decode cX6_setShelf 69 = .ok (.iload_n 1, 1) := by decide +kernel
theorem dX6_setShelf_70 : decode cX6_setShelf 70 = .ok (.iadd, 1) := by decide +kernel
theorem dX6_setShelf_71 : decode cX6_setShelf 71 = .ok (.iload_n 2, 1) := by decide +kernel
theorem dX6_setShelf_72 : decode cX6_setShelf 72 = .ok (.iastore, 1) := by decide +kernel
theorem dX6_setShelf_73 : decode cX6_setShelf 73 = .ok (.aload_n 0, 1) := by decide +kernel
theorem dX6_setShelf_74 : decode cX6_setShelf 74 = .ok (.getfield 7, 3) := by decide +kernel
theorem dX6_setShelf_77 : decode cX6_setShelf 77 = .ok (.bipush 9, 2) := by decide +kernel
theorem dX6_setShelf_79 : decode cX6_setShelf 79 = .ok (.iload_n 1, 1) := by decide +kernel
theorem dX6_setShelf_80 : decode cX6_setShelf 80 = .ok (.iadd, 1) := by decide +kernel
theorem dX6_setShelf_81 : decode cX6_setShelf 81 = .ok (.iload_n 3, 1) := by decide +kernel
theorem dX6_setShelf_82 : decode cX6_setShelf 82 = .ok (.iastore, 1) := by decide +kernel
theorem dX6_setShelf_83 : decode cX6_setShelf 83 = .ok (.aload_n 0, 1) := by decide +kernel
theorem dX6_setShelf_84 : decode cX6_setShelf 84 = .ok (.iload_n 1, 1) := by decide +kernel
theorem dX6_setShelf_85 : decode cX6_setShelf 85 = .ok (.invokevirtual 64, 3) := by decide +kernel
theorem dX6_setShelf_88 : decode cX6_setShelf 88 = .ok (.ireturn, 1) := by decide +kernel
set_option maxRecDepth 20000 in
theorem ggX6_refusesAdding_X6_isShelf : GoodIn wsX6_refusesAdding wsX6_isShelf := goodIn_r _ [5, 6, 7, 4, 8] (by decide +kernel) (by decide +kernel)
set_option maxRecDepth 20000 in
theorem gX6_refusesAdding_X6_isShelf : GoodIn wsX6_refusesAdding (va_wsS RX6 55 yX6_isShelf wsX6_isShelf) := goodIn_app (goodIn_of _ (by decide +kernel)) ggX6_refusesAdding_X6_isShelf
set_option maxRecDepth 20000 in
theorem ggX6_refusesAdding_X6_in : GoodIn wsX6_refusesAdding wsX6_in := goodIn_r _ [8] (by decide +kernel) (by decide +kernel)
set_option maxRecDepth 20000 in
theorem gX6_refusesAdding_X6_in : GoodIn wsX6_refusesAdding (va_wsS RX6 29 yX6_in wsX6_in) := goodIn_app (goodIn_of _ (by decide +kernel)) ggX6_refusesAdding_X6_in
set_option maxRecDepth 20000 in
theorem ggX6_refusesAdding_X6_room : GoodIn wsX6_refusesAdding wsX6_room := goodIn_r _ [12, 1, 13, 14, 15, 4, 16, 17, 18, 19, 20, 21, 22, 23, 24, 25, 26, 27, 28, 29, 30, 31, 32, 33, 34, 35, 36] (by decide +kernel) (by decide +kernel)
set_option maxRecDepth 20000 in
theorem gX6_refusesAdding_X6_room : GoodIn wsX6_refusesAdding (wsV RX6 64 RX6 yX6_room wsX6_room) := goodIn_app (goodIn_of _ (by decide +kernel)) ggX6_refusesAdding_X6_room
theorem dX6_refusesAdding_0 : decode cX6_refusesAdding 0 = .ok (.iload_n 2, 1) := by decide +kernel
theorem dX6_refusesAdding_1 : decode cX6_refusesAdding 1 = .ok (.invokestatic 55, 3) := by decide +kernel
theorem dX6_refusesAdding_4 : decode cX6_refusesAdding 4 = .ok (.ifCond .ne 5, 3) := by decide +kernel
theorem dX6_refusesAdding_7 : decode cX6_refusesAdding 7 = .ok (.iconst 1, 1) := by decide +kernel
theorem dX6_refusesAdding_8 : decode cX6_refusesAdding 8 = .ok (.ireturn, 1) := by decide +kernel
theorem dX6_refusesAdding_9 : decode cX6_refusesAdding 9 = .ok (.iload_n 1, 1) := by decide +kernel
theorem dX6_refusesAdding_10 : decode cX6_refusesAdding 10 = .ok (.iconst 1, 1) := by decide +kernel
theorem dX6_refusesAdding_11 : decode cX6_refusesAdding 11 = .ok (.bipush 30, 2) := by decide +kernel
theorem dX6_refusesAdding_13 : decode cX6_refusesAdding 13 = .ok (.invokestatic 29, 3) := by decide +kernel
theorem dX6_refusesAdding_16 : decode cX6_refusesAdding 16 = .ok (.ifCond .ne 5, 3) := by decide +kernel
theorem dX6_refusesAdding_19 : decode cX6_refusesAdding 19 = .ok (.iconst 2, 1) := by decide +kernel
theorem dX6_refusesAdding_20 : decode cX6_refusesAdding 20 = .ok (.ireturn, 1) := by decide +kernel
theorem dX6_refusesAdding_21 : decode cX6_refusesAdding 21 = .ok (.aload_n 0, 1) := by decide +kernel
theorem dX6_refusesAdding_22 : decode cX6_refusesAdding 22 = .ok (.getfield 7, 3) := by decide +kernel
theorem dX6_refusesAdding_25 : decode cX6_refusesAdding 25 = .ok (.iconst 0, 1) := by decide +kernel
theorem dX6_refusesAdding_26 : decode cX6_refusesAdding 26 = .ok (.iaload, 1) := by decide +kernel
theorem dX6_refusesAdding_27 : decode cX6_refusesAdding 27 = .ok (.bipush 16, 2) := by decide +kernel
theorem dX6_refusesAdding_29 : decode cX6_refusesAdding 29 = .ok (.if_icmp .eq 12, 3) := by decide +kernel
theorem dX6_refusesAdding_32 : decode cX6_refusesAdding 32 = .ok (.aload_n 0, 1) := by decide +kernel
theorem dX6_refusesAdding_33 : decode cX6_refusesAdding 33 = .ok (.iload_n 2, 1) := by decide +kernel
theorem dX6_refusesAdding_34 : decode cX6_refusesAdding 34 = .ok (.invokevirtual 64, 3) := by decide +kernel
theorem dX6_refusesAdding_37 : decode cX6_refusesAdding 37 = .ok (.iload_n 1, 1) := by decide +kernel
theorem dX6_refusesAdding_38 : decode cX6_refusesAdding 38 = .ok (.if_icmp .ge 7, 3) := by decide +kernel
theorem dX6_refusesAdding_41 : decode cX6_refusesAdding 41 = .ok (.iconst 3, 1) := by decide +kernel
theorem dX6_refusesAdding_42 : decode cX6_refusesAdding 42 = .ok (.goto 4, 3) := by decide +kernel
theorem dX6_refusesAdding_45 : decode cX6_refusesAdding 45 = .ok (.iconst 0, 1) := by decide +kernel
theorem dX6_refusesAdding_46 : decode cX6_refusesAdding 46 = .ok (.ireturn, 1) := by decide +kernel
set_option maxRecDepth 20000 in
theorem ggX6_adds_X6_lay : GoodIn wsX6_adds wsX6_lay := goodIn_r _ [6, 1, 7, 8, 9, 10, 11, 12, 13, 14, 15, 16, 17, 18, 19, 20, 21, 22] (by decide +kernel) (by decide +kernel)
set_option maxRecDepth 20000 in
theorem gX6_adds_X6_lay : GoodIn wsX6_adds (wsV RX6 67 RX6 yX6_lay wsX6_lay) := goodIn_app (goodIn_of _ (by decide +kernel)) ggX6_adds_X6_lay
theorem dX6_adds_0 : decode cX6_adds 0 = .ok (.aload_n 0, 1) := by decide +kernel
theorem dX6_adds_1 : decode cX6_adds 1 = .ok (.getfield 7, 3) := by decide +kernel
theorem dX6_adds_4 : decode cX6_adds 4 = .ok (.iconst 0, 1) := by decide +kernel
theorem dX6_adds_5 : decode cX6_adds 5 = .ok (.iaload, 1) := by decide +kernel
theorem dX6_adds_6 : decode cX6_adds 6 = .ok (.istore_n 3, 1) := by decide +kernel
theorem dX6_adds_7 : decode cX6_adds 7 = .ok (.aload_n 0, 1) := by decide +kernel
theorem dX6_adds_8 : decode cX6_adds 8 = .ok (.iload_n 3, 1) := by decide +kernel
theorem dX6_adds_9 : decode cX6_adds 9 = .ok (.iconst 0, 1) := by decide +kernel
theorem dX6_adds_10 : decode cX6_adds 10 = .ok (.iload_n 1, 1) := by decide +kernel
theorem dX6_adds_11 : decode cX6_adds 11 = .ok (.invokevirtual 67, 3) := by decide +kernel
theorem dX6_adds_14 : decode cX6_adds 14 = .ok (.aload_n 0, 1) := by decide +kernel
theorem dX6_adds_15 : decode cX6_adds 15 = .ok (.iload_n 3, 1) := by decide +kernel
theorem dX6_adds_16 : decode cX6_adds 16 = .ok (.iconst 1, 1) := by decide +kernel
theorem dX6_adds_17 : decode cX6_adds 17 = .ok (.iload_n 2, 1) := by decide +kernel
theorem dX6_adds_18 : decode cX6_adds 18 = .ok (.invokevirtual 67, 3) := by decide +kernel
theorem dX6_adds_21 : decode cX6_adds 21 = .ok (.aload_n 0, 1) := by decide +kernel
theorem dX6_adds_22 : decode cX6_adds 22 = .ok (.iload_n 3, 1) := by decide +kernel
theorem dX6_adds_23 : decode cX6_adds 23 = .ok (.iconst 2, 1) := by decide +kernel
theorem dX6_adds_24 : decode cX6_adds 24 = .ok (.iload_n 2, 1) := by decide +kernel
theorem dX6_adds_25 : decode cX6_adds 25 = .ok (.invokevirtual 67, 3) := by decide +kernel
theorem dX6_adds_28 : decode cX6_adds 28 = .ok (.aload_n 0, 1) := by decide +kernel
theorem dX6_adds_29 : decode cX6_adds 29 = .ok (.getfield 7, 3) := by decide +kernel
theorem dX6_adds_32 : decode cX6_adds 32 = .ok (.iconst 0, 1) := by decide +kernel
theorem dX6_adds_33 : decode cX6_adds 33 = .ok (.dup2, 1) := by decide +kernel
theorem dX6_adds_34 : decode cX6_adds 34 = .ok (.iaload, 1) := by decide +kernel
theorem dX6_adds_35 : decode cX6_adds 35 = .ok (.iconst 1, 1) := by decide +kernel
theorem dX6_adds_36 : decode cX6_adds 36 = .ok (.iadd, 1) := by decide +kernel
theorem dX6_adds_37 : decode cX6_adds 37 = .ok (.iastore, 1) := by decide +kernel
theorem dX6_adds_38 : decode cX6_adds 38 = .ok (.iload_n 3, 1) := by decide +kernel
theorem dX6_adds_39 : decode cX6_adds 39 = .ok (.ireturn, 1) := by decide +kernel
set_option maxRecDepth 20000 in
theorem ggX6_addRecord_X6_refusesAdding : GoodIn wsX6_addRecord wsX6_refusesAdding := goodIn_r _ [6, 7, 8, 9, 5, 10, 11, 12, 13, 14, 15, 16, 17, 18, 19, 20, 21, 22, 23, 24, 25, 44, 45, 46, 47, 48, 49, 50, 51, 52, 53, 54, 55, 56, 57, 58, 59] (by decide +kernel) (by decide +kernel)
set_option maxRecDepth 20000 in
theorem gX6_addRecord_X6_refusesAdding : GoodIn wsX6_addRecord (wsV RX6 71 RX6 yX6_refusesAdding wsX6_refusesAdding) := goodIn_app (goodIn_of _ (by decide +kernel)) ggX6_addRecord_X6_refusesAdding
set_option maxRecDepth 20000 in
theorem ggX6_addRecord_X6_fails : GoodIn wsX6_addRecord wsX6_fails := goodIn_r _ [29, 1, 44, 45, 46, 47, 48, 49, 50, 51, 52, 53, 54, 55, 56, 57, 58, 59] (by decide +kernel) (by decide +kernel)
set_option maxRecDepth 20000 in
theorem gX6_addRecord_X6_fails : GoodIn wsX6_addRecord (wsV RX6 58 RX6 yX6_fails wsX6_fails) := goodIn_app (goodIn_of _ (by decide +kernel)) ggX6_addRecord_X6_fails
set_option maxRecDepth 20000 in
theorem ggX6_addRecord_X6_saves : GoodIn wsX6_addRecord wsX6_saves := goodIn_r _ [33, 34, 35, 7, 44, 45, 46, 47, 48, 49, 50, 51, 52, 53, 54, 55, 56, 57, 58, 59] (by decide +kernel) (by decide +kernel)
set_option maxRecDepth 20000 in
theorem gX6_addRecord_X6_saves : GoodIn wsX6_addRecord (wsV RX6 61 RX6 yX6_saves wsX6_saves) := goodIn_app (goodIn_of _ (by decide +kernel)) ggX6_addRecord_X6_saves
set_option maxRecDepth 20000 in
theorem ggX6_addRecord_X6_adds : GoodIn wsX6_addRecord wsX6_adds := goodIn_r _ [39, 7, 40, 41, 42, 5, 43, 44, 45, 46, 47, 48, 49, 50, 51, 52, 53, 54, 55, 56, 57, 58, 59] (by decide +kernel) (by decide +kernel)
set_option maxRecDepth 20000 in
theorem gX6_addRecord_X6_adds : GoodIn wsX6_addRecord (wsV RX6 74 RX6 yX6_adds wsX6_adds) := goodIn_app (goodIn_of _ (by decide +kernel)) ggX6_addRecord_X6_adds
theorem dX6_addRecord_0 : decode cX6_addRecord 0 = .ok (.aload_n 0, 1) := by decide +kernel
theorem dX6_addRecord_1 : decode cX6_addRecord 1 = .ok (.iconst 0, 1) := by decide +kernel
theorem dX6_addRecord_2 : decode cX6_addRecord 2 = .ok (.putfield 25, 3) := by decide +kernel
theorem dX6_addRecord_5 : decode cX6_addRecord 5 = .ok (.aload_n 0, 1) := by decide +kernel
theorem dX6_addRecord_6 : decode cX6_addRecord 6 = .ok (.iload_n 1, 1) := by decide +kernel
theorem dX6_addRecord_7 : decode cX6_addRecord 7 = .ok (.iload_n 2, 1) := by decide +kernel
theorem dX6_addRecord_8 : decode cX6_addRecord 8 = .ok (.invokevirtual 71, 3) := by decide +kernel
theorem dX6_addRecord_11 : decode cX6_addRecord 11 = .ok (.istore_n 3, 1) := by decide +kernel
theorem dX6_addRecord_12 : decode cX6_addRecord 12 = .ok (.iload_n 3, 1) := by decide +kernel
theorem dX6_addRecord_13 : decode cX6_addRecord 13 = .ok (.ifCond .eq 9, 3) := by decide +kernel
theorem dX6_addRecord_16 : decode cX6_addRecord 16 = .ok (.aload_n 0, 1) := by decide +kernel
theorem dX6_addRecord_17 : decode cX6_addRecord 17 = .ok (.iload_n 3, 1) := by decide +kernel
theorem dX6_addRecord_18 : decode cX6_addRecord 18 = .ok (.invokevirtual 58, 3) := by decide +kernel
theorem dX6_addRecord_21 : decode cX6_addRecord 21 = .ok (.ireturn, 1) := by decide +kernel
theorem dX6_addRecord_22 : decode cX6_addRecord 22 = .ok (.aload_n 0, 1) := by decide +kernel
theorem dX6_addRecord_23 : decode cX6_addRecord 23 = .ok (.invokevirtual 61, 3) := by decide +kernel
theorem dX6_addRecord_26 : decode cX6_addRecord 26 = .ok (.aload_n 0, 1) := by decide +kernel
theorem dX6_addRecord_27 : decode cX6_addRecord 27 = .ok (.iload_n 1, 1) := by decide +kernel
theorem dX6_addRecord_28 : decode cX6_addRecord 28 = .ok (.iload_n 2, 1) := by decide +kernel
theorem dX6_addRecord_29 : decode cX6_addRecord 29 = .ok (.invokevirtual 74, 3) := by decide +kernel
theorem dX6_addRecord_32 : decode cX6_addRecord 32 = .ok (.ireturn, 1) := by decide +kernel
set_option maxRecDepth 20000 in
theorem ggX6_removeRecord_X6_isRecord : GoodIn wsX6_removeRecord wsX6_isRecord := goodIn_r _ [7, 2, 8, 9, 6, 10, 29, 30, 31, 32, 33, 34, 35, 36, 37, 38, 39, 40, 41, 42, 43, 44] (by decide +kernel) (by decide +kernel)
set_option maxRecDepth 20000 in
theorem gX6_removeRecord_X6_isRecord : GoodIn wsX6_removeRecord (wsV RX6 77 RX6 yX6_isRecord wsX6_isRecord) := goodIn_app (goodIn_of _ (by decide +kernel)) ggX6_removeRecord_X6_isRecord
set_option maxRecDepth 20000 in
theorem ggX6_removeRecord_X6_fails : GoodIn wsX6_removeRecord wsX6_fails := goodIn_r _ [14, 1, 29, 30, 31, 32, 33, 34, 35, 36, 37, 38, 39, 40, 41, 42, 43, 44] (by decide +kernel) (by decide +kernel)
set_option maxRecDepth 20000 in
theorem gX6_removeRecord_X6_fails : GoodIn wsX6_removeRecord (wsV RX6 58 RX6 yX6_fails wsX6_fails) := goodIn_app (goodIn_of _ (by decide +kernel)) ggX6_removeRecord_X6_fails
set_option maxRecDepth 20000 in
theorem ggX6_removeRecord_X6_saves : GoodIn wsX6_removeRecord wsX6_saves := goodIn_r _ [18, 19, 20, 2, 29, 30, 31, 32, 33, 34, 35, 36, 37, 38, 39, 40, 41, 42, 43, 44] (by decide +kernel) (by decide +kernel)
set_option maxRecDepth 20000 in
theorem gX6_removeRecord_X6_saves : GoodIn wsX6_removeRecord (wsV RX6 61 RX6 yX6_saves wsX6_saves) := goodIn_app (goodIn_of _ (by decide +kernel)) ggX6_removeRecord_X6_saves
set_option maxRecDepth 20000 in
theorem ggX6_removeRecord_X6_of : GoodIn wsX6_removeRecord wsX6_of := goodIn_r _ [24, 2, 29, 30, 31, 32, 33, 34, 35, 36, 37, 38, 39, 40, 41, 42, 43, 44] (by decide +kernel) (by decide +kernel)
set_option maxRecDepth 20000 in
theorem gX6_removeRecord_X6_of : GoodIn wsX6_removeRecord (wsV RX6 36 RX6 yX6_of wsX6_of) := goodIn_app (goodIn_of _ (by decide +kernel)) ggX6_removeRecord_X6_of
set_option maxRecDepth 20000 in
theorem ggX6_removeRecord_X6_lay : GoodIn wsX6_removeRecord wsX6_lay := goodIn_r _ [28, 2, 29, 30, 31, 32, 33, 34, 35, 36, 37, 38, 39, 40, 41, 42, 43, 44] (by decide +kernel) (by decide +kernel)
set_option maxRecDepth 20000 in
theorem gX6_removeRecord_X6_lay : GoodIn wsX6_removeRecord (wsV RX6 67 RX6 yX6_lay wsX6_lay) := goodIn_app (goodIn_of _ (by decide +kernel)) ggX6_removeRecord_X6_lay
theorem dX6_removeRecord_0 : decode cX6_removeRecord 0 = .ok (.aload_n 0, 1) := by decide +kernel
theorem dX6_removeRecord_1 : decode cX6_removeRecord 1 = .ok (.iconst 0, 1) := by decide +kernel
theorem dX6_removeRecord_2 : decode cX6_removeRecord 2 = .ok (.putfield 25, 3) := by decide +kernel
theorem dX6_removeRecord_5 : decode cX6_removeRecord 5 = .ok (.aload_n 0, 1) := by decide +kernel
theorem dX6_removeRecord_6 : decode cX6_removeRecord 6 = .ok (.iload_n 1, 1) := by decide +kernel
theorem dX6_removeRecord_7 : decode cX6_removeRecord 7 = .ok (.invokevirtual 77, 3) := by decide +kernel
theorem dX6_removeRecord_10 : decode cX6_removeRecord 10 = .ok (.ifCond .ne 9, 3) := by decide +kernel
theorem dX6_removeRecord_13 : decode cX6_removeRecord 13 = .ok (.aload_n 0, 1) := by decide +kernel
theorem dX6_removeRecord_14 : decode cX6_removeRecord 14 = .ok (.iconst 1, 1) := by decide +kernel
theorem dX6_removeRecord_15 : decode cX6_removeRecord 15 = .ok (.invokevirtual 58, 3) := by decide +kernel
theorem dX6_removeRecord_18 : decode cX6_removeRecord 18 = .ok (.ireturn, 1) := by decide +kernel
theorem dX6_removeRecord_19 : decode cX6_removeRecord 19 = .ok (.aload_n 0, 1) := by decide +kernel
theorem dX6_removeRecord_20 : decode cX6_removeRecord 20 = .ok (.invokevirtual 61, 3) := by decide +kernel
theorem dX6_removeRecord_23 : decode cX6_removeRecord 23 = .ok (.aload_n 0, 1) := by decide +kernel
theorem dX6_removeRecord_24 : decode cX6_removeRecord 24 = .ok (.iload_n 1, 1) := by decide +kernel
theorem dX6_removeRecord_25 : decode cX6_removeRecord 25 = .ok (.iconst 1, 1) := by decide +kernel
theorem dX6_removeRecord_26 : decode cX6_removeRecord 26 = .ok (.invokevirtual 36, 3) := by decide +kernel
theorem dX6_removeRecord_29 : decode cX6_removeRecord 29 = .ok (.istore_n 2, 1) := by decide +kernel
theorem dX6_removeRecord_30 : decode cX6_removeRecord 30 = .ok (.aload_n 0, 1) := by decide +kernel
theorem dX6_removeRecord_31 : decode cX6_removeRecord 31 = .ok (.getfield 7, 3) := by decide +kernel
theorem dX6_removeRecord_34 : decode cX6_removeRecord 34 = .ok (.iconst 0, 1) := by decide +kernel
theorem dX6_removeRecord_35 : decode cX6_removeRecord 35 = .ok (.dup2, 1) := by decide +kernel
theorem dX6_removeRecord_36 : decode cX6_removeRecord 36 = .ok (.iaload, 1) := by decide +kernel
theorem dX6_removeRecord_37 : decode cX6_removeRecord 37 = .ok (.iconst 1, 1) := by decide +kernel
theorem dX6_removeRecord_38 : decode cX6_removeRecord 38 = .ok (.isub, 1) := by decide +kernel
theorem dX6_removeRecord_39 : decode cX6_removeRecord 39 = .ok (.iastore, 1) := by decide +kernel
theorem dX6_removeRecord_40 : decode cX6_removeRecord 40 = .ok (.iconst 5, 1) := by decide +kernel
theorem dX6_removeRecord_41 : decode cX6_removeRecord 41 = .ok (.iload_n 1, 1) := by decide +kernel
theorem dX6_removeRecord_42 : decode cX6_removeRecord 42 = .ok (.imul, 1) := by decide +kernel
theorem dX6_removeRecord_43 : decode cX6_removeRecord 43 = .ok (.istore_n 3, 1) := by decide +kernel
theorem dX6_removeRecord_44 : decode cX6_removeRecord 44 = .ok (.iload_n 3, 1) := by decide +kernel
theorem dX6_removeRecord_45 : decode cX6_removeRecord 45 = .ok (.iconst 5, 1) := by decide +kernel
theorem dX6_removeRecord_46 : decode cX6_removeRecord 46 = .ok (.aload_n 0, 1) := by decide +kernel
theorem dX6_removeRecord_47 : decode cX6_removeRecord 47 = .ok (.getfield 7, 3) := by decide +kernel
theorem dX6_removeRecord_50 : decode cX6_removeRecord 50 = .ok (.iconst 0, 1) := by decide +kernel
theorem dX6_removeRecord_51 : decode cX6_removeRecord 51 = .ok (.iaload, 1) := by decide +kernel
theorem dX6_removeRecord_52 : decode cX6_removeRecord 52 = .ok (.imul, 1) := by decide +kernel
theorem dX6_removeRecord_53 : decode cX6_removeRecord 53 = .ok (.if_icmp .ge 29, 3) := by decide +kernel
theorem dX6_removeRecord_56 : decode cX6_removeRecord 56 = .ok (.aload_n 0, 1) := by decide +kernel
theorem dX6_removeRecord_57 : decode cX6_removeRecord 57 = .ok (.getfield 7, 3) := by decide +kernel
theorem dX6_removeRecord_60 : decode cX6_removeRecord 60 = .ok (.bipush 15, 2) := by decide +kernel
theorem dX6_removeRecord_62 : decode cX6_removeRecord 62 = .ok (.iload_n 3, 1) := by decide +kernel
theorem dX6_removeRecord_63 : decode cX6_removeRecord 63 = .ok (.iadd, 1) := by decide +kernel
theorem dX6_removeRecord_64 : decode cX6_removeRecord 64 = .ok (.aload_n 0, 1) := by decide +kernel
theorem dX6_removeRecord_65 : decode cX6_removeRecord 65 = .ok (.getfield 7, 3) := by decide +kernel
theorem dX6_removeRecord_68 : decode cX6_removeRecord 68 = .ok (.bipush 15, 2) := by decide +kernel
theorem dX6_removeRecord_70 : decode cX6_removeRecord 70 = .ok (.iload_n 3, 1) := by decide +kernel
theorem dX6_removeRecord_71 : decode cX6_removeRecord 71 = .ok (.iadd, 1) := by decide +kernel
theorem dX6_removeRecord_72 : decode cX6_removeRecord 72 = .ok (.iconst 5, 1) := by decide +kernel
theorem dX6_removeRecord_73 : decode cX6_removeRecord 73 = .ok (.iadd, 1) := by decide +kernel
theorem dX6_removeRecord_74 : decode cX6_removeRecord 74 = .ok (.iaload, 1) := by decide +kernel
theorem dX6_removeRecord_75 : decode cX6_removeRecord 75 = .ok (.iastore, 1) := by decide +kernel
theorem dX6_removeRecord_76 : decode cX6_removeRecord 76 = .ok (.iinc 3 1, 3) := by decide +kernel
theorem dX6_removeRecord_79 : decode cX6_removeRecord 79 = .ok (.goto (-35), 3) := by decide +kernel
theorem dX6_removeRecord_82 : decode cX6_removeRecord 82 = .ok (.iconst 0, 1) := by decide +kernel
theorem dX6_removeRecord_83 : decode cX6_removeRecord 83 = .ok (.istore_n 3, 1) := by decide +kernel
theorem dX6_removeRecord_84 : decode cX6_removeRecord 84 = .ok (.iload_n 3, 1) := by decide +kernel
theorem dX6_removeRecord_85 : decode cX6_removeRecord 85 = .ok (.iconst 5, 1) := by decide +kernel
theorem dX6_removeRecord_86 : decode cX6_removeRecord 86 = .ok (.if_icmp .ge 21, 3) := by decide +kernel
theorem dX6_removeRecord_89 : decode cX6_removeRecord 89 = .ok (.aload_n 0, 1) := by decide +kernel
theorem dX6_removeRecord_90 : decode cX6_removeRecord 90 = .ok (.aload_n 0, 1) := by decide +kernel
theorem dX6_removeRecord_91 : decode cX6_removeRecord 91 = .ok (.getfield 7, 3) := by decide +kernel
theorem dX6_removeRecord_94 : decode cX6_removeRecord 94 = .ok (.iconst 0, 1) := by decide +kernel
theorem dX6_removeRecord_95 : decode cX6_removeRecord 95 = .ok (.iaload, 1) := by decide +kernel
theorem dX6_removeRecord_96 : decode cX6_removeRecord 96 = .ok (.iload_n 3, 1) := by decide +kernel
theorem dX6_removeRecord_97 : decode cX6_removeRecord 97 = .ok (.iconst 0, 1) := by decide +kernel
theorem dX6_removeRecord_98 : decode cX6_removeRecord 98 = .ok (.invokevirtual 67, 3) := by decide +kernel
theorem dX6_removeRecord_101 : decode cX6_removeRecord 101 = .ok (.iinc 3 1, 3) := by decide +kernel
theorem dX6_removeRecord_104 : decode cX6_removeRecord 104 = .ok (.goto (-20), 3) := by decide +kernel
theorem dX6_removeRecord_107 : decode cX6_removeRecord 107 = .ok (.iload_n 2, 1) := by decide +kernel
theorem dX6_removeRecord_108 : decode cX6_removeRecord 108 = .ok (.ireturn, 1) := by decide +kernel
theorem dX6_records_0 : decode cX6_records 0 = .ok (.aload_n 0, 1) := by decide +kernel
theorem dX6_records_1 : decode cX6_records 1 = .ok (.iconst 0, 1) := by decide +kernel
theorem dX6_records_2 : decode cX6_records 2 = .ok (.putfield 25, 3) := by decide +kernel
theorem dX6_records_5 : decode cX6_records 5 = .ok (.aload_n 0, 1) := by decide +kernel
theorem dX6_records_6 : decode cX6_records 6 = .ok (.getfield 7, 3) := by decide +kernel
theorem dX6_records_9 : decode cX6_records 9 = .ok (.iconst 0, 1) := by decide +kernel
theorem dX6_records_10 : decode cX6_records 10 = .ok (.iaload, 1) := by decide +kernel
theorem dX6_records_11 : decode cX6_records 11 = .ok (.ireturn, 1) := by decide +kernel
set_option maxRecDepth 20000 in
theorem ggX6_width_X6_isRecord : GoodIn wsX6_width wsX6_isRecord := goodIn_r _ [6, 7, 8, 9, 5, 10, 19, 20, 21, 22, 23, 24, 25, 26, 27, 28, 29, 30, 31, 32, 33, 34] (by decide +kernel) (by decide +kernel)
set_option maxRecDepth 20000 in
theorem gX6_width_X6_isRecord : GoodIn wsX6_width (wsV RX6 77 RX6 yX6_isRecord wsX6_isRecord) := goodIn_app (goodIn_of _ (by decide +kernel)) ggX6_width_X6_isRecord
set_option maxRecDepth 20000 in
theorem ggX6_width_X6_of : GoodIn wsX6_width wsX6_of := goodIn_r _ [14, 7, 19, 20, 21, 22, 23, 24, 25, 26, 27, 28, 29, 30, 31, 32, 33, 34] (by decide +kernel) (by decide +kernel)
set_option maxRecDepth 20000 in
theorem gX6_width_X6_of : GoodIn wsX6_width (wsV RX6 36 RX6 yX6_of wsX6_of) := goodIn_app (goodIn_of _ (by decide +kernel)) ggX6_width_X6_of
set_option maxRecDepth 20000 in
theorem ggX6_width_X6_fails : GoodIn wsX6_width wsX6_fails := goodIn_r _ [18, 1, 19, 20, 21, 22, 23, 24, 25, 26, 27, 28, 29, 30, 31, 32, 33, 34] (by decide +kernel) (by decide +kernel)
set_option maxRecDepth 20000 in
theorem gX6_width_X6_fails : GoodIn wsX6_width (wsV RX6 58 RX6 yX6_fails wsX6_fails) := goodIn_app (goodIn_of _ (by decide +kernel)) ggX6_width_X6_fails
theorem dX6_width_0 : decode cX6_width 0 = .ok (.aload_n 0, 1) := by decide +kernel
theorem dX6_width_1 : decode cX6_width 1 = .ok (.iconst 0, 1) := by decide +kernel
theorem dX6_width_2 : decode cX6_width 2 = .ok (.putfield 25, 3) := by decide +kernel
theorem dX6_width_5 : decode cX6_width 5 = .ok (.aload_n 0, 1) := by decide +kernel
theorem dX6_width_6 : decode cX6_width 6 = .ok (.iload_n 1, 1) := by decide +kernel
theorem dX6_width_7 : decode cX6_width 7 = .ok (.invokevirtual 77, 3) := by decide +kernel
theorem dX6_width_10 : decode cX6_width 10 = .ok (.ifCond .eq 12, 3) := by decide +kernel
theorem dX6_width_13 : decode cX6_width 13 = .ok (.aload_n 0, 1) := by decide +kernel
theorem dX6_width_14 : decode cX6_width 14 = .ok (.iload_n 1, 1) := by decide +kernel
theorem dX6_width_15 : decode cX6_width 15 = .ok (.iconst 0, 1) := by decide +kernel
theorem dX6_width_16 : decode cX6_width 16 = .ok (.invokevirtual 36, 3) := by decide +kernel
theorem dX6_width_19 : decode cX6_width 19 = .ok (.goto 8, 3) := by decide +kernel
theorem dX6_width_22 : decode cX6_width 22 = .ok (.aload_n 0, 1) := by decide +kernel
theorem dX6_width_23 : decode cX6_width 23 = .ok (.iconst 1, 1) := by decide +kernel
theorem dX6_width_24 : decode cX6_width 24 = .ok (.invokevirtual 58, 3) := by decide +kernel
theorem dX6_width_27 : decode cX6_width 27 = .ok (.ireturn, 1) := by decide +kernel
set_option maxRecDepth 20000 in
theorem ggX6_shelfOf_X6_isRecord : GoodIn wsX6_shelfOf wsX6_isRecord := goodIn_r _ [6, 7, 8, 9, 5, 10, 19, 20, 21, 22, 23, 24, 25, 26, 27, 28, 29, 30, 31, 32, 33, 34] (by decide +kernel) (by decide +kernel)
set_option maxRecDepth 20000 in
theorem gX6_shelfOf_X6_isRecord : GoodIn wsX6_shelfOf (wsV RX6 77 RX6 yX6_isRecord wsX6_isRecord) := goodIn_app (goodIn_of _ (by decide +kernel)) ggX6_shelfOf_X6_isRecord
set_option maxRecDepth 20000 in
theorem ggX6_shelfOf_X6_of : GoodIn wsX6_shelfOf wsX6_of := goodIn_r _ [14, 7, 19, 20, 21, 22, 23, 24, 25, 26, 27, 28, 29, 30, 31, 32, 33, 34] (by decide +kernel) (by decide +kernel)
set_option maxRecDepth 20000 in
theorem gX6_shelfOf_X6_of : GoodIn wsX6_shelfOf (wsV RX6 36 RX6 yX6_of wsX6_of) := goodIn_app (goodIn_of _ (by decide +kernel)) ggX6_shelfOf_X6_of
set_option maxRecDepth 20000 in
theorem ggX6_shelfOf_X6_fails : GoodIn wsX6_shelfOf wsX6_fails := goodIn_r _ [18, 1, 19, 20, 21, 22, 23, 24, 25, 26, 27, 28, 29, 30, 31, 32, 33, 34] (by decide +kernel) (by decide +kernel)
set_option maxRecDepth 20000 in
theorem gX6_shelfOf_X6_fails : GoodIn wsX6_shelfOf (wsV RX6 58 RX6 yX6_fails wsX6_fails) := goodIn_app (goodIn_of _ (by decide +kernel)) ggX6_shelfOf_X6_fails
theorem dX6_shelfOf_0 : decode cX6_shelfOf 0 = .ok (.aload_n 0, 1) := by decide +kernel
theorem dX6_shelfOf_1 : decode cX6_shelfOf 1 = .ok (.iconst 0, 1) := by decide +kernel
theorem dX6_shelfOf_2 : decode cX6_shelfOf 2 = .ok (.putfield 25, 3) := by decide +kernel
theorem dX6_shelfOf_5 : decode cX6_shelfOf 5 = .ok (.aload_n 0, 1) := by decide +kernel
theorem dX6_shelfOf_6 : decode cX6_shelfOf 6 = .ok (.iload_n 1, 1) := by decide +kernel
theorem dX6_shelfOf_7 : decode cX6_shelfOf 7 = .ok (.invokevirtual 77, 3) := by decide +kernel
theorem dX6_shelfOf_10 : decode cX6_shelfOf 10 = .ok (.ifCond .eq 12, 3) := by decide +kernel
theorem dX6_shelfOf_13 : decode cX6_shelfOf 13 = .ok (.aload_n 0, 1) := by decide +kernel
theorem dX6_shelfOf_14 : decode cX6_shelfOf 14 = .ok (.iload_n 1, 1) := by decide +kernel
theorem dX6_shelfOf_15 : decode cX6_shelfOf 15 = .ok (.iconst 1, 1) := by decide +kernel
theorem dX6_shelfOf_16 : decode cX6_shelfOf 16 = .ok (.invokevirtual 36, 3) := by decide +kernel
theorem dX6_shelfOf_19 : decode cX6_shelfOf 19 = .ok (.goto 8, 3) := by decide +kernel
theorem dX6_shelfOf_22 : decode cX6_shelfOf 22 = .ok (.aload_n 0, 1) := by decide +kernel
theorem dX6_shelfOf_23 : decode cX6_shelfOf 23 = .ok (.iconst 1, 1) := by decide +kernel
theorem dX6_shelfOf_24 : decode cX6_shelfOf 24 = .ok (.invokevirtual 58, 3) := by decide +kernel
theorem dX6_shelfOf_27 : decode cX6_shelfOf 27 = .ok (.ireturn, 1) := by decide +kernel
set_option maxRecDepth 20000 in
theorem ggX6_catalog_X6_isRecord : GoodIn wsX6_catalog wsX6_isRecord := goodIn_r _ [6, 7, 8, 9, 5, 10, 19, 20, 21, 22, 23, 24, 25, 26, 27, 28, 29, 30, 31, 32, 33, 34] (by decide +kernel) (by decide +kernel)
set_option maxRecDepth 20000 in
theorem gX6_catalog_X6_isRecord : GoodIn wsX6_catalog (wsV RX6 77 RX6 yX6_isRecord wsX6_isRecord) := goodIn_app (goodIn_of _ (by decide +kernel)) ggX6_catalog_X6_isRecord
set_option maxRecDepth 20000 in
theorem ggX6_catalog_X6_of : GoodIn wsX6_catalog wsX6_of := goodIn_r _ [14, 7, 19, 20, 21, 22, 23, 24, 25, 26, 27, 28, 29, 30, 31, 32, 33, 34] (by decide +kernel) (by decide +kernel)
set_option maxRecDepth 20000 in
theorem gX6_catalog_X6_of : GoodIn wsX6_catalog (wsV RX6 36 RX6 yX6_of wsX6_of) := goodIn_app (goodIn_of _ (by decide +kernel)) ggX6_catalog_X6_of
set_option maxRecDepth 20000 in
theorem ggX6_catalog_X6_fails : GoodIn wsX6_catalog wsX6_fails := goodIn_r _ [18, 1, 19, 20, 21, 22, 23, 24, 25, 26, 27, 28, 29, 30, 31, 32, 33, 34] (by decide +kernel) (by decide +kernel)
set_option maxRecDepth 20000 in
theorem gX6_catalog_X6_fails : GoodIn wsX6_catalog (wsV RX6 58 RX6 yX6_fails wsX6_fails) := goodIn_app (goodIn_of _ (by decide +kernel)) ggX6_catalog_X6_fails
theorem dX6_catalog_0 : decode cX6_catalog 0 = .ok (.aload_n 0, 1) := by decide +kernel
theorem dX6_catalog_1 : decode cX6_catalog 1 = .ok (.iconst 0, 1) := by decide +kernel
theorem dX6_catalog_2 : decode cX6_catalog 2 = .ok (.putfield 25, 3) := by decide +kernel
theorem dX6_catalog_5 : decode cX6_catalog 5 = .ok (.aload_n 0, 1) := by decide +kernel
theorem dX6_catalog_6 : decode cX6_catalog 6 = .ok (.iload_n 1, 1) := by decide +kernel
theorem dX6_catalog_7 : decode cX6_catalog 7 = .ok (.invokevirtual 77, 3) := by decide +kernel
theorem dX6_catalog_10 : decode cX6_catalog 10 = .ok (.ifCond .eq 12, 3) := by decide +kernel
theorem dX6_catalog_13 : decode cX6_catalog 13 = .ok (.aload_n 0, 1) := by decide +kernel
theorem dX6_catalog_14 : decode cX6_catalog 14 = .ok (.iload_n 1, 1) := by decide +kernel
theorem dX6_catalog_15 : decode cX6_catalog 15 = .ok (.iconst 2, 1) := by decide +kernel
theorem dX6_catalog_16 : decode cX6_catalog 16 = .ok (.invokevirtual 36, 3) := by decide +kernel
theorem dX6_catalog_19 : decode cX6_catalog 19 = .ok (.goto 8, 3) := by decide +kernel
theorem dX6_catalog_22 : decode cX6_catalog 22 = .ok (.aload_n 0, 1) := by decide +kernel
theorem dX6_catalog_23 : decode cX6_catalog 23 = .ok (.iconst 1, 1) := by decide +kernel
theorem dX6_catalog_24 : decode cX6_catalog 24 = .ok (.invokevirtual 58, 3) := by decide +kernel
theorem dX6_catalog_27 : decode cX6_catalog 27 = .ok (.ireturn, 1) := by decide +kernel
set_option maxRecDepth 20000 in
theorem ggX6_weight_X6_isRecord : GoodIn wsX6_weight wsX6_isRecord := goodIn_r _ [6, 7, 8, 9, 5, 10, 23, 24, 25, 26, 27, 28, 29, 30, 31, 32, 33, 34, 35, 36, 37, 38] (by decide +kernel) (by decide +kernel)
set_option maxRecDepth 20000 in
theorem gX6_weight_X6_isRecord : GoodIn wsX6_weight (wsV RX6 77 RX6 yX6_isRecord wsX6_isRecord) := goodIn_app (goodIn_of _ (by decide +kernel)) ggX6_weight_X6_isRecord
set_option maxRecDepth 20000 in
theorem ggX6_weight_X6_heft : GoodIn wsX6_weight wsX6_heft := goodIn_r _ [14, 15, 16, 17, 5, 18, 7, 23, 24, 25, 26, 27, 28, 29, 30, 31, 32, 33, 34, 35, 36, 37, 38] (by decide +kernel) (by decide +kernel)
set_option maxRecDepth 20000 in
theorem gX6_weight_X6_heft : GoodIn wsX6_weight (wsV RX6 44 RX6 yX6_heft wsX6_heft) := goodIn_app (goodIn_of _ (by decide +kernel)) ggX6_weight_X6_heft
set_option maxRecDepth 20000 in
theorem ggX6_weight_X6_fails : GoodIn wsX6_weight wsX6_fails := goodIn_r _ [22, 1, 23, 24, 25, 26, 27, 28, 29, 30, 31, 32, 33, 34, 35, 36, 37, 38] (by decide +kernel) (by decide +kernel)
set_option maxRecDepth 20000 in
theorem gX6_weight_X6_fails : GoodIn wsX6_weight (wsV RX6 58 RX6 yX6_fails wsX6_fails) := goodIn_app (goodIn_of _ (by decide +kernel)) ggX6_weight_X6_fails
theorem dX6_weight_0 : decode cX6_weight 0 = .ok (.aload_n 0, 1) := by decide +kernel
theorem dX6_weight_1 : decode cX6_weight 1 = .ok (.iconst 0, 1) := by decide +kernel
theorem dX6_weight_2 : decode cX6_weight 2 = .ok (.putfield 25, 3) := by decide +kernel
theorem dX6_weight_5 : decode cX6_weight 5 = .ok (.aload_n 0, 1) := by decide +kernel
theorem dX6_weight_6 : decode cX6_weight 6 = .ok (.iload_n 1, 1) := by decide +kernel
theorem dX6_weight_7 : decode cX6_weight 7 = .ok (.invokevirtual 77, 3) := by decide +kernel
theorem dX6_weight_10 : decode cX6_weight 10 = .ok (.ifCond .eq 11, 3) := by decide +kernel
theorem dX6_weight_13 : decode cX6_weight 13 = .ok (.aload_n 0, 1) := by decide +kernel
theorem dX6_weight_14 : decode cX6_weight 14 = .ok (.iload_n 1, 1) := by decide +kernel
theorem dX6_weight_15 : decode cX6_weight 15 = .ok (.invokevirtual 44, 3) := by decide +kernel
theorem dX6_weight_18 : decode cX6_weight 18 = .ok (.goto 8, 3) := by decide +kernel
theorem dX6_weight_21 : decode cX6_weight 21 = .ok (.aload_n 0, 1) := by decide +kernel
theorem dX6_weight_22 : decode cX6_weight 22 = .ok (.iconst 1, 1) := by decide +kernel
theorem dX6_weight_23 : decode cX6_weight 23 = .ok (.invokevirtual 58, 3) := by decide +kernel
theorem dX6_weight_26 : decode cX6_weight 26 = .ok (.ireturn, 1) := by decide +kernel
set_option maxRecDepth 20000 in
theorem ggX6_free_X6_isShelf : GoodIn wsX6_free wsX6_isShelf := goodIn_r _ [5, 6, 7, 4, 8] (by decide +kernel) (by decide +kernel)
set_option maxRecDepth 20000 in
theorem gX6_free_X6_isShelf : GoodIn wsX6_free (va_wsS RX6 55 yX6_isShelf wsX6_isShelf) := goodIn_app (goodIn_of _ (by decide +kernel)) ggX6_free_X6_isShelf
set_option maxRecDepth 20000 in
theorem ggX6_free_X6_room : GoodIn wsX6_free wsX6_room := goodIn_r _ [12, 13, 14, 15, 16, 4, 17, 18, 19, 20, 21, 26, 27, 28, 29, 30, 31, 32, 33, 34, 35, 36, 37, 38, 39, 40, 41] (by decide +kernel) (by decide +kernel)
set_option maxRecDepth 20000 in
theorem gX6_free_X6_room : GoodIn wsX6_free (wsV RX6 64 RX6 yX6_room wsX6_room) := goodIn_app (goodIn_of _ (by decide +kernel)) ggX6_free_X6_room
set_option maxRecDepth 20000 in
theorem ggX6_free_X6_fails : GoodIn wsX6_free wsX6_fails := goodIn_r _ [25, 1, 26, 27, 28, 29, 30, 31, 32, 33, 34, 35, 36, 37, 38, 39, 40, 41] (by decide +kernel) (by decide +kernel)
set_option maxRecDepth 20000 in
theorem gX6_free_X6_fails : GoodIn wsX6_free (wsV RX6 58 RX6 yX6_fails wsX6_fails) := goodIn_app (goodIn_of _ (by decide +kernel)) ggX6_free_X6_fails
theorem dX6_free_0 : decode cX6_free 0 = .ok (.aload_n 0, 1) := by decide +kernel
theorem dX6_free_1 : decode cX6_free 1 = .ok (.iconst 0, 1) := by decide +kernel
theorem dX6_free_2 : decode cX6_free 2 = .ok (.putfield 25, 3) := by decide +kernel
theorem dX6_free_5 : decode cX6_free 5 = .ok (.iload_n 1, 1) := by decide +kernel
theorem dX6_free_6 : decode cX6_free 6 = .ok (.invokestatic 55, 3) := by decide +kernel
theorem dX6_free_9 : decode cX6_free 9 = .ok (.ifCond .eq 11, 3) := by decide +kernel
theorem dX6_free_12 : decode cX6_free 12 = .ok (.aload_n 0, 1) := by decide +kernel
theorem dX6_free_13 : decode cX6_free 13 = .ok (.iload_n 1, 1) := by decide +kernel
theorem dX6_free_14 : decode cX6_free 14 = .ok (.invokevirtual 64, 3) := by decide +kernel
theorem dX6_free_17 : decode cX6_free 17 = .ok (.goto 8, 3) := by decide +kernel
theorem dX6_free_20 : decode cX6_free 20 = .ok (.aload_n 0, 1) := by decide +kernel
theorem dX6_free_21 : decode cX6_free 21 = .ok (.iconst 1, 1) := by decide +kernel
theorem dX6_free_22 : decode cX6_free 22 = .ok (.invokevirtual 58, 3) := by decide +kernel
theorem dX6_free_25 : decode cX6_free 25 = .ok (.ireturn, 1) := by decide +kernel
set_option maxRecDepth 20000 in
theorem ggX6_reach_X6_isShelf : GoodIn wsX6_reach wsX6_isShelf := goodIn_r _ [6, 7, 8, 5, 9] (by decide +kernel) (by decide +kernel)
set_option maxRecDepth 20000 in
theorem gX6_reach_X6_isShelf : GoodIn wsX6_reach (va_wsS RX6 55 yX6_isShelf wsX6_isShelf) := goodIn_app (goodIn_of _ (by decide +kernel)) ggX6_reach_X6_isShelf
set_option maxRecDepth 20000 in
theorem ggX6_reach_X6_fails : GoodIn wsX6_reach wsX6_fails := goodIn_r _ [13, 1, 14, 15, 16, 17, 18, 19, 20, 21, 22, 23, 24, 25, 26, 27, 28, 29] (by decide +kernel) (by decide +kernel)
set_option maxRecDepth 20000 in
theorem gX6_reach_X6_fails : GoodIn wsX6_reach (wsV RX6 58 RX6 yX6_fails wsX6_fails) := goodIn_app (goodIn_of _ (by decide +kernel)) ggX6_reach_X6_fails
theorem dX6_reach_0 : decode cX6_reach 0 = .ok (.aload_n 0, 1) := by decide +kernel
theorem dX6_reach_1 : decode cX6_reach 1 = .ok (.iconst 0, 1) := by decide +kernel
theorem dX6_reach_2 : decode cX6_reach 2 = .ok (.putfield 25, 3) := by decide +kernel
theorem dX6_reach_5 : decode cX6_reach 5 = .ok (.iload_n 1, 1) := by decide +kernel
theorem dX6_reach_6 : decode cX6_reach 6 = .ok (.invokestatic 55, 3) := by decide +kernel
theorem dX6_reach_9 : decode cX6_reach 9 = .ok (.ifCond .eq 15, 3) := by decide +kernel
theorem dX6_reach_12 : decode cX6_reach 12 = .ok (.aload_n 0, 1) := by decide +kernel
theorem dX6_reach_13 : decode cX6_reach 13 = .ok (.getfield 7, 3) := by decide +kernel
theorem dX6_reach_16 : decode cX6_reach 16 = .ok (.bipush 9, 2) := by decide +kernel
theorem dX6_reach_18 : decode cX6_reach 18 = .ok (.iload_n 1, 1) := by decide +kernel
theorem dX6_reach_19 : decode cX6_reach 19 = .ok (.iadd, 1) := by decide +kernel
theorem dX6_reach_20 : decode cX6_reach 20 = .ok (.iaload, 1) := by decide +kernel
theorem dX6_reach_21 : decode cX6_reach 21 = .ok (.goto 8, 3) := by decide +kernel
theorem dX6_reach_24 : decode cX6_reach 24 = .ok (.aload_n 0, 1) := by decide +kernel
theorem dX6_reach_25 : decode cX6_reach 25 = .ok (.iconst 1, 1) := by decide +kernel
theorem dX6_reach_26 : decode cX6_reach 26 = .ok (.invokevirtual 58, 3) := by decide +kernel
theorem dX6_reach_29 : decode cX6_reach 29 = .ok (.ireturn, 1) := by decide +kernel
set_option maxRecDepth 20000 in
theorem ggX6_calls_X6_walk : GoodIn wsX6_calls wsX6_walk := goodIn_r _ [6, 1, 7, 8, 9, 5, 10, 11, 12, 13, 14, 15, 16, 17, 18, 23, 24, 25, 26, 27, 28, 29, 30, 31, 32, 33, 34, 35, 36, 37, 38] (by decide +kernel) (by decide +kernel)
set_option maxRecDepth 20000 in
theorem gX6_calls_X6_walk : GoodIn wsX6_calls (wsV RX6 80 RX6 yX6_walk wsX6_walk) := goodIn_app (goodIn_of _ (by decide +kernel)) ggX6_calls_X6_walk
set_option maxRecDepth 20000 in
theorem ggX6_calls_X6_of : GoodIn wsX6_calls wsX6_of := goodIn_r _ [10, 1, 23, 24, 25, 26, 27, 28, 29, 30, 31, 32, 33, 34, 35, 36, 37, 38] (by decide +kernel) (by decide +kernel)
set_option maxRecDepth 20000 in
theorem gX6_calls_X6_of : GoodIn wsX6_calls (wsV RX6 36 RX6 yX6_of wsX6_of) := goodIn_app (goodIn_of _ (by decide +kernel)) ggX6_calls_X6_of
set_option maxRecDepth 20000 in
theorem ggX6_calls_X6_lay : GoodIn wsX6_calls wsX6_lay := goodIn_r _ [22, 1, 23, 24, 25, 26, 27, 28, 29, 30, 31, 32, 33, 34, 35, 36, 37, 38] (by decide +kernel) (by decide +kernel)
set_option maxRecDepth 20000 in
theorem gX6_calls_X6_lay : GoodIn wsX6_calls (wsV RX6 67 RX6 yX6_lay wsX6_lay) := goodIn_app (goodIn_of _ (by decide +kernel)) ggX6_calls_X6_lay
theorem dX6_calls_0 : decode cX6_calls 0 = .ok (.aload_n 0, 1) := by decide +kernel
theorem dX6_calls_1 : decode cX6_calls 1 = .ok (.iload_n 1, 1) := by decide +kernel
theorem dX6_calls_2 : decode cX6_calls 2 = .ok (.invokevirtual 80, 3) := by decide +kernel
theorem dX6_calls_5 : decode cX6_calls 5 = .ok (.istore_n 2, 1) := by decide +kernel
theorem dX6_calls_6 : decode cX6_calls 6 = .ok (.aload_n 0, 1) := by decide +kernel
theorem dX6_calls_7 : decode cX6_calls 7 = .ok (.iload_n 1, 1) := by decide +kernel
theorem dX6_calls_8 : decode cX6_calls 8 = .ok (.iconst 3, 1) := by decide +kernel
theorem dX6_calls_9 : decode cX6_calls 9 = .ok (.aload_n 0, 1) := by decide +kernel
theorem dX6_calls_10 : decode cX6_calls 10 = .ok (.iload_n 1, 1) := by decide +kernel
theorem dX6_calls_11 : decode cX6_calls 11 = .ok (.iconst 3, 1) := by decide +kernel
theorem dX6_calls_12 : decode cX6_calls 12 = .ok (.invokevirtual 36, 3) := by decide +kernel
theorem dX6_calls_15 : decode cX6_calls 15 = .ok (.iconst 1, 1) := by decide +kernel
theorem dX6_calls_16 : decode cX6_calls 16 = .ok (.iadd, 1) := by decide +kernel
theorem dX6_calls_17 : decode cX6_calls 17 = .ok (.invokevirtual 67, 3) := by decide +kernel
theorem dX6_calls_20 : decode cX6_calls 20 = .ok (.aload_n 0, 1) := by decide +kernel
theorem dX6_calls_21 : decode cX6_calls 21 = .ok (.iload_n 1, 1) := by decide +kernel
theorem dX6_calls_22 : decode cX6_calls 22 = .ok (.iconst 2, 1) := by decide +kernel
theorem dX6_calls_23 : decode cX6_calls 23 = .ok (.aload_n 0, 1) := by decide +kernel
theorem dX6_calls_24 : decode cX6_calls 24 = .ok (.iload_n 1, 1) := by decide +kernel
theorem dX6_calls_25 : decode cX6_calls 25 = .ok (.iconst 1, 1) := by decide +kernel
theorem dX6_calls_26 : decode cX6_calls 26 = .ok (.invokevirtual 36, 3) := by decide +kernel
theorem dX6_calls_29 : decode cX6_calls 29 = .ok (.invokevirtual 67, 3) := by decide +kernel
theorem dX6_calls_32 : decode cX6_calls 32 = .ok (.aload_n 0, 1) := by decide +kernel
theorem dX6_calls_33 : decode cX6_calls 33 = .ok (.getfield 7, 3) := by decide +kernel
theorem dX6_calls_36 : decode cX6_calls 36 = .ok (.iconst 1, 1) := by decide +kernel
theorem dX6_calls_37 : decode cX6_calls 37 = .ok (.dup2, 1) := by decide +kernel
theorem dX6_calls_38 : decode cX6_calls 38 = .ok (.iaload, 1) := by decide +kernel
theorem dX6_calls_39 : decode cX6_calls 39 = .ok (.iload_n 2, 1) := by decide +kernel
theorem dX6_calls_40 : decode cX6_calls 40 = .ok (.iadd, 1) := by decide +kernel
theorem dX6_calls_41 : decode cX6_calls 41 = .ok (.iastore, 1) := by decide +kernel
theorem dX6_calls_42 : decode cX6_calls 42 = .ok (.iload_n 2, 1) := by decide +kernel
theorem dX6_calls_43 : decode cX6_calls 43 = .ok (.ireturn, 1) := by decide +kernel
set_option maxRecDepth 20000 in
theorem ggX6_call_X6_isRecord : GoodIn wsX6_call wsX6_isRecord := goodIn_r _ [6, 7, 8, 9, 5, 10, 45, 46, 47, 48, 49, 50, 51, 52, 53, 54, 55, 56, 57, 58, 59, 60] (by decide +kernel) (by decide +kernel)
set_option maxRecDepth 20000 in
theorem gX6_call_X6_isRecord : GoodIn wsX6_call (wsV RX6 77 RX6 yX6_isRecord wsX6_isRecord) := goodIn_app (goodIn_of _ (by decide +kernel)) ggX6_call_X6_isRecord
set_option maxRecDepth 20000 in
theorem ggX6_call_X6_fails : GoodIn wsX6_call wsX6_fails := goodIn_r _ [14, 1, 45, 46, 47, 48, 49, 50, 51, 52, 53, 54, 55, 56, 57, 58, 59, 60] (by decide +kernel) (by decide +kernel)
set_option maxRecDepth 20000 in
theorem gX6_call_X6_fails : GoodIn wsX6_call (wsV RX6 58 RX6 yX6_fails wsX6_fails) := goodIn_app (goodIn_of _ (by decide +kernel)) ggX6_call_X6_fails
set_option maxRecDepth 20000 in
theorem ggX6_call_X6_saves : GoodIn wsX6_call wsX6_saves := goodIn_r _ [18, 19, 20, 7, 45, 46, 47, 48, 49, 50, 51, 52, 53, 54, 55, 56, 57, 58, 59, 60] (by decide +kernel) (by decide +kernel)
set_option maxRecDepth 20000 in
theorem gX6_call_X6_saves : GoodIn wsX6_call (wsV RX6 61 RX6 yX6_saves wsX6_saves) := goodIn_app (goodIn_of _ (by decide +kernel)) ggX6_call_X6_saves
set_option maxRecDepth 20000 in
theorem ggX6_call_X6_calls : GoodIn wsX6_call wsX6_calls := goodIn_r _ [24, 7, 25, 26, 27, 5, 28, 29, 30, 31, 32, 33, 34, 35, 36, 37, 38, 39, 40, 41, 42, 43, 44, 45, 46, 47, 48, 49, 50, 51, 52, 53, 54, 55, 56, 57, 58, 59, 60] (by decide +kernel) (by decide +kernel)
set_option maxRecDepth 20000 in
theorem gX6_call_X6_calls : GoodIn wsX6_call (wsV RX6 83 RX6 yX6_calls wsX6_calls) := goodIn_app (goodIn_of _ (by decide +kernel)) ggX6_call_X6_calls
theorem dX6_call_0 : decode cX6_call 0 = .ok (.aload_n 0, 1) := by decide +kernel
theorem dX6_call_1 : decode cX6_call 1 = .ok (.iconst 0, 1) := by decide +kernel
theorem dX6_call_2 : decode cX6_call 2 = .ok (.putfield 25, 3) := by decide +kernel
theorem dX6_call_5 : decode cX6_call 5 = .ok (.aload_n 0, 1) := by decide +kernel
theorem dX6_call_6 : decode cX6_call 6 = .ok (.iload_n 1, 1) := by decide +kernel
theorem dX6_call_7 : decode cX6_call 7 = .ok (.invokevirtual 77, 3) := by decide +kernel
theorem dX6_call_10 : decode cX6_call 10 = .ok (.ifCond .ne 9, 3) := by decide +kernel
theorem dX6_call_13 : decode cX6_call 13 = .ok (.aload_n 0, 1) := by decide +kernel
theorem dX6_call_14 : decode cX6_call 14 = .ok (.iconst 1, 1) := by decide +kernel
theorem dX6_call_15 : decode cX6_call 15 = .ok (.invokevirtual 58, 3) := by decide +kernel
theorem dX6_call_18 : decode cX6_call 18 = .ok (.ireturn, 1) := by decide +kernel
theorem dX6_call_19 : decode cX6_call 19 = .ok (.aload_n 0, 1) := by decide +kernel
theorem dX6_call_20 : decode cX6_call 20 = .ok (.invokevirtual 61, 3) := by decide +kernel
theorem dX6_call_23 : decode cX6_call 23 = .ok (.aload_n 0, 1) := by decide +kernel
theorem dX6_call_24 : decode cX6_call 24 = .ok (.iload_n 1, 1) := by decide +kernel
theorem dX6_call_25 : decode cX6_call 25 = .ok (.invokevirtual 83, 3) := by decide +kernel
theorem dX6_call_28 : decode cX6_call 28 = .ok (.ireturn, 1) := by decide +kernel
set_option maxRecDepth 20000 in
theorem ggX6_refusesMisplacing_X6_isRecord : GoodIn wsX6_refusesMisplacing wsX6_isRecord := goodIn_r _ [5, 6, 7, 8, 4, 9, 25, 26, 27, 28, 29, 30, 31, 32, 33, 34, 35, 36, 37, 38, 39, 40] (by decide +kernel) (by decide +kernel)
set_option maxRecDepth 20000 in
theorem gX6_refusesMisplacing_X6_isRecord : GoodIn wsX6_refusesMisplacing (wsV RX6 77 RX6 yX6_isRecord wsX6_isRecord) := goodIn_app (goodIn_of _ (by decide +kernel)) ggX6_refusesMisplacing_X6_isRecord
set_option maxRecDepth 20000 in
theorem ggX6_refusesMisplacing_X6_isShelf : GoodIn wsX6_refusesMisplacing wsX6_isShelf := goodIn_r _ [12, 7, 8, 4, 9] (by decide +kernel) (by decide +kernel)
set_option maxRecDepth 20000 in
theorem gX6_refusesMisplacing_X6_isShelf : GoodIn wsX6_refusesMisplacing (va_wsS RX6 55 yX6_isShelf wsX6_isShelf) := goodIn_app (goodIn_of _ (by decide +kernel)) ggX6_refusesMisplacing_X6_isShelf
set_option maxRecDepth 20000 in
theorem ggX6_refusesMisplacing_X6_of : GoodIn wsX6_refusesMisplacing wsX6_of := goodIn_r _ [16, 6, 25, 26, 27, 28, 29, 30, 31, 32, 33, 34, 35, 36, 37, 38, 39, 40] (by decide +kernel) (by decide +kernel)
set_option maxRecDepth 20000 in
theorem gX6_refusesMisplacing_X6_of : GoodIn wsX6_refusesMisplacing (wsV RX6 36 RX6 yX6_of wsX6_of) := goodIn_app (goodIn_of _ (by decide +kernel)) ggX6_refusesMisplacing_X6_of
set_option maxRecDepth 20000 in
theorem ggX6_refusesMisplacing_X6_room : GoodIn wsX6_refusesMisplacing wsX6_room := goodIn_r _ [20, 6, 21, 22, 23, 4, 24, 13, 14, 15, 16, 25, 26, 27, 28, 29, 30, 31, 32, 33, 34, 35, 36, 37, 38, 39, 40] (by decide +kernel) (by decide +kernel)
set_option maxRecDepth 20000 in
theorem gX6_refusesMisplacing_X6_room : GoodIn wsX6_refusesMisplacing (wsV RX6 64 RX6 yX6_room wsX6_room) := goodIn_app (goodIn_of _ (by decide +kernel)) ggX6_refusesMisplacing_X6_room
theorem dX6_refusesMisplacing_0 : decode cX6_refusesMisplacing 0 = .ok (.aload_n 0, 1) := by decide +kernel
theorem dX6_refusesMisplacing_1 : decode cX6_refusesMisplacing 1 = .ok (.iload_n 1, 1) := by decide +kernel
theorem dX6_refusesMisplacing_2 : decode cX6_refusesMisplacing 2 = .ok (.invokevirtual 77, 3) := by decide +kernel
theorem dX6_refusesMisplacing_5 : decode cX6_refusesMisplacing 5 = .ok (.ifCond .eq 10, 3) := by decide +kernel
theorem dX6_refusesMisplacing_8 : decode cX6_refusesMisplacing 8 = .ok (.iload_n 2, 1) := by decide +kernel
theorem dX6_refusesMisplacing_9 : decode cX6_refusesMisplacing 9 = .ok (.invokestatic 55, 3) := by decide +kernel
theorem dX6_refusesMisplacing_12 : decode cX6_refusesMisplacing 12 = .ok (.ifCond .ne 5, 3) := by decide +kernel
theorem dX6_refusesMisplacing_15 : decode cX6_refusesMisplacing 15 = .ok (.iconst 1, 1) := by decide +kernel
theorem dX6_refusesMisplacing_16 : decode cX6_refusesMisplacing 16 = .ok (.ireturn, 1) := by decide +kernel
theorem dX6_refusesMisplacing_17 : decode cX6_refusesMisplacing 17 = .ok (.aload_n 0, 1) := by decide +kernel
theorem dX6_refusesMisplacing_18 : decode cX6_refusesMisplacing 18 = .ok (.iload_n 1, 1) := by decide +kernel
theorem dX6_refusesMisplacing_19 : decode cX6_refusesMisplacing 19 = .ok (.iconst 1, 1) := by decide +kernel
theorem dX6_refusesMisplacing_20 : decode cX6_refusesMisplacing 20 = .ok (.invokevirtual 36, 3) := by decide +kernel
theorem dX6_refusesMisplacing_23 : decode cX6_refusesMisplacing 23 = .ok (.iload_n 2, 1) := by decide +kernel
theorem dX6_refusesMisplacing_24 : decode cX6_refusesMisplacing 24 = .ok (.if_icmp .eq 21, 3) := by decide +kernel
theorem dX6_refusesMisplacing_27 : decode cX6_refusesMisplacing 27 = .ok (.aload_n 0, 1) := by decide +kernel
theorem dX6_refusesMisplacing_28 : decode cX6_refusesMisplacing 28 = .ok (.iload_n 2, 1) := by decide +kernel
theorem dX6_refusesMisplacing_29 : decode cX6_refusesMisplacing 29 = .ok (.invokevirtual 64, 3) := by decide +kernel
theorem dX6_refusesMisplacing_32 : decode cX6_refusesMisplacing 32 = .ok (.aload_n 0, 1) := by decide +kernel
theorem dX6_refusesMisplacing_33 : decode cX6_refusesMisplacing 33 = .ok (.iload_n 1, 1) := by decide +kernel
theorem dX6_refusesMisplacing_34 : decode cX6_refusesMisplacing 34 = .ok (.iconst 0, 1) := by decide +kernel
theorem dX6_refusesMisplacing_35 : decode cX6_refusesMisplacing 35 = .ok (.invokevirtual 36, 3) := by decide +kernel
theorem dX6_refusesMisplacing_38 : decode cX6_refusesMisplacing 38 = .ok (.if_icmp .ge 7, 3) := by decide +kernel
theorem dX6_refusesMisplacing_41 : decode cX6_refusesMisplacing 41 = .ok (.iconst 2, 1) := by decide +kernel
theorem dX6_refusesMisplacing_42 : decode cX6_refusesMisplacing 42 = .ok (.goto 4, 3) := by decide +kernel
theorem dX6_refusesMisplacing_45 : decode cX6_refusesMisplacing 45 = .ok (.iconst 0, 1) := by decide +kernel
theorem dX6_refusesMisplacing_46 : decode cX6_refusesMisplacing 46 = .ok (.ireturn, 1) := by decide +kernel
set_option maxRecDepth 20000 in
theorem ggX6_misplace_X6_refusesMisplacing : GoodIn wsX6_misplace wsX6_refusesMisplacing := goodIn_r _ [6, 7, 8, 9, 5, 10, 11, 12, 13, 14, 15, 16, 17, 18, 19, 20, 21, 22, 23, 24, 25, 26, 27, 28, 29, 44, 45, 46, 47, 48, 49, 50, 51, 52, 53, 54, 55, 56, 57, 58, 59] (by decide +kernel) (by decide +kernel)
set_option maxRecDepth 20000 in
theorem gX6_misplace_X6_refusesMisplacing : GoodIn wsX6_misplace (wsV RX6 86 RX6 yX6_refusesMisplacing wsX6_refusesMisplacing) := goodIn_app (goodIn_of _ (by decide +kernel)) ggX6_misplace_X6_refusesMisplacing
set_option maxRecDepth 20000 in
theorem ggX6_misplace_X6_fails : GoodIn wsX6_misplace wsX6_fails := goodIn_r _ [33, 1, 44, 45, 46, 47, 48, 49, 50, 51, 52, 53, 54, 55, 56, 57, 58, 59] (by decide +kernel) (by decide +kernel)
set_option maxRecDepth 20000 in
theorem gX6_misplace_X6_fails : GoodIn wsX6_misplace (wsV RX6 58 RX6 yX6_fails wsX6_fails) := goodIn_app (goodIn_of _ (by decide +kernel)) ggX6_misplace_X6_fails
set_option maxRecDepth 20000 in
theorem ggX6_misplace_X6_saves : GoodIn wsX6_misplace wsX6_saves := goodIn_r _ [37, 38, 39, 11, 44, 45, 46, 47, 48, 49, 50, 51, 52, 53, 54, 55, 56, 57, 58, 59] (by decide +kernel) (by decide +kernel)
set_option maxRecDepth 20000 in
theorem gX6_misplace_X6_saves : GoodIn wsX6_misplace (wsV RX6 61 RX6 yX6_saves wsX6_saves) := goodIn_app (goodIn_of _ (by decide +kernel)) ggX6_misplace_X6_saves
set_option maxRecDepth 20000 in
theorem ggX6_misplace_X6_of : GoodIn wsX6_misplace wsX6_of := goodIn_r _ [21, 11, 44, 45, 46, 47, 48, 49, 50, 51, 52, 53, 54, 55, 56, 57, 58, 59] (by decide +kernel) (by decide +kernel)
set_option maxRecDepth 20000 in
theorem gX6_misplace_X6_of : GoodIn wsX6_misplace (wsV RX6 36 RX6 yX6_of wsX6_of) := goodIn_app (goodIn_of _ (by decide +kernel)) ggX6_misplace_X6_of
set_option maxRecDepth 20000 in
theorem ggX6_misplace_X6_lay : GoodIn wsX6_misplace wsX6_lay := goodIn_r _ [43, 11, 44, 45, 46, 47, 48, 49, 50, 51, 52, 53, 54, 55, 56, 57, 58, 59] (by decide +kernel) (by decide +kernel)
set_option maxRecDepth 20000 in
theorem gX6_misplace_X6_lay : GoodIn wsX6_misplace (wsV RX6 67 RX6 yX6_lay wsX6_lay) := goodIn_app (goodIn_of _ (by decide +kernel)) ggX6_misplace_X6_lay
theorem dX6_misplace_0 : decode cX6_misplace 0 = .ok (.aload_n 0, 1) := by decide +kernel
theorem dX6_misplace_1 : decode cX6_misplace 1 = .ok (.iconst 0, 1) := by decide +kernel
theorem dX6_misplace_2 : decode cX6_misplace 2 = .ok (.putfield 25, 3) := by decide +kernel
theorem dX6_misplace_5 : decode cX6_misplace 5 = .ok (.aload_n 0, 1) := by decide +kernel
theorem dX6_misplace_6 : decode cX6_misplace 6 = .ok (.iload_n 1, 1) := by decide +kernel
theorem dX6_misplace_7 : decode cX6_misplace 7 = .ok (.iload_n 2, 1) := by decide +kernel
theorem dX6_misplace_8 : decode cX6_misplace 8 = .ok (.invokevirtual 86, 3) := by decide +kernel
theorem dX6_misplace_11 : decode cX6_misplace 11 = .ok (.istore_n 3, 1) := by decide +kernel
theorem dX6_misplace_12 : decode cX6_misplace 12 = .ok (.iload_n 3, 1) := by decide +kernel
theorem dX6_misplace_13 : decode cX6_misplace 13 = .ok (.ifCond .eq 9, 3) := by decide +kernel
theorem dX6_misplace_16 : decode cX6_misplace 16 = .ok (.aload_n 0, 1) := by decide +kernel
theorem dX6_misplace_17 : decode cX6_misplace 17 = .ok (.iload_n 3, 1) := by decide +kernel
theorem dX6_misplace_18 : decode cX6_misplace 18 = .ok (.invokevirtual 58, 3) := by decide +kernel
theorem dX6_misplace_21 : decode cX6_misplace 21 = .ok (.ireturn, 1) := by decide +kernel
theorem dX6_misplace_22 : decode cX6_misplace 22 = .ok (.aload_n 0, 1) := by decide +kernel
theorem dX6_misplace_23 : decode cX6_misplace 23 = .ok (.invokevirtual 61, 3) := by decide +kernel
theorem dX6_misplace_26 : decode cX6_misplace 26 = .ok (.aload_n 0, 1) := by decide +kernel
theorem dX6_misplace_27 : decode cX6_misplace 27 = .ok (.iload_n 1, 1) := by decide +kernel
theorem dX6_misplace_28 : decode cX6_misplace 28 = .ok (.iconst 1, 1) := by decide +kernel
theorem dX6_misplace_29 : decode cX6_misplace 29 = .ok (.invokevirtual 36, 3) := by decide +kernel
theorem dX6_misplace_32 : decode cX6_misplace 32 = .ok (.istore 4, 2) := by decide +kernel
theorem dX6_misplace_34 : decode cX6_misplace 34 = .ok (.aload_n 0, 1) := by decide +kernel
theorem dX6_misplace_35 : decode cX6_misplace 35 = .ok (.iload_n 1, 1) := by decide +kernel
theorem dX6_misplace_36 : decode cX6_misplace 36 = .ok (.iconst 1, 1) := by decide +kernel
theorem dX6_misplace_37 : decode cX6_misplace 37 = .ok (.iload_n 2, 1) := by decide +kernel
theorem dX6_misplace_38 : decode cX6_misplace 38 = .ok (.invokevirtual 67, 3) := by decide +kernel
theorem dX6_misplace_41 : decode cX6_misplace 41 = .ok (.iload 4, 2) := by decide +kernel
theorem dX6_misplace_43 : decode cX6_misplace 43 = .ok (.ireturn, 1) := by decide +kernel
set_option maxRecDepth 20000 in
theorem ggX6_begins_X6_of : GoodIn wsX6_begins wsX6_of := goodIn_r _ [6, 1, 11, 12, 13, 14, 15, 16, 17, 18, 19, 20, 21, 22, 23, 24, 25, 26] (by decide +kernel) (by decide +kernel)
set_option maxRecDepth 20000 in
theorem gX6_begins_X6_of : GoodIn wsX6_begins (wsV RX6 36 RX6 yX6_of wsX6_of) := goodIn_app (goodIn_of _ (by decide +kernel)) ggX6_begins_X6_of
set_option maxRecDepth 20000 in
theorem ggX6_begins_X6_lay : GoodIn wsX6_begins wsX6_lay := goodIn_r _ [10, 1, 11, 12, 13, 14, 15, 16, 17, 18, 19, 20, 21, 22, 23, 24, 25, 26] (by decide +kernel) (by decide +kernel)
set_option maxRecDepth 20000 in
theorem gX6_begins_X6_lay : GoodIn wsX6_begins (wsV RX6 67 RX6 yX6_lay wsX6_lay) := goodIn_app (goodIn_of _ (by decide +kernel)) ggX6_begins_X6_lay
theorem dX6_begins_0 : decode cX6_begins 0 = .ok (.iconst 0, 1) := by decide +kernel
theorem dX6_begins_1 : decode cX6_begins 1 = .ok (.istore_n 1, 1) := by decide +kernel
theorem dX6_begins_2 : decode cX6_begins 2 = .ok (.iconst 0, 1) := by decide +kernel
theorem dX6_begins_3 : decode cX6_begins 3 = .ok (.istore_n 2, 1) := by decide +kernel
theorem dX6_begins_4 : decode cX6_begins 4 = .ok (.iload_n 2, 1) := by decide +kernel
theorem dX6_begins_5 : decode cX6_begins 5 = .ok (.aload_n 0, 1) := by decide +kernel
theorem dX6_begins_6 : decode cX6_begins 6 = .ok (.getfield 7, 3) := by decide +kernel
theorem dX6_begins_9 : decode cX6_begins 9 = .ok (.iconst 0, 1) := by decide +kernel
theorem dX6_begins_10 : decode cX6_begins 10 = .ok (.iaload, 1) := by decide +kernel
theorem dX6_begins_11 : decode cX6_begins 11 = .ok (.if_icmp .ge 37, 3) := by decide +kernel
theorem dX6_begins_14 : decode cX6_begins 14 = .ok (.iload_n 1, 1) := by decide +kernel
theorem dX6_begins_15 : decode cX6_begins 15 = .ok (.aload_n 0, 1) := by decide +kernel
theorem dX6_begins_16 : decode cX6_begins 16 = .ok (.iload_n 2, 1) := by decide +kernel
theorem dX6_begins_17 : decode cX6_begins 17 = .ok (.iconst 3, 1) := by decide +kernel
theorem dX6_begins_18 : decode cX6_begins 18 = .ok (.invokevirtual 36, 3) := by decide +kernel
theorem dX6_begins_21 : decode cX6_begins 21 = .ok (.iadd, 1) := by decide +kernel
theorem dX6_begins_22 : decode cX6_begins 22 = .ok (.istore_n 1, 1) := by decide +kernel
theorem dX6_begins_23 : decode cX6_begins 23 = .ok (.aload_n 0, 1) := by decide +kernel
theorem dX6_begins_24 : decode cX6_begins 24 = .ok (.iload_n 2, 1) := by decide +kernel
theorem dX6_begins_25 : decode cX6_begins 25 = .ok (.iconst 4, 1) := by decide +kernel
theorem dX6_begins_26 : decode cX6_begins 26 = .ok (.aload_n 0, 1) := by decide +kernel
theorem dX6_begins_27 : decode cX6_begins 27 = .ok (.iload_n 2, 1) := by decide +kernel
theorem dX6_begins_28 : decode cX6_begins 28 = .ok (.iconst 3, 1) := by decide +kernel
theorem dX6_begins_29 : decode cX6_begins 29 = .ok (.invokevirtual 36, 3) := by decide +kernel
theorem dX6_begins_32 : decode cX6_begins 32 = .ok (.invokevirtual 67, 3) := by decide +kernel
theorem dX6_begins_35 : decode cX6_begins 35 = .ok (.aload_n 0, 1) := by decide +kernel
theorem dX6_begins_36 : decode cX6_begins 36 = .ok (.iload_n 2, 1) := by decide +kernel
theorem dX6_begins_37 : decode cX6_begins 37 = .ok (.iconst 3, 1) := by decide +kernel
theorem dX6_begins_38 : decode cX6_begins 38 = .ok (.iconst 0, 1) := by decide +kernel
theorem dX6_begins_39 : decode cX6_begins 39 = .ok (.invokevirtual 67, 3) := by decide +kernel
theorem dX6_begins_42 : decode cX6_begins 42 = .ok (.iinc 2 1, 3) := by decide +kernel
theorem dX6_begins_45 : decode cX6_begins 45 = .ok (.goto (-41), 3) := by decide +kernel
theorem dX6_begins_48 : decode cX6_begins 48 = .ok (.iload_n 1, 1) := by decide +kernel
theorem dX6_begins_49 : decode cX6_begins 49 = .ok (.ireturn, 1) := by decide +kernel
set_option maxRecDepth 20000 in
theorem ggX6_month_X6_saves : GoodIn wsX6_month wsX6_saves := goodIn_r _ [6, 7, 8, 9, 22, 23, 24, 25, 26, 27, 28, 29, 30, 31, 32, 33, 34, 35, 36, 37] (by decide +kernel) (by decide +kernel)
set_option maxRecDepth 20000 in
theorem gX6_month_X6_saves : GoodIn wsX6_month (wsV RX6 61 RX6 yX6_saves wsX6_saves) := goodIn_app (goodIn_of _ (by decide +kernel)) ggX6_month_X6_saves
set_option maxRecDepth 20000 in
theorem ggX6_month_X6_begins : GoodIn wsX6_month wsX6_begins := goodIn_r _ [13, 9, 14, 15, 16, 5, 17, 18, 19, 20, 21, 22, 23, 24, 25, 26, 27, 28, 29, 30, 31, 32, 33, 34, 35, 36, 37] (by decide +kernel) (by decide +kernel)
set_option maxRecDepth 20000 in
theorem gX6_month_X6_begins : GoodIn wsX6_month (wsV RX6 89 RX6 yX6_begins wsX6_begins) := goodIn_app (goodIn_of _ (by decide +kernel)) ggX6_month_X6_begins
theorem dX6_month_0 : decode cX6_month 0 = .ok (.aload_n 0, 1) := by decide +kernel
theorem dX6_month_1 : decode cX6_month 1 = .ok (.iconst 0, 1) := by decide +kernel
theorem dX6_month_2 : decode cX6_month 2 = .ok (.putfield 25, 3) := by decide +kernel
theorem dX6_month_5 : decode cX6_month 5 = .ok (.aload_n 0, 1) := by decide +kernel
theorem dX6_month_6 : decode cX6_month 6 = .ok (.invokevirtual 61, 3) := by decide +kernel
theorem dX6_month_9 : decode cX6_month 9 = .ok (.aload_n 0, 1) := by decide +kernel
theorem dX6_month_10 : decode cX6_month 10 = .ok (.invokevirtual 89, 3) := by decide +kernel
theorem dX6_month_13 : decode cX6_month 13 = .ok (.ireturn, 1) := by decide +kernel
set_option maxRecDepth 20000 in
theorem ggX6_misplacedMany_X6_isMisplaced : GoodIn wsX6_misplacedMany wsX6_isMisplaced := goodIn_r _ [6, 7, 8, 9, 5, 10, 1, 11, 12, 13, 14, 15, 16, 17, 18, 19, 20, 21, 22, 23, 24, 25, 26] (by decide +kernel) (by decide +kernel)
set_option maxRecDepth 20000 in
theorem gX6_misplacedMany_X6_isMisplaced : GoodIn wsX6_misplacedMany (wsV RX6 47 RX6 yX6_isMisplaced wsX6_isMisplaced) := goodIn_app (goodIn_of _ (by decide +kernel)) ggX6_misplacedMany_X6_isMisplaced
theorem dX6_misplacedMany_0 : decode cX6_misplacedMany 0 = .ok (.iconst 0, 1) := by decide +kernel
theorem dX6_misplacedMany_1 : decode cX6_misplacedMany 1 = .ok (.istore_n 1, 1) := by decide +kernel
theorem dX6_misplacedMany_2 : decode cX6_misplacedMany 2 = .ok (.iconst 0, 1) := by decide +kernel
theorem dX6_misplacedMany_3 : decode cX6_misplacedMany 3 = .ok (.istore_n 2, 1) := by decide +kernel
theorem dX6_misplacedMany_4 : decode cX6_misplacedMany 4 = .ok (.iload_n 2, 1) := by decide +kernel
theorem dX6_misplacedMany_5 : decode cX6_misplacedMany 5 = .ok (.aload_n 0, 1) := by decide +kernel
theorem dX6_misplacedMany_6 : decode cX6_misplacedMany 6 = .ok (.getfield 7, 3) := by decide +kernel
theorem dX6_misplacedMany_9 : decode cX6_misplacedMany 9 = .ok (.iconst 0, 1) := by decide +kernel
theorem dX6_misplacedMany_10 : decode cX6_misplacedMany 10 = .ok (.iaload, 1) := by decide +kernel
theorem dX6_misplacedMany_11 : decode cX6_misplacedMany 11 = .ok (.if_icmp .ge 25, 3) := by decide +kernel
theorem dX6_misplacedMany_14 : decode cX6_misplacedMany 14 = .ok (.iload_n 1, 1) := by decide +kernel
theorem dX6_misplacedMany_15 : decode cX6_misplacedMany 15 = .ok (.aload_n 0, 1) := by decide +kernel
theorem dX6_misplacedMany_16 : decode cX6_misplacedMany 16 = .ok (.iload_n 2, 1) := by decide +kernel
theorem dX6_misplacedMany_17 : decode cX6_misplacedMany 17 = .ok (.invokevirtual 47, 3) := by decide +kernel
theorem dX6_misplacedMany_20 : decode cX6_misplacedMany 20 = .ok (.ifCond .eq 7, 3) := by decide +kernel
theorem dX6_misplacedMany_23 : decode cX6_misplacedMany 23 = .ok (.iconst 1, 1) := by decide +kernel
theorem dX6_misplacedMany_24 : decode cX6_misplacedMany 24 = .ok (.goto 4, 3) := by decide +kernel
theorem dX6_misplacedMany_27 : decode cX6_misplacedMany 27 = .ok (.iconst 0, 1) := by decide +kernel
theorem dX6_misplacedMany_28 : decode cX6_misplacedMany 28 = .ok (.iadd, 1) := by decide +kernel
theorem dX6_misplacedMany_29 : decode cX6_misplacedMany 29 = .ok (.istore_n 1, 1) := by decide +kernel
theorem dX6_misplacedMany_30 : decode cX6_misplacedMany 30 = .ok (.iinc 2 1, 3) := by decide +kernel
theorem dX6_misplacedMany_33 : decode cX6_misplacedMany 33 = .ok (.goto (-29), 3) := by decide +kernel
theorem dX6_misplacedMany_36 : decode cX6_misplacedMany 36 = .ok (.iload_n 1, 1) := by decide +kernel
theorem dX6_misplacedMany_37 : decode cX6_misplacedMany 37 = .ok (.ireturn, 1) := by decide +kernel
set_option maxRecDepth 20000 in
theorem ggX6_misplaced_X6_misplacedMany : GoodIn wsX6_misplaced wsX6_misplacedMany := goodIn_r _ [6, 7, 8, 9, 10, 5, 11, 12, 13, 14, 15, 16, 17, 18, 19, 20, 21, 22, 23, 24, 25, 26, 27, 28, 29, 30, 31] (by decide +kernel) (by decide +kernel)
set_option maxRecDepth 20000 in
theorem gX6_misplaced_X6_misplacedMany : GoodIn wsX6_misplaced (wsV RX6 93 RX6 yX6_misplacedMany wsX6_misplacedMany) := goodIn_app (goodIn_of _ (by decide +kernel)) ggX6_misplaced_X6_misplacedMany
theorem dX6_misplaced_0 : decode cX6_misplaced 0 = .ok (.aload_n 0, 1) := by decide +kernel
theorem dX6_misplaced_1 : decode cX6_misplaced 1 = .ok (.iconst 0, 1) := by decide +kernel
theorem dX6_misplaced_2 : decode cX6_misplaced 2 = .ok (.putfield 25, 3) := by decide +kernel
theorem dX6_misplaced_5 : decode cX6_misplaced 5 = .ok (.aload_n 0, 1) := by decide +kernel
theorem dX6_misplaced_6 : decode cX6_misplaced 6 = .ok (.invokevirtual 93, 3) := by decide +kernel
theorem dX6_misplaced_9 : decode cX6_misplaced 9 = .ok (.ireturn, 1) := by decide +kernel
theorem dX6_walked_0 : decode cX6_walked 0 = .ok (.aload_n 0, 1) := by decide +kernel
theorem dX6_walked_1 : decode cX6_walked 1 = .ok (.iconst 0, 1) := by decide +kernel
theorem dX6_walked_2 : decode cX6_walked 2 = .ok (.putfield 25, 3) := by decide +kernel
theorem dX6_walked_5 : decode cX6_walked 5 = .ok (.aload_n 0, 1) := by decide +kernel
theorem dX6_walked_6 : decode cX6_walked 6 = .ok (.getfield 7, 3) := by decide +kernel
theorem dX6_walked_9 : decode cX6_walked 9 = .ok (.iconst 1, 1) := by decide +kernel
theorem dX6_walked_10 : decode cX6_walked 10 = .ok (.iaload, 1) := by decide +kernel
theorem dX6_walked_11 : decode cX6_walked 11 = .ok (.ireturn, 1) := by decide +kernel
set_option maxRecDepth 20000 in
theorem ggX6_gainOfMove_X6_heft : GoodIn wsX6_gainOfMove wsX6_heft := goodIn_r _ [6, 7, 8, 9, 5, 10, 1, 11, 12, 13, 14, 15, 16, 17, 18, 19, 20, 21, 22, 23, 24, 25, 26] (by decide +kernel) (by decide +kernel)
set_option maxRecDepth 20000 in
theorem gX6_gainOfMove_X6_heft : GoodIn wsX6_gainOfMove (wsV RX6 44 RX6 yX6_heft wsX6_heft) := goodIn_app (goodIn_of _ (by decide +kernel)) ggX6_gainOfMove_X6_heft
set_option maxRecDepth 20000 in
theorem ggX6_gainOfMove_X6_of : GoodIn wsX6_gainOfMove wsX6_of := goodIn_r _ [10, 1, 11, 12, 13, 14, 15, 16, 17, 18, 19, 20, 21, 22, 23, 24, 25, 26] (by decide +kernel) (by decide +kernel)
set_option maxRecDepth 20000 in
theorem gX6_gainOfMove_X6_of : GoodIn wsX6_gainOfMove (wsV RX6 36 RX6 yX6_of wsX6_of) := goodIn_app (goodIn_of _ (by decide +kernel)) ggX6_gainOfMove_X6_of
theorem dX6_gainOfMove_0 : decode cX6_gainOfMove 0 = .ok (.aload_n 0, 1) := by decide +kernel
theorem dX6_gainOfMove_1 : decode cX6_gainOfMove 1 = .ok (.iload_n 1, 1) := by decide +kernel
theorem dX6_gainOfMove_2 : decode cX6_gainOfMove 2 = .ok (.invokevirtual 44, 3) := by decide +kernel
theorem dX6_gainOfMove_5 : decode cX6_gainOfMove 5 = .ok (.aload_n 0, 1) := by decide +kernel
theorem dX6_gainOfMove_6 : decode cX6_gainOfMove 6 = .ok (.getfield 7, 3) := by decide +kernel
theorem dX6_gainOfMove_9 : decode cX6_gainOfMove 9 = .ok (.bipush 9, 2) := by decide +kernel
theorem dX6_gainOfMove_11 : decode cX6_gainOfMove 11 = .ok (.aload_n 0, 1) := by decide +kernel
theorem dX6_gainOfMove_12 : decode cX6_gainOfMove 12 = .ok (.iload_n 1, 1) := by decide +kernel
theorem dX6_gainOfMove_13 : decode cX6_gainOfMove 13 = .ok (.iconst 1, 1) := by decide +kernel
theorem dX6_gainOfMove_14 : decode cX6_gainOfMove 14 = .ok (.invokevirtual 36, 3) := by decide +kernel
theorem dX6_gainOfMove_17 : decode cX6_gainOfMove 17 = .ok (.iadd, 1) := by decide +kernel
theorem dX6_gainOfMove_18 : decode cX6_gainOfMove 18 = .ok (.iaload, 1) := by decide +kernel
theorem dX6_gainOfMove_19 : decode cX6_gainOfMove 19 = .ok (.aload_n 0, 1) := by decide +kernel
theorem dX6_gainOfMove_20 : decode cX6_gainOfMove 20 = .ok (.getfield 7, 3) := by decide +kernel
theorem dX6_gainOfMove_23 : decode cX6_gainOfMove 23 = .ok (.bipush 9, 2) := by decide +kernel
theorem dX6_gainOfMove_25 : decode cX6_gainOfMove 25 = .ok (.iload_n 2, 1) := by decide +kernel
theorem dX6_gainOfMove_26 : decode cX6_gainOfMove 26 = .ok (.iadd, 1) := by decide +kernel
theorem dX6_gainOfMove_27 : decode cX6_gainOfMove 27 = .ok (.iaload, 1) := by decide +kernel
theorem dX6_gainOfMove_28 : decode cX6_gainOfMove 28 = .ok (.isub, 1) := by decide +kernel
theorem dX6_gainOfMove_29 : decode cX6_gainOfMove 29 = .ok (.imul, 1) := by decide +kernel
theorem dX6_gainOfMove_30 : decode cX6_gainOfMove 30 = .ok (.ireturn, 1) := by decide +kernel
set_option maxRecDepth 20000 in
theorem ggX6_canMove_X6_isMisplaced : GoodIn wsX6_canMove wsX6_isMisplaced := goodIn_r _ [5, 6, 7, 8, 4, 9, 10, 19, 20, 21, 22, 23, 24, 25, 26, 27, 28, 29, 30, 31, 32, 33, 34] (by decide +kernel) (by decide +kernel)
set_option maxRecDepth 20000 in
theorem gX6_canMove_X6_isMisplaced : GoodIn wsX6_canMove (wsV RX6 47 RX6 yX6_isMisplaced wsX6_isMisplaced) := goodIn_app (goodIn_of _ (by decide +kernel)) ggX6_canMove_X6_isMisplaced
set_option maxRecDepth 20000 in
theorem ggX6_canMove_X6_of : GoodIn wsX6_canMove wsX6_of := goodIn_r _ [9, 10, 19, 20, 21, 22, 23, 24, 25, 26, 27, 28, 29, 30, 31, 32, 33, 34] (by decide +kernel) (by decide +kernel)
set_option maxRecDepth 20000 in
theorem gX6_canMove_X6_of : GoodIn wsX6_canMove (wsV RX6 36 RX6 yX6_of wsX6_of) := goodIn_app (goodIn_of _ (by decide +kernel)) ggX6_canMove_X6_of
set_option maxRecDepth 20000 in
theorem ggX6_canMove_X6_room : GoodIn wsX6_canMove wsX6_room := goodIn_r _ [14, 10, 15, 16, 17, 4, 18, 6, 7, 8, 9, 19, 20, 21, 22, 23, 24, 25, 26, 27, 28, 29, 30, 31, 32, 33, 34] (by decide +kernel) (by decide +kernel)
set_option maxRecDepth 20000 in
theorem gX6_canMove_X6_room : GoodIn wsX6_canMove (wsV RX6 64 RX6 yX6_room wsX6_room) := goodIn_app (goodIn_of _ (by decide +kernel)) ggX6_canMove_X6_room
theorem dX6_canMove_0 : decode cX6_canMove 0 = .ok (.aload_n 0, 1) := by decide +kernel
theorem dX6_canMove_1 : decode cX6_canMove 1 = .ok (.iload_n 1, 1) := by decide +kernel
theorem dX6_canMove_2 : decode cX6_canMove 2 = .ok (.invokevirtual 47, 3) := by decide +kernel
theorem dX6_canMove_5 : decode cX6_canMove 5 = .ok (.ifCond .ne 31, 3) := by decide +kernel
theorem dX6_canMove_8 : decode cX6_canMove 8 = .ok (.aload_n 0, 1) := by decide +kernel
theorem dX6_canMove_9 : decode cX6_canMove 9 = .ok (.iload_n 1, 1) := by decide +kernel
theorem dX6_canMove_10 : decode cX6_canMove 10 = .ok (.iconst 1, 1) := by decide +kernel
theorem dX6_canMove_11 : decode cX6_canMove 11 = .ok (.invokevirtual 36, 3) := by decide +kernel
theorem dX6_canMove_14 : decode cX6_canMove 14 = .ok (.iload_n 2, 1) := by decide +kernel
theorem dX6_canMove_15 : decode cX6_canMove 15 = .ok (.if_icmp .eq 21, 3) := by decide +kernel
theorem dX6_canMove_18 : decode cX6_canMove 18 = .ok (.aload_n 0, 1) := by decide +kernel
theorem dX6_canMove_19 : decode cX6_canMove 19 = .ok (.iload_n 2, 1) := by decide +kernel
theorem dX6_canMove_20 : decode cX6_canMove 20 = .ok (.invokevirtual 64, 3) := by decide +kernel
theorem dX6_canMove_23 : decode cX6_canMove 23 = .ok (.aload_n 0, 1) := by decide +kernel
theorem dX6_canMove_24 : decode cX6_canMove 24 = .ok (.iload_n 1, 1) := by decide +kernel
theorem dX6_canMove_25 : decode cX6_canMove 25 = .ok (.iconst 0, 1) := by decide +kernel
theorem dX6_canMove_26 : decode cX6_canMove 26 = .ok (.invokevirtual 36, 3) := by decide +kernel
theorem dX6_canMove_29 : decode cX6_canMove 29 = .ok (.if_icmp .lt 7, 3) := by decide +kernel
theorem dX6_canMove_32 : decode cX6_canMove 32 = .ok (.iconst 1, 1) := by decide +kernel
theorem dX6_canMove_33 : decode cX6_canMove 33 = .ok (.goto 4, 3) := by decide +kernel
theorem dX6_canMove_36 : decode cX6_canMove 36 = .ok (.iconst 0, 1) := by decide +kernel
theorem dX6_canMove_37 : decode cX6_canMove 37 = .ok (.ireturn, 1) := by decide +kernel
set_option maxRecDepth 20000 in
theorem ggX6_canExchange_X6_of : GoodIn wsX6_canExchange wsX6_of := goodIn_r _ [5, 6, 19, 20, 21, 22, 23, 24, 25, 26, 27, 28, 29, 30, 31, 32, 33, 34] (by decide +kernel) (by decide +kernel)
set_option maxRecDepth 20000 in
theorem gX6_canExchange_X6_of : GoodIn wsX6_canExchange (wsV RX6 36 RX6 yX6_of wsX6_of) := goodIn_app (goodIn_of _ (by decide +kernel)) ggX6_canExchange_X6_of
set_option maxRecDepth 20000 in
theorem ggX6_canExchange_X6_isMisplaced : GoodIn wsX6_canExchange wsX6_isMisplaced := goodIn_r _ [10, 1, 2, 3, 4, 5, 6, 19, 20, 21, 22, 23, 24, 25, 26, 27, 28, 29, 30, 31, 32, 33, 34] (by decide +kernel) (by decide +kernel)
set_option maxRecDepth 20000 in
theorem gX6_canExchange_X6_isMisplaced : GoodIn wsX6_canExchange (wsV RX6 47 RX6 yX6_isMisplaced wsX6_isMisplaced) := goodIn_app (goodIn_of _ (by decide +kernel)) ggX6_canExchange_X6_isMisplaced
set_option maxRecDepth 20000 in
theorem ggX6_canExchange_X6_room : GoodIn wsX6_canExchange wsX6_room := goodIn_r _ [14, 6, 15, 16, 17, 4, 18, 1, 2, 3, 5, 19, 20, 21, 22, 23, 24, 25, 26, 27, 28, 29, 30, 31, 32, 33, 34] (by decide +kernel) (by decide +kernel)
set_option maxRecDepth 20000 in
theorem gX6_canExchange_X6_room : GoodIn wsX6_canExchange (wsV RX6 64 RX6 yX6_room wsX6_room) := goodIn_app (goodIn_of _ (by decide +kernel)) ggX6_canExchange_X6_room
theorem dX6_canExchange_0 : decode cX6_canExchange 0 = .ok (.aload_n 0, 1) := by decide +kernel
theorem dX6_canExchange_1 : decode cX6_canExchange 1 = .ok (.iload_n 1, 1) := by decide +kernel
theorem dX6_canExchange_2 : decode cX6_canExchange 2 = .ok (.iconst 1, 1) := by decide +kernel
theorem dX6_canExchange_3 : decode cX6_canExchange 3 = .ok (.invokevirtual 36, 3) := by decide +kernel
theorem dX6_canExchange_6 : decode cX6_canExchange 6 = .ok (.istore_n 3, 1) := by decide +kernel
theorem dX6_canExchange_7 : decode cX6_canExchange 7 = .ok (.aload_n 0, 1) := by decide +kernel
theorem dX6_canExchange_8 : decode cX6_canExchange 8 = .ok (.iload_n 2, 1) := by decide +kernel
theorem dX6_canExchange_9 : decode cX6_canExchange 9 = .ok (.iconst 1, 1) := by decide +kernel
theorem dX6_canExchange_10 : decode cX6_canExchange 10 = .ok (.invokevirtual 36, 3) := by decide +kernel
theorem dX6_canExchange_13 : decode cX6_canExchange 13 = .ok (.istore 4, 2) := by decide +kernel
theorem dX6_canExchange_15 : decode cX6_canExchange 15 = .ok (.aload_n 0, 1) := by decide +kernel
theorem dX6_canExchange_16 : decode cX6_canExchange 16 = .ok (.iload_n 1, 1) := by decide +kernel
theorem dX6_canExchange_17 : decode cX6_canExchange 17 = .ok (.invokevirtual 47, 3) := by decide +kernel
theorem dX6_canExchange_20 : decode cX6_canExchange 20 = .ok (.ifCond .ne 21, 3) := by decide +kernel
theorem dX6_canExchange_23 : decode cX6_canExchange 23 = .ok (.aload_n 0, 1) := by decide +kernel
theorem dX6_canExchange_24 : decode cX6_canExchange 24 = .ok (.iload_n 2, 1) := by decide +kernel
theorem dX6_canExchange_25 : decode cX6_canExchange 25 = .ok (.invokevirtual 47, 3) := by decide +kernel
theorem dX6_canExchange_28 : decode cX6_canExchange 28 = .ok (.ifCond .ne 13, 3) := by decide +kernel
theorem dX6_canExchange_31 : decode cX6_canExchange 31 = .ok (.iload_n 3, 1) := by decide +kernel
theorem dX6_canExchange_32 : decode cX6_canExchange 32 = .ok (.iload 4, 2) := by decide +kernel
theorem dX6_canExchange_34 : decode cX6_canExchange 34 = .ok (.if_icmp .eq 7, 3) := by decide +kernel
theorem dX6_canExchange_37 : decode cX6_canExchange 37 = .ok (.iconst 1, 1) := by decide +kernel
theorem dX6_canExchange_38 : decode cX6_canExchange 38 = .ok (.goto 4, 3) := by decide +kernel
theorem dX6_canExchange_41 : decode cX6_canExchange 41 = .ok (.iconst 0, 1) := by decide +kernel
theorem dX6_canExchange_42 : decode cX6_canExchange 42 = .ok (.istore 5, 2) := by decide +kernel
theorem dX6_canExchange_44 : decode cX6_canExchange 44 = .ok (.iload 5, 2) := by decide +kernel
theorem dX6_canExchange_46 : decode cX6_canExchange 46 = .ok (.ifCond .eq 50, 3) := by decide +kernel
theorem dX6_canExchange_49 : decode cX6_canExchange 49 = .ok (.aload_n 0, 1) := by decide +kernel
theorem dX6_canExchange_50 : decode cX6_canExchange 50 = .ok (.iload_n 3, 1) := by decide +kernel
theorem dX6_canExchange_51 : decode cX6_canExchange 51 = .ok (.invokevirtual 64, 3) := by decide +kernel
theorem dX6_canExchange_54 : decode cX6_canExchange 54 = .ok (.aload_n 0, 1) := by decide +kernel
theorem dX6_canExchange_55 : decode cX6_canExchange 55 = .ok (.iload_n 1, 1) := by decide +kernel
theorem dX6_canExchange_56 : decode cX6_canExchange 56 = .ok (.iconst 0, 1) := by decide +kernel
theorem dX6_canExchange_57 : decode cX6_canExchange 57 = .ok (.invokevirtual 36, 3) := by decide +kernel
theorem dX6_canExchange_60 : decode cX6_canExchange 60 = .ok (.iadd, 1) := by decide +kernel
theorem dX6_canExchange_61 : decode cX6_canExchange 61 = .ok (.aload_n 0, 1) := by decide +kernel
theorem dX6_canExchange_62 : decode cX6_canExchange 62 = .ok (.iload_n 2, 1) := by decide +kernel
theorem dX6_canExchange_63 : decode cX6_canExchange 63 = .ok (.iconst 0, 1) := by decide +kernel
theorem dX6_canExchange_64 : decode cX6_canExchange 64 = .ok (.invokevirtual 36, 3) := by decide +kernel
theorem dX6_canExchange_67 : decode cX6_canExchange 67 = .ok (.if_icmp .lt 29, 3) := by decide +kernel
theorem dX6_canExchange_70 : decode cX6_canExchange 70 = .ok (.aload_n 0, 1) := by decide +kernel
theorem dX6_canExchange_71 : decode cX6_canExchange 71 = .ok (.iload 4, 2) := by decide +kernel
theorem dX6_canExchange_73 : decode cX6_canExchange 73 = .ok (.invokevirtual 64, 3) := by decide +kernel
theorem dX6_canExchange_76 : decode cX6_canExchange 76 = .ok (.aload_n 0, 1) := by decide +kernel
theorem dX6_canExchange_77 : decode cX6_canExchange 77 = .ok (.iload_n 2, 1) := by decide +kernel
theorem dX6_canExchange_78 : decode cX6_canExchange 78 = .ok (.iconst 0, 1) := by decide +kernel
theorem dX6_canExchange_79 : decode cX6_canExchange 79 = .ok (.invokevirtual 36, 3) := by decide +kernel
theorem dX6_canExchange_82 : decode cX6_canExchange 82 = .ok (.iadd, 1) := by decide +kernel
theorem dX6_canExchange_83 : decode cX6_canExchange 83 = .ok (.aload_n 0, 1) := by decide +kernel
theorem dX6_canExchange_84 : decode cX6_canExchange 84 = .ok (.iload_n 1, 1) := by decide +kernel
theorem dX6_canExchange_85 : decode cX6_canExchange 85 = .ok (.iconst 0, 1) := by decide +kernel
theorem dX6_canExchange_86 : decode cX6_canExchange 86 = .ok (.invokevirtual 36, 3) := by decide +kernel
theorem dX6_canExchange_89 : decode cX6_canExchange 89 = .ok (.if_icmp .lt 7, 3) := by decide +kernel
theorem dX6_canExchange_92 : decode cX6_canExchange 92 = .ok (.iconst 1, 1) := by decide +kernel
theorem dX6_canExchange_93 : decode cX6_canExchange 93 = .ok (.goto 4, 3) := by decide +kernel
theorem dX6_canExchange_96 : decode cX6_canExchange 96 = .ok (.iconst 0, 1) := by decide +kernel
theorem dX6_canExchange_97 : decode cX6_canExchange 97 = .ok (.ireturn, 1) := by decide +kernel
theorem dX6_notes_0 : decode cX6_notes 0 = .ok (.iload_n 1, 1) := by decide +kernel
theorem dX6_notes_1 : decode cX6_notes 1 = .ok (.aload_n 0, 1) := by decide +kernel
theorem dX6_notes_2 : decode cX6_notes 2 = .ok (.getfield 96, 3) := by decide +kernel
theorem dX6_notes_5 : decode cX6_notes 5 = .ok (.if_icmp .le 24, 3) := by decide +kernel
theorem dX6_notes_8 : decode cX6_notes 8 = .ok (.aload_n 0, 1) := by decide +kernel
theorem dX6_notes_9 : decode cX6_notes 9 = .ok (.iload_n 1, 1) := by decide +kernel
theorem dX6_notes_10 : decode cX6_notes 10 = .ok (.putfield 96, 3) := by decide +kernel
theorem dX6_notes_13 : decode cX6_notes 13 = .ok (.aload_n 0, 1) := by decide +kernel
theorem dX6_notes_14 : decode cX6_notes 14 = .ok (.iload_n 2, 1) := by decide +kernel
theorem dX6_notes_15 : decode cX6_notes 15 = .ok (.putfield 99, 3) := by decide +kernel
theorem dX6_notes_18 : decode cX6_notes 18 = .ok (.aload_n 0, 1) := by decide +kernel
theorem dX6_notes_19 : decode cX6_notes 19 = .ok (.iload_n 3, 1) := by decide +kernel
theorem dX6_notes_20 : decode cX6_notes 20 = .ok (.putfield 102, 3) := by decide +kernel
theorem dX6_notes_23 : decode cX6_notes 23 = .ok (.aload_n 0, 1) := by decide +kernel
theorem dX6_notes_24 : decode cX6_notes 24 = .ok (.iload 4, 2) := by decide +kernel
theorem dX6_notes_26 : decode cX6_notes 26 = .ok (.putfield 105, 3) := by decide +kernel
theorem dX6_notes_29 : decode cX6_notes 29 = .ok (.return_, 1) := by decide +kernel
set_option maxRecDepth 20000 in
theorem ggX6_finds_X6_canMove : GoodIn wsX6_finds wsX6_canMove := goodIn_r _ [7, 8, 9, 10, 6, 11, 12, 13, 14, 15, 2, 16, 17, 18, 19, 20, 21, 22, 23, 43, 44, 45, 46, 47, 48, 49, 50, 51, 52, 53, 54, 55, 56, 57, 58] (by decide +kernel) (by decide +kernel)
set_option maxRecDepth 20000 in
theorem gX6_finds_X6_canMove : GoodIn wsX6_finds (wsV RX6 109 RX6 yX6_canMove wsX6_canMove) := goodIn_app (goodIn_of _ (by decide +kernel)) ggX6_finds_X6_canMove
set_option maxRecDepth 20000 in
theorem ggX6_finds_X6_gainOfMove : GoodIn wsX6_finds wsX6_gainOfMove := goodIn_r _ [27, 2, 28, 29, 30, 6, 31, 12, 13, 14, 15, 43, 44, 45, 46, 47, 48, 49, 50, 51, 52, 53, 54, 55, 56, 57, 58] (by decide +kernel) (by decide +kernel)
set_option maxRecDepth 20000 in
theorem gX6_finds_X6_gainOfMove : GoodIn wsX6_finds (wsV RX6 112 RX6 yX6_gainOfMove wsX6_gainOfMove) := goodIn_app (goodIn_of _ (by decide +kernel)) ggX6_finds_X6_gainOfMove
set_option maxRecDepth 20000 in
theorem ggX6_finds_X6_notes : GoodIn wsX6_finds wsX6_notes := goodIn_r _ [35, 1, 36, 37, 38, 43, 44, 45, 46, 47, 48, 49, 50, 51, 52, 53, 54, 55, 56, 57, 58] (by decide +kernel) (by decide +kernel)
set_option maxRecDepth 20000 in
theorem gX6_finds_X6_notes : GoodIn wsX6_finds (wsV RX6 115 RX6 yX6_notes wsX6_notes) := goodIn_app (goodIn_of _ (by decide +kernel)) ggX6_finds_X6_notes
set_option maxRecDepth 20000 in
theorem ggX6_finds_X6_canExchange : GoodIn wsX6_finds wsX6_canExchange := goodIn_r _ [42, 12, 13, 14, 6, 15, 2, 8, 9, 10, 11, 16, 17, 18, 19, 20, 21, 22, 23, 43, 44, 45, 46, 47, 48, 49, 50, 51, 52, 53, 54, 55, 56, 57, 58] (by decide +kernel) (by decide +kernel)
set_option maxRecDepth 20000 in
theorem gX6_finds_X6_canExchange : GoodIn wsX6_finds (wsV RX6 119 RX6 yX6_canExchange wsX6_canExchange) := goodIn_app (goodIn_of _ (by decide +kernel)) ggX6_finds_X6_canExchange
set_option maxRecDepth 20000 in
theorem ggX6_finds_X6_heft : GoodIn wsX6_finds wsX6_heft := goodIn_r _ [31, 12, 13, 14, 6, 15, 2, 43, 44, 45, 46, 47, 48, 49, 50, 51, 52, 53, 54, 55, 56, 57, 58] (by decide +kernel) (by decide +kernel)
set_option maxRecDepth 20000 in
theorem gX6_finds_X6_heft : GoodIn wsX6_finds (wsV RX6 44 RX6 yX6_heft wsX6_heft) := goodIn_app (goodIn_of _ (by decide +kernel)) ggX6_finds_X6_heft
set_option maxRecDepth 20000 in
theorem ggX6_finds_X6_of : GoodIn wsX6_finds wsX6_of := goodIn_r _ [15, 2, 43, 44, 45, 46, 47, 48, 49, 50, 51, 52, 53, 54, 55, 56, 57, 58] (by decide +kernel) (by decide +kernel)
set_option maxRecDepth 20000 in
theorem gX6_finds_X6_of : GoodIn wsX6_finds (wsV RX6 36 RX6 yX6_of wsX6_of) := goodIn_app (goodIn_of _ (by decide +kernel)) ggX6_finds_X6_of
theorem dX6_finds_0 : decode cX6_finds 0 = .ok (.aload_n 0, 1) := by decide +kernel
theorem dX6_finds_1 : decode cX6_finds 1 = .ok (.iconst 0, 1) := by decide +kernel
theorem dX6_finds_2 : decode cX6_finds 2 = .ok (.putfield 96, 3) := by decide +kernel
theorem dX6_finds_5 : decode cX6_finds 5 = .ok (.iconst 0, 1) := by decide +kernel
theorem dX6_finds_6 : decode cX6_finds 6 = .ok (.istore_n 1, 1) := by decide +kernel
theorem dX6_finds_7 : decode cX6_finds 7 = .ok (.iload_n 1, 1) := by decide +kernel
theorem dX6_finds_8 : decode cX6_finds 8 = .ok (.bipush 96, 2) := by decide +kernel
theorem dX6_finds_10 : decode cX6_finds 10 = .ok (.if_icmp .ge 55, 3) := by decide +kernel
theorem dX6_finds_13 : decode cX6_finds 13 = .ok (.iload_n 1, 1) := by decide +kernel
theorem dX6_finds_14 : decode cX6_finds 14 = .ok (.bipush 6, 2) := by decide +kernel
theorem dX6_finds_16 : decode cX6_finds 16 = .ok (.idiv, 1) := by decide +kernel
theorem dX6_finds_17 : decode cX6_finds 17 = .ok (.istore_n 2, 1) := by decide +kernel
theorem dX6_finds_18 : decode cX6_finds 18 = .ok (.iload_n 2, 1) := by decide +kernel
theorem dX6_finds_19 : decode cX6_finds 19 = .ok (.aload_n 0, 1) := by decide +kernel
theorem dX6_finds_20 : decode cX6_finds 20 = .ok (.getfield 7, 3) := by decide +kernel
theorem dX6_finds_23 : decode cX6_finds 23 = .ok (.iconst 0, 1) := by decide +kernel
theorem dX6_finds_24 : decode cX6_finds 24 = .ok (.iaload, 1) := by decide +kernel
theorem dX6_finds_25 : decode cX6_finds 25 = .ok (.if_icmp .ge 34, 3) := by decide +kernel
theorem dX6_finds_28 : decode cX6_finds 28 = .ok (.aload_n 0, 1) := by decide +kernel
theorem dX6_finds_29 : decode cX6_finds 29 = .ok (.iload_n 2, 1) := by decide +kernel
theorem dX6_finds_30 : decode cX6_finds 30 = .ok (.iload_n 1, 1) := by decide +kernel
theorem dX6_finds_31 : decode cX6_finds 31 = .ok (.bipush 6, 2) := by decide +kernel
theorem dX6_finds_33 : decode cX6_finds 33 = .ok (.irem, 1) := by decide +kernel
theorem dX6_finds_34 : decode cX6_finds 34 = .ok (.invokevirtual 109, 3) := by decide +kernel
theorem dX6_finds_37 : decode cX6_finds 37 = .ok (.ifCond .eq 22, 3) := by decide +kernel
theorem dX6_finds_40 : decode cX6_finds 40 = .ok (.aload_n 0, 1) := by decide +kernel
theorem dX6_finds_41 : decode cX6_finds 41 = .ok (.aload_n 0, 1) := by decide +kernel
theorem dX6_finds_42 : decode cX6_finds 42 = .ok (.iload_n 2, 1) := by decide +kernel
theorem dX6_finds_43 : decode cX6_finds 43 = .ok (.iload_n 1, 1) := by decide +kernel
theorem dX6_finds_44 : decode cX6_finds 44 = .ok (.bipush 6, 2) := by decide +kernel
theorem dX6_finds_46 : decode cX6_finds 46 = .ok (.irem, 1) := by decide +kernel
theorem dX6_finds_47 : decode cX6_finds 47 = .ok (.invokevirtual 112, 3) := by decide +kernel
theorem dX6_finds_50 : decode cX6_finds 50 = .ok (.iload_n 2, 1) := by decide +kernel
theorem dX6_finds_51 : decode cX6_finds 51 = .ok (.iload_n 1, 1) := by decide +kernel
theorem dX6_finds_52 : decode cX6_finds 52 = .ok (.bipush 6, 2) := by decide +kernel
theorem dX6_finds_54 : decode cX6_finds 54 = .ok (.irem, 1) := by decide +kernel
theorem dX6_finds_55 : decode cX6_finds 55 = .ok (.iconst 0, 1) := by decide +kernel
theorem dX6_finds_56 : decode cX6_finds 56 = .ok (.invokevirtual 115, 3) := by decide +kernel
theorem dX6_finds_59 : decode cX6_finds 59 = .ok (.iinc 1 1, 3) := by decide +kernel
theorem dX6_finds_62 : decode cX6_finds 62 = .ok (.goto (-55), 3) := by decide +kernel
theorem dX6_finds_65 : decode cX6_finds 65 = .ok (.iconst 0, 1) := by decide +kernel
theorem dX6_finds_66 : decode cX6_finds 66 = .ok (.istore_n 1, 1) := by decide +kernel
theorem dX6_finds_67 : decode cX6_finds 67 = .ok (.iload_n 1, 1) := by decide +kernel
theorem dX6_finds_68 : decode cX6_finds 68 = .ok (.aload_n 0, 1) := by decide +kernel
theorem dX6_finds_69 : decode cX6_finds 69 = .ok (.getfield 7, 3) := by decide +kernel
theorem dX6_finds_72 : decode cX6_finds 72 = .ok (.iconst 0, 1) := by decide +kernel
theorem dX6_finds_73 : decode cX6_finds 73 = .ok (.iaload, 1) := by decide +kernel
theorem dX6_finds_74 : decode cX6_finds 74 = .ok (.if_icmp .ge 86, 3) := by decide +kernel
theorem dX6_finds_77 : decode cX6_finds 77 = .ok (.iload_n 1, 1) := by decide +kernel
theorem dX6_finds_78 : decode cX6_finds 78 = .ok (.iconst 1, 1) := by decide +kernel
theorem dX6_finds_79 : decode cX6_finds 79 = .ok (.iadd, 1) := by decide +kernel
theorem dX6_finds_80 : decode cX6_finds 80 = .ok (.istore_n 2, 1) := by decide +kernel
theorem dX6_finds_81 : decode cX6_finds 81 = .ok (.iload_n 2, 1) := by decide +kernel
theorem dX6_finds_82 : decode cX6_finds 82 = .ok (.aload_n 0, 1) := by decide +kernel
theorem dX6_finds_83 : decode cX6_finds 83 = .ok (.getfield 7, 3) := by decide +kernel
theorem dX6_finds_86 : decode cX6_finds 86 = .ok (.iconst 0, 1) := by decide +kernel
theorem dX6_finds_87 : decode cX6_finds 87 = .ok (.iaload, 1) := by decide +kernel
theorem dX6_finds_88 : decode cX6_finds 88 = .ok (.if_icmp .ge 66, 3) := by decide +kernel
theorem dX6_finds_91 : decode cX6_finds 91 = .ok (.aload_n 0, 1) := by decide +kernel
theorem dX6_finds_92 : decode cX6_finds 92 = .ok (.iload_n 1, 1) := by decide +kernel
theorem dX6_finds_93 : decode cX6_finds 93 = .ok (.iload_n 2, 1) := by decide +kernel
theorem dX6_finds_94 : decode cX6_finds 94 = .ok (.invokevirtual 119, 3) := by decide +kernel
theorem dX6_finds_97 : decode cX6_finds 97 = .ok (.ifCond .eq 51, 3) := by decide +kernel
theorem dX6_finds_100 : decode cX6_finds 100 = .ok (.aload_n 0, 1) := by decide +kernel
theorem dX6_finds_101 : decode cX6_finds 101 = .ok (.aload_n 0, 1) := by decide +kernel
theorem dX6_finds_102 : decode cX6_finds 102 = .ok (.iload_n 1, 1) := by decide +kernel
theorem dX6_finds_103 : decode cX6_finds 103 = .ok (.invokevirtual 44, 3) := by decide +kernel
theorem dX6_finds_106 : decode cX6_finds 106 = .ok (.aload_n 0, 1) := by decide +kernel
theorem dX6_finds_107 : decode cX6_finds 107 = .ok (.iload_n 2, 1) := by decide +kernel
theorem dX6_finds_108 : decode cX6_finds 108 = .ok (.invokevirtual 44, 3) := by decide +kernel
theorem dX6_finds_111 : decode cX6_finds 111 = .ok (.isub, 1) := by decide +kernel
theorem dX6_finds_112 : decode cX6_finds 112 = .ok (.aload_n 0, 1) := by decide +kernel
theorem dX6_finds_113 : decode cX6_finds 113 = .ok (.getfield 7, 3) := by decide +kernel
theorem dX6_finds_116 : decode cX6_finds 116 = .ok (.bipush 9, 2) := by decide +kernel
theorem dX6_finds_118 : decode cX6_finds 118 = .ok (.aload_n 0, 1) := by decide +kernel
theorem dX6_finds_119 : decode cX6_finds 119 = .ok (.iload_n 1, 1) := by decide +kernel
theorem dX6_finds_120 : decode cX6_finds 120 = .ok (.iconst 1, 1) := by decide +kernel
theorem dX6_finds_121 : decode cX6_finds 121 = .ok (.invokevirtual 36, 3) := by decide +kernel
theorem dX6_finds_124 : decode cX6_finds 124 = .ok (.iadd, 1) := by decide +kernel
theorem dX6_finds_125 : decode cX6_finds 125 = .ok (.iaload, 1) := by decide +kernel
theorem dX6_finds_126 : decode cX6_finds 126 = .ok (.aload_n 0, 1) := by decide +kernel
theorem dX6_finds_127 : decode cX6_finds 127 = .ok (.getfield 7, 3) := by decide +kernel
theorem dX6_finds_130 : decode cX6_finds 130 = .ok (.bipush 9, 2) := by decide +kernel
theorem dX6_finds_132 : decode cX6_finds 132 = .ok (.aload_n 0, 1) := by decide +kernel
theorem dX6_finds_133 : decode cX6_finds 133 = .ok (.iload_n 2, 1) := by decide +kernel
theorem dX6_finds_134 : decode cX6_finds 134 = .ok (.iconst 1, 1) := by decide +kernel
theorem dX6_finds_135 : decode cX6_finds 135 = .ok (.invokevirtual 36, 3) := by decide +kernel
theorem dX6_finds_138 : decode cX6_finds 138 = .ok (.iadd, 1) := by decide +kernel
theorem dX6_finds_139 : decode cX6_finds 139 = .ok (.iaload, 1) := by decide +kernel
theorem dX6_finds_140 : decode cX6_finds 140 = .ok (.isub, 1) := by decide +kernel
theorem dX6_finds_141 : decode cX6_finds 141 = .ok (.imul, 1) := by decide +kernel
theorem dX6_finds_142 : decode cX6_finds 142 = .ok (.iload_n 1, 1) := by decide +kernel
theorem dX6_finds_143 : decode cX6_finds 143 = .ok (.iload_n 2, 1) := by decide +kernel
theorem dX6_finds_144 : decode cX6_finds 144 = .ok (.iconst 1, 1) := by decide +kernel
theorem dX6_finds_145 : decode cX6_finds 145 = .ok (.invokevirtual 115, 3) := by decide +kernel
theorem dX6_finds_148 : decode cX6_finds 148 = .ok (.iinc 2 1, 3) := by decide +kernel
theorem dX6_finds_151 : decode cX6_finds 151 = .ok (.goto (-70), 3) := by decide +kernel
theorem dX6_finds_154 : decode cX6_finds 154 = .ok (.iinc 1 1, 3) := by decide +kernel
theorem dX6_finds_157 : decode cX6_finds 157 = .ok (.goto (-90), 3) := by decide +kernel
theorem dX6_finds_160 : decode cX6_finds 160 = .ok (.return_, 1) := by decide +kernel
set_option maxRecDepth 20000 in
theorem ggX6_puts_X6_lay : GoodIn wsX6_puts wsX6_lay := goodIn_r _ [5, 6, 7, 8, 9, 10, 11, 12, 13, 14, 15, 16, 17, 18, 19, 20, 21, 22] (by decide +kernel) (by decide +kernel)
set_option maxRecDepth 20000 in
theorem gX6_puts_X6_lay : GoodIn wsX6_puts (wsV RX6 67 RX6 yX6_lay wsX6_lay) := goodIn_app (goodIn_of _ (by decide +kernel)) ggX6_puts_X6_lay
theorem dX6_puts_0 : decode cX6_puts 0 = .ok (.aload_n 0, 1) := by decide +kernel
theorem dX6_puts_1 : decode cX6_puts 1 = .ok (.iload_n 1, 1) := by decide +kernel
theorem dX6_puts_2 : decode cX6_puts 2 = .ok (.iconst 1, 1) := by decide +kernel
theorem dX6_puts_3 : decode cX6_puts 3 = .ok (.iload_n 2, 1) := by decide +kernel
theorem dX6_puts_4 : decode cX6_puts 4 = .ok (.invokevirtual 67, 3) := by decide +kernel
theorem dX6_puts_7 : decode cX6_puts 7 = .ok (.aload_n 0, 1) := by decide +kernel
theorem dX6_puts_8 : decode cX6_puts 8 = .ok (.iload_n 1, 1) := by decide +kernel
theorem dX6_puts_9 : decode cX6_puts 9 = .ok (.iconst 2, 1) := by decide +kernel
theorem dX6_puts_10 : decode cX6_puts 10 = .ok (.iload_n 2, 1) := by decide +kernel
theorem dX6_puts_11 : decode cX6_puts 11 = .ok (.invokevirtual 67, 3) := by decide +kernel
theorem dX6_puts_14 : decode cX6_puts 14 = .ok (.return_, 1) := by decide +kernel
set_option maxRecDepth 20000 in
theorem ggX6_works_X6_finds : GoodIn wsX6_works wsX6_finds := goodIn_r _ [10, 1, 5, 11, 12, 13, 9, 14, 15, 16, 17, 18, 19, 20, 21, 22, 23, 24, 25, 26, 27, 28, 29, 30, 31, 32, 33, 34, 35, 36, 37, 38, 39, 40, 41, 42, 3, 4, 2, 43, 44, 45, 46, 55, 56, 57, 58, 59, 60, 61, 62, 63, 64, 65, 66, 67, 68, 69, 70] (by decide +kernel) (by decide +kernel)
set_option maxRecDepth 20000 in
theorem gX6_works_X6_finds : GoodIn wsX6_works (wsV RX6 122 RX6 yX6_finds wsX6_finds) := goodIn_app (goodIn_of _ (by decide +kernel)) ggX6_works_X6_finds
set_option maxRecDepth 20000 in
theorem ggX6_works_X6_of : GoodIn wsX6_works wsX6_of := goodIn_r _ [22, 5, 55, 56, 57, 58, 59, 60, 61, 62, 63, 64, 65, 66, 67, 68, 69, 70] (by decide +kernel) (by decide +kernel)
set_option maxRecDepth 20000 in
theorem gX6_works_X6_of : GoodIn wsX6_works (wsV RX6 36 RX6 yX6_of wsX6_of) := goodIn_app (goodIn_of _ (by decide +kernel)) ggX6_works_X6_of
set_option maxRecDepth 20000 in
theorem ggX6_works_X6_puts : GoodIn wsX6_works wsX6_puts := goodIn_r _ [50, 51, 52, 53, 9, 54, 5, 55, 56, 57, 58, 59, 60, 61, 62, 63, 64, 65, 66, 67, 68, 69, 70] (by decide +kernel) (by decide +kernel)
set_option maxRecDepth 20000 in
theorem gX6_works_X6_puts : GoodIn wsX6_works (wsV RX6 125 RX6 yX6_puts wsX6_puts) := goodIn_app (goodIn_of _ (by decide +kernel)) ggX6_works_X6_puts
theorem dX6_works_0 : decode cX6_works 0 = .ok (.iconst 0, 1) := by decide +kernel
theorem dX6_works_1 : decode cX6_works 1 = .ok (.istore_n 2, 1) := by decide +kernel
theorem dX6_works_2 : decode cX6_works 2 = .ok (.aload_n 0, 1) := by decide +kernel
theorem dX6_works_3 : decode cX6_works 3 = .ok (.invokevirtual 122, 3) := by decide +kernel
theorem dX6_works_6 : decode cX6_works 6 = .ok (.iload_n 2, 1) := by decide +kernel
theorem dX6_works_7 : decode cX6_works 7 = .ok (.iload_n 1, 1) := by decide +kernel
theorem dX6_works_8 : decode cX6_works 8 = .ok (.if_icmp .ge 78, 3) := by decide +kernel
theorem dX6_works_11 : decode cX6_works 11 = .ok (.aload_n 0, 1) := by decide +kernel
theorem dX6_works_12 : decode cX6_works 12 = .ok (.getfield 96, 3) := by decide +kernel
theorem dX6_works_15 : decode cX6_works 15 = .ok (.ifCond .le 71, 3) := by decide +kernel
theorem dX6_works_18 : decode cX6_works 18 = .ok (.aload_n 0, 1) := by decide +kernel
theorem dX6_works_19 : decode cX6_works 19 = .ok (.getfield 105, 3) := by decide +kernel
theorem dX6_works_22 : decode cX6_works 22 = .ok (.ifCond .eq 42, 3) := by decide +kernel
theorem dX6_works_25 : decode cX6_works 25 = .ok (.aload_n 0, 1) := by decide +kernel
theorem dX6_works_26 : decode cX6_works 26 = .ok (.aload_n 0, 1) := by decide +kernel
theorem dX6_works_27 : decode cX6_works 27 = .ok (.getfield 99, 3) := by decide +kernel
theorem dX6_works_30 : decode cX6_works 30 = .ok (.iconst 1, 1) := by decide +kernel
theorem dX6_works_31 : decode cX6_works 31 = .ok (.invokevirtual 36, 3) := by decide +kernel
theorem dX6_works_34 : decode cX6_works 34 = .ok (.istore_n 3, 1) := by decide +kernel
theorem dX6_works_35 : decode cX6_works 35 = .ok (.aload_n 0, 1) := by decide +kernel
theorem dX6_works_36 : decode cX6_works 36 = .ok (.aload_n 0, 1) := by decide +kernel
theorem dX6_works_37 : decode cX6_works 37 = .ok (.getfield 99, 3) := by decide +kernel
theorem dX6_works_40 : decode cX6_works 40 = .ok (.aload_n 0, 1) := by decide +kernel
theorem dX6_works_41 : decode cX6_works 41 = .ok (.aload_n 0, 1) := by decide +kernel
theorem dX6_works_42 : decode cX6_works 42 = .ok (.getfield 102, 3) := by decide +kernel
theorem dX6_works_45 : decode cX6_works 45 = .ok (.iconst 1, 1) := by decide +kernel
theorem dX6_works_46 : decode cX6_works 46 = .ok (.invokevirtual 36, 3) := by decide +kernel
theorem dX6_works_49 : decode cX6_works 49 = .ok (.invokevirtual 125, 3) := by decide +kernel
theorem dX6_works_52 : decode cX6_works 52 = .ok (.aload_n 0, 1) := by decide +kernel
theorem dX6_works_53 : decode cX6_works 53 = .ok (.aload_n 0, 1) := by decide +kernel
theorem dX6_works_54 : decode cX6_works 54 = .ok (.getfield 102, 3) := by decide +kernel
theorem dX6_works_57 : decode cX6_works 57 = .ok (.iload_n 3, 1) := by decide +kernel
theorem dX6_works_58 : decode cX6_works 58 = .ok (.invokevirtual 125, 3) := by decide +kernel
theorem dX6_works_61 : decode cX6_works 61 = .ok (.goto 15, 3) := by decide +kernel
theorem dX6_works_64 : decode cX6_works 64 = .ok (.aload_n 0, 1) := by decide +kernel
theorem dX6_works_65 : decode cX6_works 65 = .ok (.aload_n 0, 1) := by decide +kernel
theorem dX6_works_66 : decode cX6_works 66 = .ok (.getfield 99, 3) := by decide +kernel
theorem dX6_works_69 : decode cX6_works 69 = .ok (.aload_n 0, 1) := by decide +kernel
theorem dX6_works_70 : decode cX6_works 70 = .ok (.getfield 102, 3) := by decide +kernel
theorem dX6_works_73 : decode cX6_works 73 = .ok (.invokevirtual 125, 3) := by decide +kernel
theorem dX6_works_76 : decode cX6_works 76 = .ok (.iinc 2 1, 3) := by decide +kernel
theorem dX6_works_79 : decode cX6_works 79 = .ok (.aload_n 0, 1) := by decide +kernel
theorem dX6_works_80 : decode cX6_works 80 = .ok (.invokevirtual 122, 3) := by decide +kernel
theorem dX6_works_83 : decode cX6_works 83 = .ok (.goto (-77), 3) := by decide +kernel
theorem dX6_works_86 : decode cX6_works 86 = .ok (.aload_n 0, 1) := by decide +kernel
theorem dX6_works_87 : decode cX6_works 87 = .ok (.getfield 7, 3) := by decide +kernel
theorem dX6_works_90 : decode cX6_works 90 = .ok (.iconst 2, 1) := by decide +kernel
theorem dX6_works_91 : decode cX6_works 91 = .ok (.dup2, 1) := by decide +kernel
theorem dX6_works_92 : decode cX6_works 92 = .ok (.iaload, 1) := by decide +kernel
theorem dX6_works_93 : decode cX6_works 93 = .ok (.iload_n 2, 1) := by decide +kernel
theorem dX6_works_94 : decode cX6_works 94 = .ok (.iadd, 1) := by decide +kernel
theorem dX6_works_95 : decode cX6_works 95 = .ok (.iastore, 1) := by decide +kernel
theorem dX6_works_96 : decode cX6_works 96 = .ok (.iload_n 2, 1) := by decide +kernel
theorem dX6_works_97 : decode cX6_works 97 = .ok (.ireturn, 1) := by decide +kernel
set_option maxRecDepth 20000 in
theorem ggX6_night_X6_in : GoodIn wsX6_night wsX6_in := goodIn_r _ [5] (by decide +kernel) (by decide +kernel)
set_option maxRecDepth 20000 in
theorem gX6_night_X6_in : GoodIn wsX6_night (va_wsS RX6 29 yX6_in wsX6_in) := goodIn_app (goodIn_of _ (by decide +kernel)) ggX6_night_X6_in
set_option maxRecDepth 20000 in
theorem ggX6_night_X6_fails : GoodIn wsX6_night wsX6_fails := goodIn_r _ [9, 1, 73, 74, 75, 76, 77, 78, 79, 80, 81, 82, 83, 84, 85, 86, 87, 88] (by decide +kernel) (by decide +kernel)
set_option maxRecDepth 20000 in
theorem gX6_night_X6_fails : GoodIn wsX6_night (wsV RX6 58 RX6 yX6_fails wsX6_fails) := goodIn_app (goodIn_of _ (by decide +kernel)) ggX6_night_X6_fails
set_option maxRecDepth 20000 in
theorem ggX6_night_X6_saves : GoodIn wsX6_night wsX6_saves := goodIn_r _ [13, 14, 15, 16, 73, 74, 75, 76, 77, 78, 79, 80, 81, 82, 83, 84, 85, 86, 87, 88] (by decide +kernel) (by decide +kernel)
set_option maxRecDepth 20000 in
theorem gX6_night_X6_saves : GoodIn wsX6_night (wsV RX6 61 RX6 yX6_saves wsX6_saves) := goodIn_app (goodIn_of _ (by decide +kernel)) ggX6_night_X6_saves
set_option maxRecDepth 20000 in
theorem ggX6_night_X6_works : GoodIn wsX6_night wsX6_works := goodIn_r _ [20, 21, 22, 23, 24, 16, 25, 26, 27, 4, 28, 29, 30, 31, 32, 33, 34, 35, 36, 37, 38, 39, 40, 41, 42, 43, 44, 45, 46, 47, 48, 49, 50, 51, 52, 53, 54, 55, 56, 57, 58, 59, 60, 61, 62, 63, 64, 65, 66, 67, 68, 69, 70, 71, 72, 73, 74, 75, 76, 77, 78, 79, 80, 81, 82, 83, 84, 85, 86, 87, 88] (by decide +kernel) (by decide +kernel)
set_option maxRecDepth 20000 in
theorem gX6_night_X6_works : GoodIn wsX6_night (wsV RX6 129 RX6 yX6_works wsX6_works) := goodIn_app (goodIn_of _ (by decide +kernel)) ggX6_night_X6_works
theorem dX6_night_0 : decode cX6_night 0 = .ok (.aload_n 0, 1) := by decide +kernel
theorem dX6_night_1 : decode cX6_night 1 = .ok (.iconst 0, 1) := by decide +kernel
theorem dX6_night_2 : decode cX6_night 2 = .ok (.putfield 25, 3) := by decide +kernel
theorem dX6_night_5 : decode cX6_night 5 = .ok (.iload_n 1, 1) := by decide +kernel
theorem dX6_night_6 : decode cX6_night 6 = .ok (.iconst 1, 1) := by decide +kernel
theorem dX6_night_7 : decode cX6_night 7 = .ok (.bipush 20, 2) := by decide +kernel
theorem dX6_night_9 : decode cX6_night 9 = .ok (.invokestatic 29, 3) := by decide +kernel
theorem dX6_night_12 : decode cX6_night 12 = .ok (.ifCond .ne 9, 3) := by decide +kernel
theorem dX6_night_15 : decode cX6_night 15 = .ok (.aload_n 0, 1) := by decide +kernel
theorem dX6_night_16 : decode cX6_night 16 = .ok (.iconst 1, 1) := by decide +kernel
theorem dX6_night_17 : decode cX6_night 17 = .ok (.invokevirtual 58, 3) := by decide +kernel
theorem dX6_night_20 : decode cX6_night 20 = .ok (.ireturn, 1) := by decide +kernel
theorem dX6_night_21 : decode cX6_night 21 = .ok (.aload_n 0, 1) := by decide +kernel
theorem dX6_night_22 : decode cX6_night 22 = .ok (.invokevirtual 61, 3) := by decide +kernel
theorem dX6_night_25 : decode cX6_night 25 = .ok (.aload_n 0, 1) := by decide +kernel
theorem dX6_night_26 : decode cX6_night 26 = .ok (.iload_n 1, 1) := by decide +kernel
theorem dX6_night_27 : decode cX6_night 27 = .ok (.invokevirtual 129, 3) := by decide +kernel
theorem dX6_night_30 : decode cX6_night 30 = .ok (.ireturn, 1) := by decide +kernel
set_option maxRecDepth 20000 in
theorem ggX6_cost_X6_costs : GoodIn wsX6_cost wsX6_costs := goodIn_r _ [6, 7, 8, 9, 10, 5, 11, 12, 13, 14, 15, 16, 17, 18, 19, 20, 21, 22, 23, 24, 25, 26, 27, 28, 29, 30, 31] (by decide +kernel) (by decide +kernel)
set_option maxRecDepth 20000 in
theorem gX6_cost_X6_costs : GoodIn wsX6_cost (wsV RX6 132 RX6 yX6_costs wsX6_costs) := goodIn_app (goodIn_of _ (by decide +kernel)) ggX6_cost_X6_costs
theorem dX6_cost_0 : decode cX6_cost 0 = .ok (.aload_n 0, 1) := by decide +kernel
theorem dX6_cost_1 : decode cX6_cost 1 = .ok (.iconst 0, 1) := by decide +kernel
theorem dX6_cost_2 : decode cX6_cost 2 = .ok (.putfield 25, 3) := by decide +kernel
theorem dX6_cost_5 : decode cX6_cost 5 = .ok (.aload_n 0, 1) := by decide +kernel
theorem dX6_cost_6 : decode cX6_cost 6 = .ok (.invokevirtual 132, 3) := by decide +kernel
theorem dX6_cost_9 : decode cX6_cost 9 = .ok (.ireturn, 1) := by decide +kernel
theorem dX6_steps_0 : decode cX6_steps 0 = .ok (.aload_n 0, 1) := by decide +kernel
theorem dX6_steps_1 : decode cX6_steps 1 = .ok (.iconst 0, 1) := by decide +kernel
theorem dX6_steps_2 : decode cX6_steps 2 = .ok (.putfield 25, 3) := by decide +kernel
theorem dX6_steps_5 : decode cX6_steps 5 = .ok (.aload_n 0, 1) := by decide +kernel
theorem dX6_steps_6 : decode cX6_steps 6 = .ok (.getfield 7, 3) := by decide +kernel
theorem dX6_steps_9 : decode cX6_steps 9 = .ok (.iconst 2, 1) := by decide +kernel
theorem dX6_steps_10 : decode cX6_steps 10 = .ok (.iaload, 1) := by decide +kernel
theorem dX6_steps_11 : decode cX6_steps 11 = .ok (.ireturn, 1) := by decide +kernel
set_option maxRecDepth 20000 in
theorem ggX6_reason_X6_isRecord : GoodIn wsX6_reason wsX6_isRecord := goodIn_r _ [6, 7, 8, 9, 5, 10, 42, 43, 44, 45, 46, 47, 48, 49, 50, 51, 52, 53, 54, 55, 56, 57] (by decide +kernel) (by decide +kernel)
set_option maxRecDepth 20000 in
theorem gX6_reason_X6_isRecord : GoodIn wsX6_reason (wsV RX6 77 RX6 yX6_isRecord wsX6_isRecord) := goodIn_app (goodIn_of _ (by decide +kernel)) ggX6_reason_X6_isRecord
set_option maxRecDepth 20000 in
theorem ggX6_reason_X6_isShelf : GoodIn wsX6_reason wsX6_isShelf := goodIn_r _ [13, 8, 9, 5, 10] (by decide +kernel) (by decide +kernel)
set_option maxRecDepth 20000 in
theorem gX6_reason_X6_isShelf : GoodIn wsX6_reason (va_wsS RX6 55 yX6_isShelf wsX6_isShelf) := goodIn_app (goodIn_of _ (by decide +kernel)) ggX6_reason_X6_isShelf
set_option maxRecDepth 20000 in
theorem ggX6_reason_X6_fails : GoodIn wsX6_reason wsX6_fails := goodIn_r _ [17, 1, 42, 43, 44, 45, 46, 47, 48, 49, 50, 51, 52, 53, 54, 55, 56, 57] (by decide +kernel) (by decide +kernel)
set_option maxRecDepth 20000 in
theorem gX6_reason_X6_fails : GoodIn wsX6_reason (wsV RX6 58 RX6 yX6_fails wsX6_fails) := goodIn_app (goodIn_of _ (by decide +kernel)) ggX6_reason_X6_fails
set_option maxRecDepth 20000 in
theorem ggX6_reason_X6_isMisplaced : GoodIn wsX6_reason wsX6_isMisplaced := goodIn_r _ [21, 22, 23, 24, 5, 25, 7, 42, 43, 44, 45, 46, 47, 48, 49, 50, 51, 52, 53, 54, 55, 56, 57] (by decide +kernel) (by decide +kernel)
set_option maxRecDepth 20000 in
theorem gX6_reason_X6_isMisplaced : GoodIn wsX6_reason (wsV RX6 47 RX6 yX6_isMisplaced wsX6_isMisplaced) := goodIn_app (goodIn_of _ (by decide +kernel)) ggX6_reason_X6_isMisplaced
set_option maxRecDepth 20000 in
theorem ggX6_reason_X6_of : GoodIn wsX6_reason wsX6_of := goodIn_r _ [25, 7, 42, 43, 44, 45, 46, 47, 48, 49, 50, 51, 52, 53, 54, 55, 56, 57] (by decide +kernel) (by decide +kernel)
set_option maxRecDepth 20000 in
theorem gX6_reason_X6_of : GoodIn wsX6_reason (wsV RX6 36 RX6 yX6_of wsX6_of) := goodIn_app (goodIn_of _ (by decide +kernel)) ggX6_reason_X6_of
set_option maxRecDepth 20000 in
theorem ggX6_reason_X6_room : GoodIn wsX6_reason wsX6_room := goodIn_r _ [29, 7, 30, 31, 32, 5, 33, 22, 23, 24, 25, 42, 43, 44, 45, 46, 47, 48, 49, 50, 51, 52, 53, 54, 55, 56, 57] (by decide +kernel) (by decide +kernel)
set_option maxRecDepth 20000 in
theorem gX6_reason_X6_room : GoodIn wsX6_reason (wsV RX6 64 RX6 yX6_room wsX6_room) := goodIn_app (goodIn_of _ (by decide +kernel)) ggX6_reason_X6_room
set_option maxRecDepth 20000 in
theorem ggX6_reason_X6_gainOfMove : GoodIn wsX6_reason wsX6_gainOfMove := goodIn_r _ [37, 7, 38, 39, 40, 5, 41, 22, 23, 24, 25, 42, 43, 44, 45, 46, 47, 48, 49, 50, 51, 52, 53, 54, 55, 56, 57] (by decide +kernel) (by decide +kernel)
set_option maxRecDepth 20000 in
theorem gX6_reason_X6_gainOfMove : GoodIn wsX6_reason (wsV RX6 112 RX6 yX6_gainOfMove wsX6_gainOfMove) := goodIn_app (goodIn_of _ (by decide +kernel)) ggX6_reason_X6_gainOfMove
theorem dX6_reason_0 : decode cX6_reason 0 = .ok (.aload_n 0, 1) := by decide +kernel
theorem dX6_reason_1 : decode cX6_reason 1 = .ok (.iconst 0, 1) := by decide +kernel
theorem dX6_reason_2 : decode cX6_reason 2 = .ok (.putfield 25, 3) := by decide +kernel
theorem dX6_reason_5 : decode cX6_reason 5 = .ok (.aload_n 0, 1) := by decide +kernel
theorem dX6_reason_6 : decode cX6_reason 6 = .ok (.iload_n 1, 1) := by decide +kernel
theorem dX6_reason_7 : decode cX6_reason 7 = .ok (.invokevirtual 77, 3) := by decide +kernel
theorem dX6_reason_10 : decode cX6_reason 10 = .ok (.ifCond .eq 10, 3) := by decide +kernel
theorem dX6_reason_13 : decode cX6_reason 13 = .ok (.iload_n 2, 1) := by decide +kernel
theorem dX6_reason_14 : decode cX6_reason 14 = .ok (.invokestatic 55, 3) := by decide +kernel
theorem dX6_reason_17 : decode cX6_reason 17 = .ok (.ifCond .ne 9, 3) := by decide +kernel
theorem dX6_reason_20 : decode cX6_reason 20 = .ok (.aload_n 0, 1) := by decide +kernel
theorem dX6_reason_21 : decode cX6_reason 21 = .ok (.iconst 1, 1) := by decide +kernel
theorem dX6_reason_22 : decode cX6_reason 22 = .ok (.invokevirtual 58, 3) := by decide +kernel
theorem dX6_reason_25 : decode cX6_reason 25 = .ok (.ireturn, 1) := by decide +kernel
theorem dX6_reason_26 : decode cX6_reason 26 = .ok (.aload_n 0, 1) := by decide +kernel
theorem dX6_reason_27 : decode cX6_reason 27 = .ok (.iload_n 1, 1) := by decide +kernel
theorem dX6_reason_28 : decode cX6_reason 28 = .ok (.invokevirtual 47, 3) := by decide +kernel
theorem dX6_reason_31 : decode cX6_reason 31 = .ok (.ifCond .eq 5, 3) := by decide +kernel
theorem dX6_reason_34 : decode cX6_reason 34 = .ok (.iconst 1, 1) := by decide +kernel
theorem dX6_reason_35 : decode cX6_reason 35 = .ok (.ireturn, 1) := by decide +kernel
theorem dX6_reason_36 : decode cX6_reason 36 = .ok (.aload_n 0, 1) := by decide +kernel
theorem dX6_reason_37 : decode cX6_reason 37 = .ok (.iload_n 1, 1) := by decide +kernel
theorem dX6_reason_38 : decode cX6_reason 38 = .ok (.iconst 1, 1) := by decide +kernel
theorem dX6_reason_39 : decode cX6_reason 39 = .ok (.invokevirtual 36, 3) := by decide +kernel
theorem dX6_reason_42 : decode cX6_reason 42 = .ok (.iload_n 2, 1) := by decide +kernel
theorem dX6_reason_43 : decode cX6_reason 43 = .ok (.if_icmp .ne 5, 3) := by decide +kernel
theorem dX6_reason_46 : decode cX6_reason 46 = .ok (.iconst 2, 1) := by decide +kernel
theorem dX6_reason_47 : decode cX6_reason 47 = .ok (.ireturn, 1) := by decide +kernel
theorem dX6_reason_48 : decode cX6_reason 48 = .ok (.aload_n 0, 1) := by decide +kernel
theorem dX6_reason_49 : decode cX6_reason 49 = .ok (.iload_n 2, 1) := by decide +kernel
theorem dX6_reason_50 : decode cX6_reason 50 = .ok (.invokevirtual 64, 3) := by decide +kernel
theorem dX6_reason_53 : decode cX6_reason 53 = .ok (.aload_n 0, 1) := by decide +kernel
theorem dX6_reason_54 : decode cX6_reason 54 = .ok (.iload_n 1, 1) := by decide +kernel
theorem dX6_reason_55 : decode cX6_reason 55 = .ok (.iconst 0, 1) := by decide +kernel
theorem dX6_reason_56 : decode cX6_reason 56 = .ok (.invokevirtual 36, 3) := by decide +kernel
theorem dX6_reason_59 : decode cX6_reason 59 = .ok (.if_icmp .ge 7, 3) := by decide +kernel
theorem dX6_reason_62 : decode cX6_reason 62 = .ok (.iconst 3, 1) := by decide +kernel
theorem dX6_reason_63 : decode cX6_reason 63 = .ok (.goto 18, 3) := by decide +kernel
theorem dX6_reason_66 : decode cX6_reason 66 = .ok (.aload_n 0, 1) := by decide +kernel
theorem dX6_reason_67 : decode cX6_reason 67 = .ok (.iload_n 1, 1) := by decide +kernel
theorem dX6_reason_68 : decode cX6_reason 68 = .ok (.iload_n 2, 1) := by decide +kernel
theorem dX6_reason_69 : decode cX6_reason 69 = .ok (.invokevirtual 112, 3) := by decide +kernel
theorem dX6_reason_72 : decode cX6_reason 72 = .ok (.iconst 1, 1) := by decide +kernel
theorem dX6_reason_73 : decode cX6_reason 73 = .ok (.if_icmp .ge 7, 3) := by decide +kernel
theorem dX6_reason_76 : decode cX6_reason 76 = .ok (.iconst 4, 1) := by decide +kernel
theorem dX6_reason_77 : decode cX6_reason 77 = .ok (.goto 4, 3) := by decide +kernel
theorem dX6_reason_80 : decode cX6_reason 80 = .ok (.iconst 0, 1) := by decide +kernel
theorem dX6_reason_81 : decode cX6_reason 81 = .ok (.ireturn, 1) := by decide +kernel
set_option maxRecDepth 20000 in
theorem ggX6_bestGain_X6_finds : GoodIn wsX6_bestGain wsX6_finds := goodIn_r _ [7, 2, 8, 9, 10, 11, 6, 12, 13, 14, 15, 16, 17, 18, 19, 20, 21, 22, 23, 24, 25, 26, 27, 28, 29, 30, 31, 32, 33, 34, 35, 36, 37, 38, 39, 40, 41, 42, 43, 44, 45, 46, 47, 48, 49, 50, 51, 52, 53, 54, 55, 56, 57, 58, 59, 60, 61, 62, 63] (by decide +kernel) (by decide +kernel)
set_option maxRecDepth 20000 in
theorem gX6_bestGain_X6_finds : GoodIn wsX6_bestGain (wsV RX6 122 RX6 yX6_finds wsX6_finds) := goodIn_app (goodIn_of _ (by decide +kernel)) ggX6_bestGain_X6_finds
theorem dX6_bestGain_0 : decode cX6_bestGain 0 = .ok (.aload_n 0, 1) := by decide +kernel
theorem dX6_bestGain_1 : decode cX6_bestGain 1 = .ok (.iconst 0, 1) := by decide +kernel
theorem dX6_bestGain_2 : decode cX6_bestGain 2 = .ok (.putfield 25, 3) := by decide +kernel
theorem dX6_bestGain_5 : decode cX6_bestGain 5 = .ok (.aload_n 0, 1) := by decide +kernel
theorem dX6_bestGain_6 : decode cX6_bestGain 6 = .ok (.invokevirtual 122, 3) := by decide +kernel
theorem dX6_bestGain_9 : decode cX6_bestGain 9 = .ok (.aload_n 0, 1) := by decide +kernel
theorem dX6_bestGain_10 : decode cX6_bestGain 10 = .ok (.getfield 96, 3) := by decide +kernel
theorem dX6_bestGain_13 : decode cX6_bestGain 13 = .ok (.ireturn, 1) := by decide +kernel
set_option maxRecDepth 20000 in
theorem ggX6_costAfterNight_X6_in : GoodIn wsX6_costAfterNight wsX6_in := goodIn_r _ [7] (by decide +kernel) (by decide +kernel)
set_option maxRecDepth 20000 in
theorem gX6_costAfterNight_X6_in : GoodIn wsX6_costAfterNight (va_wsS RX6 29 yX6_in wsX6_in) := goodIn_app (goodIn_of _ (by decide +kernel)) ggX6_costAfterNight_X6_in
set_option maxRecDepth 20000 in
theorem ggX6_costAfterNight_X6_fails : GoodIn wsX6_costAfterNight wsX6_fails := goodIn_r _ [11, 1, 72, 73, 74, 75, 76, 77, 78, 79, 80, 81, 82, 83, 84, 85, 86, 87] (by decide +kernel) (by decide +kernel)
set_option maxRecDepth 20000 in
theorem gX6_costAfterNight_X6_fails : GoodIn wsX6_costAfterNight (wsV RX6 58 RX6 yX6_fails wsX6_fails) := goodIn_app (goodIn_of _ (by decide +kernel)) ggX6_costAfterNight_X6_fails
set_option maxRecDepth 20000 in
theorem ggX6_costAfterNight_X6_works : GoodIn wsX6_costAfterNight wsX6_works := goodIn_r _ [15, 16, 17, 18, 19, 3, 20, 21, 22, 6, 23, 24, 25, 26, 27, 28, 29, 30, 31, 32, 33, 34, 35, 36, 37, 38, 39, 40, 41, 42, 43, 44, 45, 46, 47, 48, 49, 50, 51, 52, 53, 54, 55, 56, 57, 58, 59, 60, 61, 62, 63, 64, 65, 66, 67, 72, 73, 74, 75, 76, 77, 78, 79, 80, 81, 82, 83, 84, 85, 86, 87] (by decide +kernel) (by decide +kernel)
set_option maxRecDepth 20000 in
theorem gX6_costAfterNight_X6_works : GoodIn wsX6_costAfterNight (wsV RX6 129 RX6 yX6_works wsX6_works) := goodIn_app (goodIn_of _ (by decide +kernel)) ggX6_costAfterNight_X6_works
set_option maxRecDepth 20000 in
theorem ggX6_costAfterNight_X6_costs : GoodIn wsX6_costAfterNight wsX6_costs := goodIn_r _ [71, 3, 48, 49, 50, 6, 51, 32, 33, 34, 35, 72, 73, 74, 75, 76, 77, 78, 79, 80, 81, 82, 83, 84, 85, 86, 87] (by decide +kernel) (by decide +kernel)
set_option maxRecDepth 20000 in
theorem gX6_costAfterNight_X6_costs : GoodIn wsX6_costAfterNight (wsV RX6 132 RX6 yX6_costs wsX6_costs) := goodIn_app (goodIn_of _ (by decide +kernel)) ggX6_costAfterNight_X6_costs
theorem dX6_costAfterNight_0 : decode cX6_costAfterNight 0 = .ok (.aload_n 0, 1) := by decide +kernel
theorem dX6_costAfterNight_1 : decode cX6_costAfterNight 1 = .ok (.iconst 0, 1) := by decide +kernel
theorem dX6_costAfterNight_2 : decode cX6_costAfterNight 2 = .ok (.putfield 25, 3) := by decide +kernel
theorem dX6_costAfterNight_5 : decode cX6_costAfterNight 5 = .ok (.iload_n 1, 1) := by decide +kernel
theorem dX6_costAfterNight_6 : decode cX6_costAfterNight 6 = .ok (.iconst 1, 1) := by decide +kernel
theorem dX6_costAfterNight_7 : decode cX6_costAfterNight 7 = .ok (.bipush 20, 2) := by decide +kernel
theorem dX6_costAfterNight_9 : decode cX6_costAfterNight 9 = .ok (.invokestatic 29, 3) := by decide +kernel
theorem dX6_costAfterNight_12 : decode cX6_costAfterNight 12 = .ok (.ifCond .ne 9, 3) := by decide +kernel
theorem dX6_costAfterNight_15 : decode cX6_costAfterNight 15 = .ok (.aload_n 0, 1) := by decide +kernel
theorem dX6_costAfterNight_16 : decode cX6_costAfterNight 16 = .ok (.iconst 1, 1) := by decide +kernel
theorem dX6_costAfterNight_17 : decode cX6_costAfterNight 17 = .ok (.invokevirtual 58, 3) := by decide +kernel
theorem dX6_costAfterNight_20 : decode cX6_costAfterNight 20 = .ok (.ireturn, 1) := by decide +kernel
theorem dX6_costAfterNight_21 : decode cX6_costAfterNight 21 = .ok (.iconst 0, 1) := by decide +kernel
theorem dX6_costAfterNight_22 : decode cX6_costAfterNight 22 = .ok (.istore_n 2, 1) := by decide +kernel
theorem dX6_costAfterNight_23 : decode cX6_costAfterNight 23 = .ok (.iload_n 2, 1) := by decide +kernel
theorem dX6_costAfterNight_24 : decode cX6_costAfterNight 24 = .ok (.bipush 96, 2) := by decide +kernel
theorem dX6_costAfterNight_26 : decode cX6_costAfterNight 26 = .ok (.if_icmp .ge 21, 3) := by decide +kernel
theorem dX6_costAfterNight_29 : decode cX6_costAfterNight 29 = .ok (.aload_n 0, 1) := by decide +kernel
theorem dX6_costAfterNight_30 : decode cX6_costAfterNight 30 = .ok (.getfield 13, 3) := by decide +kernel
theorem dX6_costAfterNight_33 : decode cX6_costAfterNight 33 = .ok (.iload_n 2, 1) := by decide +kernel
theorem dX6_costAfterNight_34 : decode cX6_costAfterNight 34 = .ok (.aload_n 0, 1) := by decide +kernel
theorem dX6_costAfterNight_35 : decode cX6_costAfterNight 35 = .ok (.getfield 7, 3) := by decide +kernel
theorem dX6_costAfterNight_38 : decode cX6_costAfterNight 38 = .ok (.iload_n 2, 1) := by decide +kernel
theorem dX6_costAfterNight_39 : decode cX6_costAfterNight 39 = .ok (.iaload, 1) := by decide +kernel
theorem dX6_costAfterNight_40 : decode cX6_costAfterNight 40 = .ok (.iastore, 1) := by decide +kernel
theorem dX6_costAfterNight_41 : decode cX6_costAfterNight 41 = .ok (.iinc 2 1, 3) := by decide +kernel
theorem dX6_costAfterNight_44 : decode cX6_costAfterNight 44 = .ok (.goto (-21), 3) := by decide +kernel
theorem dX6_costAfterNight_47 : decode cX6_costAfterNight 47 = .ok (.aload_n 0, 1) := by decide +kernel
theorem dX6_costAfterNight_48 : decode cX6_costAfterNight 48 = .ok (.iload_n 1, 1) := by decide +kernel
theorem dX6_costAfterNight_49 : decode cX6_costAfterNight 49 = .ok (.invokevirtual 129, 3) := by decide +kernel
theorem dX6_costAfterNight_52 : decode cX6_costAfterNight 52 = .ok (.pop, 1) := by decide +kernel
theorem dX6_costAfterNight_53 : decode cX6_costAfterNight 53 = .ok (.aload_n 0, 1) := by decide +kernel
theorem dX6_costAfterNight_54 : decode cX6_costAfterNight 54 = .ok (.invokevirtual 132, 3) := by decide +kernel
theorem dX6_costAfterNight_57 : decode cX6_costAfterNight 57 = .ok (.istore_n 2, 1) := by decide +kernel
theorem dX6_costAfterNight_58 : decode cX6_costAfterNight 58 = .ok (.iconst 0, 1) := by decide +kernel
theorem dX6_costAfterNight_59 : decode cX6_costAfterNight 59 = .ok (.istore_n 3, 1) := by decide +kernel
theorem dX6_costAfterNight_60 : decode cX6_costAfterNight 60 = .ok (.iload_n 3, 1) := by decide +kernel
theorem dX6_costAfterNight_61 : decode cX6_costAfterNight 61 = .ok (.bipush 96, 2) := by decide +kernel
theorem dX6_costAfterNight_63 : decode cX6_costAfterNight 63 = .ok (.if_icmp .ge 21, 3) := by decide +kernel
theorem dX6_costAfterNight_66 : decode cX6_costAfterNight 66 = .ok (.aload_n 0, 1) := by decide +kernel
theorem dX6_costAfterNight_67 : decode cX6_costAfterNight 67 = .ok (.getfield 7, 3) := by decide +kernel
theorem dX6_costAfterNight_70 : decode cX6_costAfterNight 70 = .ok (.iload_n 3, 1) := by decide +kernel
theorem dX6_costAfterNight_71 : decode cX6_costAfterNight 71 = .ok (.aload_n 0, 1) := by decide +kernel
theorem dX6_costAfterNight_72 : decode cX6_costAfterNight 72 = .ok (.getfield 13, 3) := by decide +kernel
theorem dX6_costAfterNight_75 : decode cX6_costAfterNight 75 = .ok (.iload_n 3, 1) := by decide +kernel
theorem dX6_costAfterNight_76 : decode cX6_costAfterNight 76 = .ok (.iaload, 1) := by decide +kernel
theorem dX6_costAfterNight_77 : decode cX6_costAfterNight 77 = .ok (.iastore, 1) := by decide +kernel
theorem dX6_costAfterNight_78 : decode cX6_costAfterNight 78 = .ok (.iinc 3 1, 3) := by decide +kernel
theorem dX6_costAfterNight_81 : decode cX6_costAfterNight 81 = .ok (.goto (-21), 3) := by decide +kernel
theorem dX6_costAfterNight_84 : decode cX6_costAfterNight 84 = .ok (.iload_n 2, 1) := by decide +kernel
theorem dX6_costAfterNight_85 : decode cX6_costAfterNight 85 = .ok (.ireturn, 1) := by decide +kernel
set_option maxRecDepth 20000 in
theorem ggX6_walkTo_X6_isRecord : GoodIn wsX6_walkTo wsX6_isRecord := goodIn_r _ [6, 7, 8, 9, 5, 10, 31, 32, 33, 34, 35, 36, 37, 38, 39, 40, 41, 42, 43, 44, 45, 46] (by decide +kernel) (by decide +kernel)
set_option maxRecDepth 20000 in
theorem gX6_walkTo_X6_isRecord : GoodIn wsX6_walkTo (wsV RX6 77 RX6 yX6_isRecord wsX6_isRecord) := goodIn_app (goodIn_of _ (by decide +kernel)) ggX6_walkTo_X6_isRecord
set_option maxRecDepth 20000 in
theorem ggX6_walkTo_X6_walk : GoodIn wsX6_walkTo wsX6_walk := goodIn_r _ [14, 7, 15, 16, 17, 5, 18, 19, 20, 21, 22, 23, 24, 25, 26, 31, 32, 33, 34, 35, 36, 37, 38, 39, 40, 41, 42, 43, 44, 45, 46] (by decide +kernel) (by decide +kernel)
set_option maxRecDepth 20000 in
theorem gX6_walkTo_X6_walk : GoodIn wsX6_walkTo (wsV RX6 80 RX6 yX6_walk wsX6_walk) := goodIn_app (goodIn_of _ (by decide +kernel)) ggX6_walkTo_X6_walk
set_option maxRecDepth 20000 in
theorem ggX6_walkTo_X6_fails : GoodIn wsX6_walkTo wsX6_fails := goodIn_r _ [30, 1, 31, 32, 33, 34, 35, 36, 37, 38, 39, 40, 41, 42, 43, 44, 45, 46] (by decide +kernel) (by decide +kernel)
set_option maxRecDepth 20000 in
theorem gX6_walkTo_X6_fails : GoodIn wsX6_walkTo (wsV RX6 58 RX6 yX6_fails wsX6_fails) := goodIn_app (goodIn_of _ (by decide +kernel)) ggX6_walkTo_X6_fails
theorem dX6_walkTo_0 : decode cX6_walkTo 0 = .ok (.aload_n 0, 1) := by decide +kernel
theorem dX6_walkTo_1 : decode cX6_walkTo 1 = .ok (.iconst 0, 1) := by decide +kernel
theorem dX6_walkTo_2 : decode cX6_walkTo 2 = .ok (.putfield 25, 3) := by decide +kernel
theorem dX6_walkTo_5 : decode cX6_walkTo 5 = .ok (.aload_n 0, 1) := by decide +kernel
theorem dX6_walkTo_6 : decode cX6_walkTo 6 = .ok (.iload_n 1, 1) := by decide +kernel
theorem dX6_walkTo_7 : decode cX6_walkTo 7 = .ok (.invokevirtual 77, 3) := by decide +kernel
theorem dX6_walkTo_10 : decode cX6_walkTo 10 = .ok (.ifCond .eq 11, 3) := by decide +kernel
theorem dX6_walkTo_13 : decode cX6_walkTo 13 = .ok (.aload_n 0, 1) := by decide +kernel
theorem dX6_walkTo_14 : decode cX6_walkTo 14 = .ok (.iload_n 1, 1) := by decide +kernel
theorem dX6_walkTo_15 : decode cX6_walkTo 15 = .ok (.invokevirtual 80, 3) := by decide +kernel
theorem dX6_walkTo_18 : decode cX6_walkTo 18 = .ok (.goto 8, 3) := by decide +kernel
theorem dX6_walkTo_21 : decode cX6_walkTo 21 = .ok (.aload_n 0, 1) := by decide +kernel
theorem dX6_walkTo_22 : decode cX6_walkTo 22 = .ok (.iconst 1, 1) := by decide +kernel
theorem dX6_walkTo_23 : decode cX6_walkTo 23 = .ok (.invokevirtual 58, 3) := by decide +kernel
theorem dX6_walkTo_26 : decode cX6_walkTo 26 = .ok (.ireturn, 1) := by decide +kernel
set_option maxRecDepth 20000 in
theorem ggX6_shelfFor_X6_in : GoodIn wsX6_shelfFor wsX6_in := goodIn_r _ [5] (by decide +kernel) (by decide +kernel)
set_option maxRecDepth 20000 in
theorem gX6_shelfFor_X6_in : GoodIn wsX6_shelfFor (va_wsS RX6 29 yX6_in wsX6_in) := goodIn_app (goodIn_of _ (by decide +kernel)) ggX6_shelfFor_X6_in
set_option maxRecDepth 20000 in
theorem ggX6_shelfFor_X6_fails : GoodIn wsX6_shelfFor wsX6_fails := goodIn_r _ [9, 1, 27, 28, 29, 30, 31, 32, 33, 34, 35, 36, 37, 38, 39, 40, 41, 42] (by decide +kernel) (by decide +kernel)
set_option maxRecDepth 20000 in
theorem gX6_shelfFor_X6_fails : GoodIn wsX6_shelfFor (wsV RX6 58 RX6 yX6_fails wsX6_fails) := goodIn_app (goodIn_of _ (by decide +kernel)) ggX6_shelfFor_X6_fails
set_option maxRecDepth 20000 in
theorem ggX6_shelfFor_X6_room : GoodIn wsX6_shelfFor wsX6_room := goodIn_r _ [13, 14, 15, 16, 17, 4, 18, 19, 20, 21, 22, 27, 28, 29, 30, 31, 32, 33, 34, 35, 36, 37, 38, 39, 40, 41, 42] (by decide +kernel) (by decide +kernel)
set_option maxRecDepth 20000 in
theorem gX6_shelfFor_X6_room : GoodIn wsX6_shelfFor (wsV RX6 64 RX6 yX6_room wsX6_room) := goodIn_app (goodIn_of _ (by decide +kernel)) ggX6_shelfFor_X6_room
set_option maxRecDepth 20000 in
theorem ggX6_shelfFor_X6_isNearer : GoodIn wsX6_shelfFor wsX6_isNearer := goodIn_r _ [26, 14, 27, 28, 29, 30, 31, 32, 33, 34, 35, 36, 37, 38, 39, 40, 41, 42] (by decide +kernel) (by decide +kernel)
set_option maxRecDepth 20000 in
theorem gX6_shelfFor_X6_isNearer : GoodIn wsX6_shelfFor (wsV RX6 51 RX6 yX6_isNearer wsX6_isNearer) := goodIn_app (goodIn_of _ (by decide +kernel)) ggX6_shelfFor_X6_isNearer
theorem dX6_shelfFor_0 : decode cX6_shelfFor 0 = .ok (.aload_n 0, 1) := by decide +kernel
theorem dX6_shelfFor_1 : decode cX6_shelfFor 1 = .ok (.iconst 0, 1) := by decide +kernel
theorem dX6_shelfFor_2 : decode cX6_shelfFor 2 = .ok (.putfield 25, 3) := by decide +kernel
theorem dX6_shelfFor_5 : decode cX6_shelfFor 5 = .ok (.iload_n 1, 1) := by decide +kernel
theorem dX6_shelfFor_6 : decode cX6_shelfFor 6 = .ok (.iconst 1, 1) := by decide +kernel
theorem dX6_shelfFor_7 : decode cX6_shelfFor 7 = .ok (.bipush 30, 2) := by decide +kernel
theorem dX6_shelfFor_9 : decode cX6_shelfFor 9 = .ok (.invokestatic 29, 3) := by decide +kernel
theorem dX6_shelfFor_12 : decode cX6_shelfFor 12 = .ok (.ifCond .ne 9, 3) := by decide +kernel
theorem dX6_shelfFor_15 : decode cX6_shelfFor 15 = .ok (.aload_n 0, 1) := by decide +kernel
theorem dX6_shelfFor_16 : decode cX6_shelfFor 16 = .ok (.iconst 1, 1) := by decide +kernel
theorem dX6_shelfFor_17 : decode cX6_shelfFor 17 = .ok (.invokevirtual 58, 3) := by decide +kernel
theorem dX6_shelfFor_20 : decode cX6_shelfFor 20 = .ok (.ireturn, 1) := by decide +kernel
theorem dX6_shelfFor_21 : decode cX6_shelfFor 21 = .ok (.iconst (-1), 1) := by decide +kernel
theorem dX6_shelfFor_22 : decode cX6_shelfFor 22 = .ok (.istore_n 2, 1) := by decide +kernel
theorem dX6_shelfFor_23 : decode cX6_shelfFor 23 = .ok (.iconst 0, 1) := by decide +kernel
theorem dX6_shelfFor_24 : decode cX6_shelfFor 24 = .ok (.istore_n 3, 1) := by decide +kernel
theorem dX6_shelfFor_25 : decode cX6_shelfFor 25 = .ok (.iload_n 3, 1) := by decide +kernel
theorem dX6_shelfFor_26 : decode cX6_shelfFor 26 = .ok (.bipush 6, 2) := by decide +kernel
theorem dX6_shelfFor_28 : decode cX6_shelfFor 28 = .ok (.if_icmp .ge 50, 3) := by decide +kernel
theorem dX6_shelfFor_31 : decode cX6_shelfFor 31 = .ok (.aload_n 0, 1) := by decide +kernel
theorem dX6_shelfFor_32 : decode cX6_shelfFor 32 = .ok (.iload_n 3, 1) := by decide +kernel
theorem dX6_shelfFor_33 : decode cX6_shelfFor 33 = .ok (.invokevirtual 64, 3) := by decide +kernel
theorem dX6_shelfFor_36 : decode cX6_shelfFor 36 = .ok (.iload_n 1, 1) := by decide +kernel
theorem dX6_shelfFor_37 : decode cX6_shelfFor 37 = .ok (.if_icmp .lt 21, 3) := by decide +kernel
theorem dX6_shelfFor_40 : decode cX6_shelfFor 40 = .ok (.iload_n 2, 1) := by decide +kernel
theorem dX6_shelfFor_41 : decode cX6_shelfFor 41 = .ok (.iconst (-1), 1) := by decide +kernel
theorem dX6_shelfFor_42 : decode cX6_shelfFor 42 = .ok (.if_icmp .eq 12, 3) := by decide +kernel
theorem dX6_shelfFor_45 : decode cX6_shelfFor 45 = .ok (.aload_n 0, 1) := by decide +kernel
theorem dX6_shelfFor_46 : decode cX6_shelfFor 46 = .ok (.iload_n 3, 1) := by decide +kernel
theorem dX6_shelfFor_47 : decode cX6_shelfFor 47 = .ok (.iload_n 2, 1) := by decide +kernel
theorem dX6_shelfFor_48 : decode cX6_shelfFor 48 = .ok (.invokevirtual 51, 3) := by decide +kernel
theorem dX6_shelfFor_51 : decode cX6_shelfFor 51 = .ok (.ifCond .eq 7, 3) := by decide +kernel
theorem dX6_shelfFor_54 : decode cX6_shelfFor 54 = .ok (.iconst 1, 1) := by decide +kernel
theorem dX6_shelfFor_55 : decode cX6_shelfFor 55 = .ok (.goto 4, 3) := by decide +kernel
theorem dX6_shelfFor_58 : decode cX6_shelfFor 58 = .ok (.iconst 0, 1) := by decide +kernel
theorem dX6_shelfFor_59 : decode cX6_shelfFor 59 = .ok (.istore 4, 2) := by decide +kernel
theorem dX6_shelfFor_61 : decode cX6_shelfFor 61 = .ok (.iload 4, 2) := by decide +kernel
theorem dX6_shelfFor_63 : decode cX6_shelfFor 63 = .ok (.ifCond .eq 7, 3) := by decide +kernel
theorem dX6_shelfFor_66 : decode cX6_shelfFor 66 = .ok (.iload_n 3, 1) := by decide +kernel
theorem dX6_shelfFor_67 : decode cX6_shelfFor 67 = .ok (.goto 4, 3) := by decide +kernel
theorem dX6_shelfFor_70 : decode cX6_shelfFor 70 = .ok (.iload_n 2, 1) := by decide +kernel
theorem dX6_shelfFor_71 : decode cX6_shelfFor 71 = .ok (.istore_n 2, 1) := by decide +kernel
theorem dX6_shelfFor_72 : decode cX6_shelfFor 72 = .ok (.iinc 3 1, 3) := by decide +kernel
theorem dX6_shelfFor_75 : decode cX6_shelfFor 75 = .ok (.goto (-50), 3) := by decide +kernel
theorem dX6_shelfFor_78 : decode cX6_shelfFor 78 = .ok (.iload_n 2, 1) := by decide +kernel
theorem dX6_shelfFor_79 : decode cX6_shelfFor 79 = .ok (.ireturn, 1) := by decide +kernel
set_option maxRecDepth 20000 in
theorem ggX6_fullness_X6_taken : GoodIn wsX6_fullness wsX6_taken := goodIn_r _ [7, 2, 8, 9, 10, 6, 11, 12, 13, 14, 15, 16, 17, 18, 19, 20, 21, 22, 23, 24, 25, 26, 27] (by decide +kernel) (by decide +kernel)
set_option maxRecDepth 20000 in
theorem gX6_fullness_X6_taken : GoodIn wsX6_fullness (wsV RX6 40 RX6 yX6_taken wsX6_taken) := goodIn_app (goodIn_of _ (by decide +kernel)) ggX6_fullness_X6_taken
theorem dX6_fullness_0 : decode cX6_fullness 0 = .ok (.aload_n 0, 1) := by decide +kernel
theorem dX6_fullness_1 : decode cX6_fullness 1 = .ok (.iconst 0, 1) := by decide +kernel
theorem dX6_fullness_2 : decode cX6_fullness 2 = .ok (.putfield 25, 3) := by decide +kernel
theorem dX6_fullness_5 : decode cX6_fullness 5 = .ok (.iconst 0, 1) := by decide +kernel
theorem dX6_fullness_6 : decode cX6_fullness 6 = .ok (.istore_n 1, 1) := by decide +kernel
theorem dX6_fullness_7 : decode cX6_fullness 7 = .ok (.iconst 0, 1) := by decide +kernel
theorem dX6_fullness_8 : decode cX6_fullness 8 = .ok (.istore_n 2, 1) := by decide +kernel
theorem dX6_fullness_9 : decode cX6_fullness 9 = .ok (.iconst 0, 1) := by decide +kernel
theorem dX6_fullness_10 : decode cX6_fullness 10 = .ok (.istore_n 3, 1) := by decide +kernel
theorem dX6_fullness_11 : decode cX6_fullness 11 = .ok (.iload_n 3, 1) := by decide +kernel
theorem dX6_fullness_12 : decode cX6_fullness 12 = .ok (.bipush 6, 2) := by decide +kernel
theorem dX6_fullness_14 : decode cX6_fullness 14 = .ok (.if_icmp .ge 28, 3) := by decide +kernel
theorem dX6_fullness_17 : decode cX6_fullness 17 = .ok (.iload_n 1, 1) := by decide +kernel
theorem dX6_fullness_18 : decode cX6_fullness 18 = .ok (.aload_n 0, 1) := by decide +kernel
theorem dX6_fullness_19 : decode cX6_fullness 19 = .ok (.iload_n 3, 1) := by decide +kernel
theorem dX6_fullness_20 : decode cX6_fullness 20 = .ok (.invokevirtual 40, 3) := by decide +kernel
theorem dX6_fullness_23 : decode cX6_fullness 23 = .ok (.iadd, 1) := by decide +kernel
theorem dX6_fullness_24 : decode cX6_fullness 24 = .ok (.istore_n 1, 1) := by decide +kernel
theorem dX6_fullness_25 : decode cX6_fullness 25 = .ok (.iload_n 2, 1) := by decide +kernel
theorem dX6_fullness_26 : decode cX6_fullness 26 = .ok (.aload_n 0, 1) := by decide +kernel
theorem dX6_fullness_27 : decode cX6_fullness 27 = .ok (.getfield 7, 3) := by decide +kernel
theorem dX6_fullness_30 : decode cX6_fullness 30 = .ok (.iconst 3, 1) := by decide +kernel
theorem dX6_fullness_31 : decode cX6_fullness 31 = .ok (.iload_n 3, 1) := by decide +kernel
theorem dX6_fullness_32 : decode cX6_fullness 32 = .ok (.iadd, 1) := by decide +kernel
theorem dX6_fullness_33 : decode cX6_fullness 33 = .ok (.iaload, 1) := by decide +kernel
theorem dX6_fullness_34 : decode cX6_fullness 34 = .ok (.iadd, 1) := by decide +kernel
theorem dX6_fullness_35 : decode cX6_fullness 35 = .ok (.istore_n 2, 1) := by decide +kernel
theorem dX6_fullness_36 : decode cX6_fullness 36 = .ok (.iinc 3 1, 3) := by decide +kernel
theorem dX6_fullness_39 : decode cX6_fullness 39 = .ok (.goto (-28), 3) := by decide +kernel
theorem dX6_fullness_42 : decode cX6_fullness 42 = .ok (.iload_n 1, 1) := by decide +kernel
theorem dX6_fullness_43 : decode cX6_fullness 43 = .ok (.i2d, 1) := by decide +kernel
theorem dX6_fullness_44 : decode cX6_fullness 44 = .ok (.iload_n 2, 1) := by decide +kernel
theorem dX6_fullness_45 : decode cX6_fullness 45 = .ok (.i2d, 1) := by decide +kernel
theorem dX6_fullness_46 : decode cX6_fullness 46 = .ok (.ddiv, 1) := by decide +kernel
theorem dX6_fullness_47 : decode cX6_fullness 47 = .ok (.dreturn, 1) := by decide +kernel
set_option maxRecDepth 20000 in
theorem ggX6_append_X6_in : GoodIn wsX6_append wsX6_in := goodIn_r _ [7] (by decide +kernel) (by decide +kernel)
set_option maxRecDepth 20000 in
theorem gX6_append_X6_in : GoodIn wsX6_append (va_wsS RX6 29 yX6_in wsX6_in) := goodIn_app (goodIn_of _ (by decide +kernel)) ggX6_append_X6_in
set_option maxRecDepth 20000 in
theorem ggX6_append_X6_fails : GoodIn wsX6_append wsX6_fails := goodIn_r _ [11, 1, 12, 13, 14, 15, 16, 17, 18, 19, 20, 21, 22, 23, 24, 25, 26, 27] (by decide +kernel) (by decide +kernel)
set_option maxRecDepth 20000 in
theorem gX6_append_X6_fails : GoodIn wsX6_append (wsV RX6 58 RX6 yX6_fails wsX6_fails) := goodIn_app (goodIn_of _ (by decide +kernel)) ggX6_append_X6_fails
theorem dX6_append_0 : decode cX6_append 0 = .ok (.aload_n 0, 1) := by decide +kernel
theorem dX6_append_1 : decode cX6_append 1 = .ok (.iconst 0, 1) := by decide +kernel
theorem dX6_append_2 : decode cX6_append 2 = .ok (.putfield 25, 3) := by decide +kernel
theorem dX6_append_5 : decode cX6_append 5 = .ok (.iload_n 1, 1) := by decide +kernel
theorem dX6_append_6 : decode cX6_append 6 = .ok (.bipush 33, 2) := by decide +kernel
theorem dX6_append_8 : decode cX6_append 8 = .ok (.bipush 126, 2) := by decide +kernel
theorem dX6_append_10 : decode cX6_append 10 = .ok (.invokestatic 29, 3) := by decide +kernel
theorem dX6_append_13 : decode cX6_append 13 = .ok (.ifCond .ne 9, 3) := by decide +kernel
theorem dX6_append_16 : decode cX6_append 16 = .ok (.aload_n 0, 1) := by decide +kernel
theorem dX6_append_17 : decode cX6_append 17 = .ok (.iconst 1, 1) := by decide +kernel
theorem dX6_append_18 : decode cX6_append 18 = .ok (.invokevirtual 58, 3) := by decide +kernel
theorem dX6_append_21 : decode cX6_append 21 = .ok (.ireturn, 1) := by decide +kernel
theorem dX6_append_22 : decode cX6_append 22 = .ok (.aload_n 0, 1) := by decide +kernel
theorem dX6_append_23 : decode cX6_append 23 = .ok (.getfield 135, 3) := by decide +kernel
theorem dX6_append_26 : decode cX6_append 26 = .ok (.bipush 60, 2) := by decide +kernel
theorem dX6_append_28 : decode cX6_append 28 = .ok (.if_icmp .ne 9, 3) := by decide +kernel
theorem dX6_append_31 : decode cX6_append 31 = .ok (.aload_n 0, 1) := by decide +kernel
theorem dX6_append_32 : decode cX6_append 32 = .ok (.iconst 2, 1) := by decide +kernel
theorem dX6_append_33 : decode cX6_append 33 = .ok (.invokevirtual 58, 3) := by decide +kernel
theorem dX6_append_36 : decode cX6_append 36 = .ok (.ireturn, 1) := by decide +kernel
theorem dX6_append_37 : decode cX6_append 37 = .ok (.aload_n 0, 1) := by decide +kernel
theorem dX6_append_38 : decode cX6_append 38 = .ok (.getfield 19, 3) := by decide +kernel
theorem dX6_append_41 : decode cX6_append 41 = .ok (.aload_n 0, 1) := by decide +kernel
theorem dX6_append_42 : decode cX6_append 42 = .ok (.getfield 135, 3) := by decide +kernel
theorem dX6_append_45 : decode cX6_append 45 = .ok (.iload_n 1, 1) := by decide +kernel
theorem dX6_append_46 : decode cX6_append 46 = .ok (.iastore, 1) := by decide +kernel
theorem dX6_append_47 : decode cX6_append 47 = .ok (.aload_n 0, 1) := by decide +kernel
theorem dX6_append_48 : decode cX6_append 48 = .ok (.dup, 1) := by decide +kernel
theorem dX6_append_49 : decode cX6_append 49 = .ok (.getfield 135, 3) := by decide +kernel
theorem dX6_append_52 : decode cX6_append 52 = .ok (.iconst 1, 1) := by decide +kernel
theorem dX6_append_53 : decode cX6_append 53 = .ok (.iadd, 1) := by decide +kernel
theorem dX6_append_54 : decode cX6_append 54 = .ok (.putfield 135, 3) := by decide +kernel
theorem dX6_append_57 : decode cX6_append 57 = .ok (.aload_n 0, 1) := by decide +kernel
theorem dX6_append_58 : decode cX6_append 58 = .ok (.getfield 135, 3) := by decide +kernel
theorem dX6_append_61 : decode cX6_append 61 = .ok (.ireturn, 1) := by decide +kernel
theorem dX6_clearText_0 : decode cX6_clearText 0 = .ok (.aload_n 0, 1) := by decide +kernel
theorem dX6_clearText_1 : decode cX6_clearText 1 = .ok (.iconst 0, 1) := by decide +kernel
theorem dX6_clearText_2 : decode cX6_clearText 2 = .ok (.putfield 25, 3) := by decide +kernel
theorem dX6_clearText_5 : decode cX6_clearText 5 = .ok (.aload_n 0, 1) := by decide +kernel
theorem dX6_clearText_6 : decode cX6_clearText 6 = .ok (.getfield 135, 3) := by decide +kernel
theorem dX6_clearText_9 : decode cX6_clearText 9 = .ok (.istore_n 1, 1) := by decide +kernel
theorem dX6_clearText_10 : decode cX6_clearText 10 = .ok (.aload_n 0, 1) := by decide +kernel
theorem dX6_clearText_11 : decode cX6_clearText 11 = .ok (.iconst 0, 1) := by decide +kernel
theorem dX6_clearText_12 : decode cX6_clearText 12 = .ok (.putfield 135, 3) := by decide +kernel
theorem dX6_clearText_15 : decode cX6_clearText 15 = .ok (.iload_n 1, 1) := by decide +kernel
theorem dX6_clearText_16 : decode cX6_clearText 16 = .ok (.ireturn, 1) := by decide +kernel
theorem dX6_sign_0 : decode cX6_sign 0 = .ok (.aload_n 0, 1) := by decide +kernel
theorem dX6_sign_1 : decode cX6_sign 1 = .ok (.getfield 138, 3) := by decide +kernel
theorem dX6_sign_4 : decode cX6_sign 4 = .ok (.aload_n 0, 1) := by decide +kernel
theorem dX6_sign_5 : decode cX6_sign 5 = .ok (.getfield 135, 3) := by decide +kernel
theorem dX6_sign_8 : decode cX6_sign 8 = .ok (.if_icmp .ge 15, 3) := by decide +kernel
theorem dX6_sign_11 : decode cX6_sign 11 = .ok (.aload_n 0, 1) := by decide +kernel
theorem dX6_sign_12 : decode cX6_sign 12 = .ok (.getfield 19, 3) := by decide +kernel
theorem dX6_sign_15 : decode cX6_sign 15 = .ok (.aload_n 0, 1) := by decide +kernel
theorem dX6_sign_16 : decode cX6_sign 16 = .ok (.getfield 138, 3) := by decide +kernel
theorem dX6_sign_19 : decode cX6_sign 19 = .ok (.iaload, 1) := by decide +kernel
theorem dX6_sign_20 : decode cX6_sign 20 = .ok (.goto 4, 3) := by decide +kernel
theorem dX6_sign_23 : decode cX6_sign 23 = .ok (.iconst 0, 1) := by decide +kernel
theorem dX6_sign_24 : decode cX6_sign 24 = .ok (.ireturn, 1) := by decide +kernel
set_option maxRecDepth 20000 in
theorem ggX6_wants_X6_sign : GoodIn wsX6_wants wsX6_sign := goodIn_r _ [7, 2, 8, 9, 10, 11, 12, 13, 14, 15, 16, 17, 18, 19, 20, 21, 22, 23, 24, 25] (by decide +kernel) (by decide +kernel)
set_option maxRecDepth 20000 in
theorem gX6_wants_X6_sign : GoodIn wsX6_wants (wsV RX6 144 RX6 yX6_sign wsX6_sign) := goodIn_app (goodIn_of _ (by decide +kernel)) ggX6_wants_X6_sign
theorem dX6_wants_0 : decode cX6_wants 0 = .ok (.aload_n 0, 1) := by decide +kernel
theorem dX6_wants_1 : decode cX6_wants 1 = .ok (.aload_n 0, 1) := by decide +kernel
theorem dX6_wants_2 : decode cX6_wants 2 = .ok (.getfield 141, 3) := by decide +kernel
theorem dX6_wants_5 : decode cX6_wants 5 = .ok (.ifCond .eq 15, 3) := by decide +kernel
theorem dX6_wants_8 : decode cX6_wants 8 = .ok (.aload_n 0, 1) := by decide +kernel
theorem dX6_wants_9 : decode cX6_wants 9 = .ok (.invokevirtual 144, 3) := by decide +kernel
theorem dX6_wants_12 : decode cX6_wants 12 = .ok (.iload_n 1, 1) := by decide +kernel
theorem dX6_wants_13 : decode cX6_wants 13 = .ok (.if_icmp .ne 7, 3) := by decide +kernel
theorem dX6_wants_16 : decode cX6_wants 16 = .ok (.iconst 1, 1) := by decide +kernel
theorem dX6_wants_17 : decode cX6_wants 17 = .ok (.goto 4, 3) := by decide +kernel
theorem dX6_wants_20 : decode cX6_wants 20 = .ok (.iconst 0, 1) := by decide +kernel
theorem dX6_wants_21 : decode cX6_wants 21 = .ok (.putfield 141, 3) := by decide +kernel
theorem dX6_wants_24 : decode cX6_wants 24 = .ok (.aload_n 0, 1) := by decide +kernel
theorem dX6_wants_25 : decode cX6_wants 25 = .ok (.dup, 1) := by decide +kernel
theorem dX6_wants_26 : decode cX6_wants 26 = .ok (.getfield 138, 3) := by decide +kernel
theorem dX6_wants_29 : decode cX6_wants 29 = .ok (.aload_n 0, 1) := by decide +kernel
theorem dX6_wants_30 : decode cX6_wants 30 = .ok (.getfield 141, 3) := by decide +kernel
theorem dX6_wants_33 : decode cX6_wants 33 = .ok (.ifCond .eq 7, 3) := by decide +kernel
theorem dX6_wants_36 : decode cX6_wants 36 = .ok (.iconst 1, 1) := by decide +kernel
theorem dX6_wants_37 : decode cX6_wants 37 = .ok (.goto 4, 3) := by decide +kernel
theorem dX6_wants_40 : decode cX6_wants 40 = .ok (.iconst 0, 1) := by decide +kernel
theorem dX6_wants_41 : decode cX6_wants 41 = .ok (.iadd, 1) := by decide +kernel
theorem dX6_wants_42 : decode cX6_wants 42 = .ok (.putfield 138, 3) := by decide +kernel
theorem dX6_wants_45 : decode cX6_wants 45 = .ok (.return_, 1) := by decide +kernel
set_option maxRecDepth 20000 in
theorem ggX6_number_X6_sign : GoodIn wsX6_number wsX6_sign := goodIn_r _ [7, 2, 8, 9, 13, 14, 15, 16, 17, 18, 19, 20, 21, 22, 23, 24, 25, 26, 27, 28] (by decide +kernel) (by decide +kernel)
set_option maxRecDepth 20000 in
theorem gX6_number_X6_sign : GoodIn wsX6_number (wsV RX6 144 RX6 yX6_sign wsX6_sign) := goodIn_app (goodIn_of _ (by decide +kernel)) ggX6_number_X6_sign
set_option maxRecDepth 20000 in
theorem ggX6_number_X6_in : GoodIn wsX6_number wsX6_in := goodIn_r _ [12] (by decide +kernel) (by decide +kernel)
set_option maxRecDepth 20000 in
theorem gX6_number_X6_in : GoodIn wsX6_number (va_wsS RX6 29 yX6_in wsX6_in) := goodIn_app (goodIn_of _ (by decide +kernel)) ggX6_number_X6_in
theorem dX6_number_0 : decode cX6_number 0 = .ok (.aload_n 0, 1) := by decide +kernel
theorem dX6_number_1 : decode cX6_number 1 = .ok (.aload_n 0, 1) := by decide +kernel
theorem dX6_number_2 : decode cX6_number 2 = .ok (.getfield 141, 3) := by decide +kernel
theorem dX6_number_5 : decode cX6_number 5 = .ok (.ifCond .eq 36, 3) := by decide +kernel
theorem dX6_number_8 : decode cX6_number 8 = .ok (.aload_n 0, 1) := by decide +kernel
theorem dX6_number_9 : decode cX6_number 9 = .ok (.invokevirtual 144, 3) := by decide +kernel
theorem dX6_number_12 : decode cX6_number 12 = .ok (.bipush 48, 2) := by decide +kernel
theorem dX6_number_14 : decode cX6_number 14 = .ok (.iload_n 1, 1) := by decide +kernel
theorem dX6_number_15 : decode cX6_number 15 = .ok (.iadd, 1) := by decide +kernel
theorem dX6_number_16 : decode cX6_number 16 = .ok (.bipush 48, 2) := by decide +kernel
theorem dX6_number_18 : decode cX6_number 18 = .ok (.iload_n 2, 1) := by decide +kernel
theorem dX6_number_19 : decode cX6_number 19 = .ok (.bipush 9, 2) := by decide +kernel
theorem dX6_number_21 : decode cX6_number 21 = .ok (.if_icmp .ge 7, 3) := by decide +kernel
theorem dX6_number_24 : decode cX6_number 24 = .ok (.iload_n 2, 1) := by decide +kernel
theorem dX6_number_25 : decode cX6_number 25 = .ok (.goto 5, 3) := by decide +kernel
theorem dX6_number_28 : decode cX6_number 28 = .ok (.bipush 9, 2) := by decide +kernel
theorem dX6_number_30 : decode cX6_number 30 = .ok (.iadd, 1) := by decide +kernel
theorem dX6_number_31 : decode cX6_number 31 = .ok (.invokestatic 29, 3) := by decide +kernel
theorem dX6_number_34 : decode cX6_number 34 = .ok (.ifCond .eq 7, 3) := by decide +kernel
theorem dX6_number_37 : decode cX6_number 37 = .ok (.iconst 1, 1) := by decide +kernel
theorem dX6_number_38 : decode cX6_number 38 = .ok (.goto 4, 3) := by decide +kernel
theorem dX6_number_41 : decode cX6_number 41 = .ok (.iconst 0, 1) := by decide +kernel
theorem dX6_number_42 : decode cX6_number 42 = .ok (.putfield 141, 3) := by decide +kernel
theorem dX6_number_45 : decode cX6_number 45 = .ok (.aload_n 0, 1) := by decide +kernel
theorem dX6_number_46 : decode cX6_number 46 = .ok (.invokevirtual 144, 3) := by decide +kernel
theorem dX6_number_49 : decode cX6_number 49 = .ok (.bipush 48, 2) := by decide +kernel
theorem dX6_number_51 : decode cX6_number 51 = .ok (.isub, 1) := by decide +kernel
theorem dX6_number_52 : decode cX6_number 52 = .ok (.istore_n 3, 1) := by decide +kernel
theorem dX6_number_53 : decode cX6_number 53 = .ok (.aload_n 0, 1) := by decide +kernel
theorem dX6_number_54 : decode cX6_number 54 = .ok (.dup, 1) := by decide +kernel
theorem dX6_number_55 : decode cX6_number 55 = .ok (.getfield 138, 3) := by decide +kernel
theorem dX6_number_58 : decode cX6_number 58 = .ok (.aload_n 0, 1) := by decide +kernel
theorem dX6_number_59 : decode cX6_number 59 = .ok (.getfield 141, 3) := by decide +kernel
theorem dX6_number_62 : decode cX6_number 62 = .ok (.ifCond .eq 7, 3) := by decide +kernel
theorem dX6_number_65 : decode cX6_number 65 = .ok (.iconst 1, 1) := by decide +kernel
theorem dX6_number_66 : decode cX6_number 66 = .ok (.goto 4, 3) := by decide +kernel
theorem dX6_number_69 : decode cX6_number 69 = .ok (.iconst 0, 1) := by decide +kernel
theorem dX6_number_70 : decode cX6_number 70 = .ok (.iadd, 1) := by decide +kernel
theorem dX6_number_71 : decode cX6_number 71 = .ok (.putfield 138, 3) := by decide +kernel
theorem dX6_number_74 : decode cX6_number 74 = .ok (.aload_n 0, 1) := by decide +kernel
theorem dX6_number_75 : decode cX6_number 75 = .ok (.getfield 141, 3) := by decide +kernel
theorem dX6_number_78 : decode cX6_number 78 = .ok (.ifCond .eq 63, 3) := by decide +kernel
theorem dX6_number_81 : decode cX6_number 81 = .ok (.iload_n 3, 1) := by decide +kernel
theorem dX6_number_82 : decode cX6_number 82 = .ok (.ifCond .le 59, 3) := by decide +kernel
theorem dX6_number_85 : decode cX6_number 85 = .ok (.aload_n 0, 1) := by decide +kernel
theorem dX6_number_86 : decode cX6_number 86 = .ok (.invokevirtual 144, 3) := by decide +kernel
theorem dX6_number_89 : decode cX6_number 89 = .ok (.bipush 48, 2) := by decide +kernel
theorem dX6_number_91 : decode cX6_number 91 = .ok (.bipush 57, 2) := by decide +kernel
theorem dX6_number_93 : decode cX6_number 93 = .ok (.invokestatic 29, 3) := by decide +kernel
theorem dX6_number_96 : decode cX6_number 96 = .ok (.ifCond .eq 45, 3) := by decide +kernel
theorem dX6_number_99 : decode cX6_number 99 = .ok (.bipush 10, 2) := by decide +kernel
theorem dX6_number_101 : decode cX6_number 101 = .ok (.iload_n 3, 1) := by decide +kernel
theorem dX6_number_102 : decode cX6_number 102 = .ok (.imul, 1) := by decide +kernel
theorem dX6_number_103 : decode cX6_number 103 = .ok (.aload_n 0, 1) := by decide +kernel
theorem dX6_number_104 : decode cX6_number 104 = .ok (.invokevirtual 144, 3) := by decide +kernel
theorem dX6_number_107 : decode cX6_number 107 = .ok (.iadd, 1) := by decide +kernel
theorem dX6_number_108 : decode cX6_number 108 = .ok (.bipush 48, 2) := by decide +kernel
theorem dX6_number_110 : decode cX6_number 110 = .ok (.isub, 1) := by decide +kernel
theorem dX6_number_111 : decode cX6_number 111 = .ok (.iload_n 2, 1) := by decide +kernel
theorem dX6_number_112 : decode cX6_number 112 = .ok (.if_icmp .gt 29, 3) := by decide +kernel
theorem dX6_number_115 : decode cX6_number 115 = .ok (.bipush 10, 2) := by decide +kernel
theorem dX6_number_117 : decode cX6_number 117 = .ok (.iload_n 3, 1) := by decide +kernel
theorem dX6_number_118 : decode cX6_number 118 = .ok (.imul, 1) := by decide +kernel
theorem dX6_number_119 : decode cX6_number 119 = .ok (.aload_n 0, 1) := by decide +kernel
theorem dX6_number_120 : decode cX6_number 120 = .ok (.invokevirtual 144, 3) := by decide +kernel
theorem dX6_number_123 : decode cX6_number 123 = .ok (.iadd, 1) := by decide +kernel
theorem dX6_number_124 : decode cX6_number 124 = .ok (.bipush 48, 2) := by decide +kernel
theorem dX6_number_126 : decode cX6_number 126 = .ok (.isub, 1) := by decide +kernel
theorem dX6_number_127 : decode cX6_number 127 = .ok (.istore_n 3, 1) := by decide +kernel
theorem dX6_number_128 : decode cX6_number 128 = .ok (.aload_n 0, 1) := by decide +kernel
theorem dX6_number_129 : decode cX6_number 129 = .ok (.dup, 1) := by decide +kernel
theorem dX6_number_130 : decode cX6_number 130 = .ok (.getfield 138, 3) := by decide +kernel
theorem dX6_number_133 : decode cX6_number 133 = .ok (.iconst 1, 1) := by decide +kernel
theorem dX6_number_134 : decode cX6_number 134 = .ok (.iadd, 1) := by decide +kernel
theorem dX6_number_135 : decode cX6_number 135 = .ok (.putfield 138, 3) := by decide +kernel
theorem dX6_number_138 : decode cX6_number 138 = .ok (.goto (-64), 3) := by decide +kernel
theorem dX6_number_141 : decode cX6_number 141 = .ok (.iload_n 3, 1) := by decide +kernel
theorem dX6_number_142 : decode cX6_number 142 = .ok (.ireturn, 1) := by decide +kernel
set_option maxRecDepth 20000 in
theorem ggX6_rest_X6_wants : GoodIn wsX6_rest wsX6_wants := goodIn_r _ [5, 6, 7, 8, 9, 10, 4, 11, 12, 13, 14, 15, 16, 17, 18, 19, 20, 21, 22, 23, 24, 25, 26, 27, 28, 29] (by decide +kernel) (by decide +kernel)
set_option maxRecDepth 20000 in
theorem gX6_rest_X6_wants : GoodIn wsX6_rest (wsV RX6 147 RX6 yX6_wants wsX6_wants) := goodIn_app (goodIn_of _ (by decide +kernel)) ggX6_rest_X6_wants
theorem dX6_rest_0 : decode cX6_rest 0 = .ok (.aload_n 0, 1) := by decide +kernel
theorem dX6_rest_1 : decode cX6_rest 1 = .ok (.iload_n 1, 1) := by decide +kernel
theorem dX6_rest_2 : decode cX6_rest 2 = .ok (.invokevirtual 147, 3) := by decide +kernel
theorem dX6_rest_5 : decode cX6_rest 5 = .ok (.aload_n 0, 1) := by decide +kernel
theorem dX6_rest_6 : decode cX6_rest 6 = .ok (.iload_n 2, 1) := by decide +kernel
theorem dX6_rest_7 : decode cX6_rest 7 = .ok (.invokevirtual 147, 3) := by decide +kernel
theorem dX6_rest_10 : decode cX6_rest 10 = .ok (.iload_n 3, 1) := by decide +kernel
theorem dX6_rest_11 : decode cX6_rest 11 = .ok (.ifCond .eq 8, 3) := by decide +kernel
theorem dX6_rest_14 : decode cX6_rest 14 = .ok (.aload_n 0, 1) := by decide +kernel
theorem dX6_rest_15 : decode cX6_rest 15 = .ok (.iload_n 3, 1) := by decide +kernel
theorem dX6_rest_16 : decode cX6_rest 16 = .ok (.invokevirtual 147, 3) := by decide +kernel
theorem dX6_rest_19 : decode cX6_rest 19 = .ok (.iload 4, 2) := by decide +kernel
theorem dX6_rest_21 : decode cX6_rest 21 = .ok (.ifCond .eq 9, 3) := by decide +kernel
theorem dX6_rest_24 : decode cX6_rest 24 = .ok (.aload_n 0, 1) := by decide +kernel
theorem dX6_rest_25 : decode cX6_rest 25 = .ok (.iload 4, 2) := by decide +kernel
theorem dX6_rest_27 : decode cX6_rest 27 = .ok (.invokevirtual 147, 3) := by decide +kernel
theorem dX6_rest_30 : decode cX6_rest 30 = .ok (.return_, 1) := by decide +kernel
set_option maxRecDepth 20000 in
theorem ggX6_word_X6_sign : GoodIn wsX6_word wsX6_sign := goodIn_r _ [7, 2, 8, 9, 18, 19, 20, 21, 22, 23, 24, 25, 26, 27, 28, 29, 30, 31, 32, 33] (by decide +kernel) (by decide +kernel)
set_option maxRecDepth 20000 in
theorem gX6_word_X6_sign : GoodIn wsX6_word (wsV RX6 144 RX6 yX6_sign wsX6_sign) := goodIn_app (goodIn_of _ (by decide +kernel)) ggX6_word_X6_sign
set_option maxRecDepth 20000 in
theorem ggX6_word_X6_rest : GoodIn wsX6_word wsX6_rest := goodIn_r _ [13, 14, 15, 16, 6, 17, 1, 2, 3, 4, 5, 7, 8, 9, 18, 19, 20, 21, 22, 23, 24, 25, 26, 27, 28, 29, 30, 31, 32, 33] (by decide +kernel) (by decide +kernel)
set_option maxRecDepth 20000 in
theorem gX6_word_X6_rest : GoodIn wsX6_word (wsV RX6 151 RX6 yX6_rest wsX6_rest) := goodIn_app (goodIn_of _ (by decide +kernel)) ggX6_word_X6_rest
theorem dX6_word_0 : decode cX6_word 0 = .ok (.aload_n 0, 1) := by decide +kernel
theorem dX6_word_1 : decode cX6_word 1 = .ok (.invokevirtual 144, 3) := by decide +kernel
theorem dX6_word_4 : decode cX6_word 4 = .ok (.istore_n 1, 1) := by decide +kernel
theorem dX6_word_5 : decode cX6_word 5 = .ok (.iload_n 1, 1) := by decide +kernel
theorem dX6_word_6 : decode cX6_word 6 = .ok (.bipush 97, 2) := by decide +kernel
theorem dX6_word_8 : decode cX6_word 8 = .ok (.if_icmp .ne 7, 3) := by decide +kernel
theorem dX6_word_11 : decode cX6_word 11 = .ok (.iconst 1, 1) := by decide +kernel
theorem dX6_word_12 : decode cX6_word 12 = .ok (.goto 44, 3) := by decide +kernel
theorem dX6_word_15 : decode cX6_word 15 = .ok (.iload_n 1, 1) := by decide +kernel
theorem dX6_word_16 : decode cX6_word 16 = .ok (.bipush 99, 2) := by decide +kernel
theorem dX6_word_18 : decode cX6_word 18 = .ok (.if_icmp .ne 7, 3) := by decide +kernel
theorem dX6_word_21 : decode cX6_word 21 = .ok (.iconst 2, 1) := by decide +kernel
theorem dX6_word_22 : decode cX6_word 22 = .ok (.goto 34, 3) := by decide +kernel
theorem dX6_word_25 : decode cX6_word 25 = .ok (.iload_n 1, 1) := by decide +kernel
theorem dX6_word_26 : decode cX6_word 26 = .ok (.bipush 108, 2) := by decide +kernel
theorem dX6_word_28 : decode cX6_word 28 = .ok (.if_icmp .ne 7, 3) := by decide +kernel
theorem dX6_word_31 : decode cX6_word 31 = .ok (.iconst 3, 1) := by decide +kernel
theorem dX6_word_32 : decode cX6_word 32 = .ok (.goto 24, 3) := by decide +kernel
theorem dX6_word_35 : decode cX6_word 35 = .ok (.iload_n 1, 1) := by decide +kernel
theorem dX6_word_36 : decode cX6_word 36 = .ok (.bipush 109, 2) := by decide +kernel
theorem dX6_word_38 : decode cX6_word 38 = .ok (.if_icmp .ne 7, 3) := by decide +kernel
theorem dX6_word_41 : decode cX6_word 41 = .ok (.iconst 4, 1) := by decide +kernel
theorem dX6_word_42 : decode cX6_word 42 = .ok (.goto 14, 3) := by decide +kernel
theorem dX6_word_45 : decode cX6_word 45 = .ok (.iload_n 1, 1) := by decide +kernel
theorem dX6_word_46 : decode cX6_word 46 = .ok (.bipush 110, 2) := by decide +kernel
theorem dX6_word_48 : decode cX6_word 48 = .ok (.if_icmp .ne 7, 3) := by decide +kernel
theorem dX6_word_51 : decode cX6_word 51 = .ok (.iconst 5, 1) := by decide +kernel
theorem dX6_word_52 : decode cX6_word 52 = .ok (.goto 4, 3) := by decide +kernel
theorem dX6_word_55 : decode cX6_word 55 = .ok (.iconst 0, 1) := by decide +kernel
theorem dX6_word_56 : decode cX6_word 56 = .ok (.istore_n 2, 1) := by decide +kernel
theorem dX6_word_57 : decode cX6_word 57 = .ok (.aload_n 0, 1) := by decide +kernel
theorem dX6_word_58 : decode cX6_word 58 = .ok (.iload_n 2, 1) := by decide +kernel
theorem dX6_word_59 : decode cX6_word 59 = .ok (.ifCond .eq 7, 3) := by decide +kernel
theorem dX6_word_62 : decode cX6_word 62 = .ok (.iconst 1, 1) := by decide +kernel
theorem dX6_word_63 : decode cX6_word 63 = .ok (.goto 4, 3) := by decide +kernel
theorem dX6_word_66 : decode cX6_word 66 = .ok (.iconst 0, 1) := by decide +kernel
theorem dX6_word_67 : decode cX6_word 67 = .ok (.putfield 141, 3) := by decide +kernel
theorem dX6_word_70 : decode cX6_word 70 = .ok (.aload_n 0, 1) := by decide +kernel
theorem dX6_word_71 : decode cX6_word 71 = .ok (.dup, 1) := by decide +kernel
theorem dX6_word_72 : decode cX6_word 72 = .ok (.getfield 138, 3) := by decide +kernel
theorem dX6_word_75 : decode cX6_word 75 = .ok (.aload_n 0, 1) := by decide +kernel
theorem dX6_word_76 : decode cX6_word 76 = .ok (.getfield 141, 3) := by decide +kernel
theorem dX6_word_79 : decode cX6_word 79 = .ok (.ifCond .eq 7, 3) := by decide +kernel
theorem dX6_word_82 : decode cX6_word 82 = .ok (.iconst 1, 1) := by decide +kernel
theorem dX6_word_83 : decode cX6_word 83 = .ok (.goto 4, 3) := by decide +kernel
theorem dX6_word_86 : decode cX6_word 86 = .ok (.iconst 0, 1) := by decide +kernel
theorem dX6_word_87 : decode cX6_word 87 = .ok (.iadd, 1) := by decide +kernel
theorem dX6_word_88 : decode cX6_word 88 = .ok (.putfield 138, 3) := by decide +kernel
theorem dX6_word_91 : decode cX6_word 91 = .ok (.iload_n 2, 1) := by decide +kernel
theorem dX6_word_92 : decode cX6_word 92 = .ok (.tableswitch 107 1 5 #[36, 49, 63, 77, 92], 36) := by decide +kernel
theorem dX6_word_128 : decode cX6_word 128 = .ok (.aload_n 0, 1) := by decide +kernel
theorem dX6_word_129 : decode cX6_word 129 = .ok (.bipush 100, 2) := by decide +kernel
theorem dX6_word_131 : decode cX6_word 131 = .ok (.bipush 100, 2) := by decide +kernel
theorem dX6_word_133 : decode cX6_word 133 = .ok (.iconst 0, 1) := by decide +kernel
theorem dX6_word_134 : decode cX6_word 134 = .ok (.iconst 0, 1) := by decide +kernel
theorem dX6_word_135 : decode cX6_word 135 = .ok (.invokevirtual 151, 3) := by decide +kernel
theorem dX6_word_138 : decode cX6_word 138 = .ok (.goto 61, 3) := by decide +kernel
theorem dX6_word_141 : decode cX6_word 141 = .ok (.aload_n 0, 1) := by decide +kernel
theorem dX6_word_142 : decode cX6_word 142 = .ok (.bipush 97, 2) := by decide +kernel
theorem dX6_word_144 : decode cX6_word 144 = .ok (.bipush 108, 2) := by decide +kernel
theorem dX6_word_146 : decode cX6_word 146 = .ok (.bipush 108, 2) := by decide +kernel
theorem dX6_word_148 : decode cX6_word 148 = .ok (.iconst 0, 1) := by decide +kernel
theorem dX6_word_149 : decode cX6_word 149 = .ok (.invokevirtual 151, 3) := by decide +kernel
theorem dX6_word_152 : decode cX6_word 152 = .ok (.goto 47, 3) := by decide +kernel
theorem dX6_word_155 : decode cX6_word 155 = .ok (.aload_n 0, 1) := by decide +kernel
theorem dX6_word_156 : decode cX6_word 156 = .ok (.bipush 111, 2) := by decide +kernel
theorem dX6_word_158 : decode cX6_word 158 = .ok (.bipush 115, 2) := by decide +kernel
theorem dX6_word_160 : decode cX6_word 160 = .ok (.bipush 101, 2) := by decide +kernel
theorem dX6_word_162 : decode cX6_word 162 = .ok (.iconst 0, 1) := by decide +kernel
theorem dX6_word_163 : decode cX6_word 163 = .ok (.invokevirtual 151, 3) := by decide +kernel
theorem dX6_word_166 : decode cX6_word 166 = .ok (.goto 33, 3) := by decide +kernel
theorem dX6_word_169 : decode cX6_word 169 = .ok (.aload_n 0, 1) := by decide +kernel
theorem dX6_word_170 : decode cX6_word 170 = .ok (.bipush 111, 2) := by decide +kernel
theorem dX6_word_172 : decode cX6_word 172 = .ok (.bipush 110, 2) := by decide +kernel
theorem dX6_word_174 : decode cX6_word 174 = .ok (.bipush 116, 2) := by decide +kernel
theorem dX6_word_176 : decode cX6_word 176 = .ok (.bipush 104, 2) := by decide +kernel
theorem dX6_word_178 : decode cX6_word 178 = .ok (.invokevirtual 151, 3) := by decide +kernel
theorem dX6_word_181 : decode cX6_word 181 = .ok (.goto 18, 3) := by decide +kernel
theorem dX6_word_184 : decode cX6_word 184 = .ok (.aload_n 0, 1) := by decide +kernel
theorem dX6_word_185 : decode cX6_word 185 = .ok (.bipush 105, 2) := by decide +kernel
theorem dX6_word_187 : decode cX6_word 187 = .ok (.bipush 103, 2) := by decide +kernel
theorem dX6_word_189 : decode cX6_word 189 = .ok (.bipush 104, 2) := by decide +kernel
theorem dX6_word_191 : decode cX6_word 191 = .ok (.bipush 116, 2) := by decide +kernel
theorem dX6_word_193 : decode cX6_word 193 = .ok (.invokevirtual 151, 3) := by decide +kernel
theorem dX6_word_196 : decode cX6_word 196 = .ok (.goto 3, 3) := by decide +kernel
theorem dX6_word_199 : decode cX6_word 199 = .ok (.iload_n 2, 1) := by decide +kernel
theorem dX6_word_200 : decode cX6_word 200 = .ok (.ireturn, 1) := by decide +kernel
set_option maxRecDepth 20000 in
theorem ggX6_readsOrder_X6_word : GoodIn wsX6_readsOrder wsX6_word := goodIn_r _ [8, 3, 9, 10, 11, 12, 7, 13, 14, 15, 16, 17, 18, 19, 20, 21, 22, 23, 31, 32, 33, 34, 35, 36, 37, 38, 39, 40, 41, 42, 43, 44, 45, 46] (by decide +kernel) (by decide +kernel)
set_option maxRecDepth 20000 in
theorem gX6_readsOrder_X6_word : GoodIn wsX6_readsOrder (wsV RX6 158 RX6 yX6_word wsX6_word) := goodIn_app (goodIn_of _ (by decide +kernel)) ggX6_readsOrder_X6_word
set_option maxRecDepth 20000 in
theorem ggX6_readsOrder_X6_number : GoodIn wsX6_readsOrder wsX6_number := goodIn_r _ [27, 3, 9, 10, 11, 12, 7, 13, 14, 15, 28, 29, 30, 31, 32, 33, 34, 35, 36, 37, 38, 39, 40, 41, 42, 43, 44, 45, 46] (by decide +kernel) (by decide +kernel)
set_option maxRecDepth 20000 in
theorem gX6_readsOrder_X6_number : GoodIn wsX6_readsOrder (wsV RX6 161 RX6 yX6_number wsX6_number) := goodIn_app (goodIn_of _ (by decide +kernel)) ggX6_readsOrder_X6_number
set_option maxRecDepth 20000 in
theorem ggX6_readsOrder_X6_wants : GoodIn wsX6_readsOrder wsX6_wants := goodIn_r _ [23, 3, 9, 10, 11, 12, 7, 13, 14, 15, 31, 32, 33, 34, 35, 36, 37, 38, 39, 40, 41, 42, 43, 44, 45, 46] (by decide +kernel) (by decide +kernel)
set_option maxRecDepth 20000 in
theorem gX6_readsOrder_X6_wants : GoodIn wsX6_readsOrder (wsV RX6 147 RX6 yX6_wants wsX6_wants) := goodIn_app (goodIn_of _ (by decide +kernel)) ggX6_readsOrder_X6_wants
theorem dX6_readsOrder_0 : decode cX6_readsOrder 0 = .ok (.iconst 3, 1) := by decide +kernel
theorem dX6_readsOrder_1 : decode cX6_readsOrder 1 = .ok (.aload_n 0, 1) := by decide +kernel
theorem dX6_readsOrder_2 : decode cX6_readsOrder 2 = .ok (.getfield 155, 3) := by decide +kernel
theorem dX6_readsOrder_5 : decode cX6_readsOrder 5 = .ok (.imul, 1) := by decide +kernel
theorem dX6_readsOrder_6 : decode cX6_readsOrder 6 = .ok (.istore_n 1, 1) := by decide +kernel
theorem dX6_readsOrder_7 : decode cX6_readsOrder 7 = .ok (.aload_n 0, 1) := by decide +kernel
theorem dX6_readsOrder_8 : decode cX6_readsOrder 8 = .ok (.invokevirtual 158, 3) := by decide +kernel
theorem dX6_readsOrder_11 : decode cX6_readsOrder 11 = .ok (.istore_n 2, 1) := by decide +kernel
theorem dX6_readsOrder_12 : decode cX6_readsOrder 12 = .ok (.aload_n 0, 1) := by decide +kernel
theorem dX6_readsOrder_13 : decode cX6_readsOrder 13 = .ok (.getfield 22, 3) := by decide +kernel
theorem dX6_readsOrder_16 : decode cX6_readsOrder 16 = .ok (.iload_n 1, 1) := by decide +kernel
theorem dX6_readsOrder_17 : decode cX6_readsOrder 17 = .ok (.iload_n 2, 1) := by decide +kernel
theorem dX6_readsOrder_18 : decode cX6_readsOrder 18 = .ok (.iastore, 1) := by decide +kernel
theorem dX6_readsOrder_19 : decode cX6_readsOrder 19 = .ok (.iload_n 2, 1) := by decide +kernel
theorem dX6_readsOrder_20 : decode cX6_readsOrder 20 = .ok (.iconst 1, 1) := by decide +kernel
theorem dX6_readsOrder_21 : decode cX6_readsOrder 21 = .ok (.if_icmp .ne 21, 3) := by decide +kernel
theorem dX6_readsOrder_24 : decode cX6_readsOrder 24 = .ok (.aload_n 0, 1) := by decide +kernel
theorem dX6_readsOrder_25 : decode cX6_readsOrder 25 = .ok (.getfield 22, 3) := by decide +kernel
theorem dX6_readsOrder_28 : decode cX6_readsOrder 28 = .ok (.iload_n 1, 1) := by decide +kernel
theorem dX6_readsOrder_29 : decode cX6_readsOrder 29 = .ok (.iconst 1, 1) := by decide +kernel
theorem dX6_readsOrder_30 : decode cX6_readsOrder 30 = .ok (.iadd, 1) := by decide +kernel
theorem dX6_readsOrder_31 : decode cX6_readsOrder 31 = .ok (.aload_n 0, 1) := by decide +kernel
theorem dX6_readsOrder_32 : decode cX6_readsOrder 32 = .ok (.iconst 1, 1) := by decide +kernel
theorem dX6_readsOrder_33 : decode cX6_readsOrder 33 = .ok (.bipush 30, 2) := by decide +kernel
theorem dX6_readsOrder_35 : decode cX6_readsOrder 35 = .ok (.invokevirtual 161, 3) := by decide +kernel
theorem dX6_readsOrder_38 : decode cX6_readsOrder 38 = .ok (.iastore, 1) := by decide +kernel
theorem dX6_readsOrder_39 : decode cX6_readsOrder 39 = .ok (.goto 51, 3) := by decide +kernel
theorem dX6_readsOrder_42 : decode cX6_readsOrder 42 = .ok (.iload_n 2, 1) := by decide +kernel
theorem dX6_readsOrder_43 : decode cX6_readsOrder 43 = .ok (.iconst 5, 1) := by decide +kernel
theorem dX6_readsOrder_44 : decode cX6_readsOrder 44 = .ok (.if_icmp .ne 21, 3) := by decide +kernel
theorem dX6_readsOrder_47 : decode cX6_readsOrder 47 = .ok (.aload_n 0, 1) := by decide +kernel
theorem dX6_readsOrder_48 : decode cX6_readsOrder 48 = .ok (.getfield 22, 3) := by decide +kernel
theorem dX6_readsOrder_51 : decode cX6_readsOrder 51 = .ok (.iload_n 1, 1) := by decide +kernel
theorem dX6_readsOrder_52 : decode cX6_readsOrder 52 = .ok (.iconst 1, 1) := by decide +kernel
theorem dX6_readsOrder_53 : decode cX6_readsOrder 53 = .ok (.iadd, 1) := by decide +kernel
theorem dX6_readsOrder_54 : decode cX6_readsOrder 54 = .ok (.aload_n 0, 1) := by decide +kernel
theorem dX6_readsOrder_55 : decode cX6_readsOrder 55 = .ok (.iconst 1, 1) := by decide +kernel
theorem dX6_readsOrder_56 : decode cX6_readsOrder 56 = .ok (.bipush 20, 2) := by decide +kernel
theorem dX6_readsOrder_58 : decode cX6_readsOrder 58 = .ok (.invokevirtual 161, 3) := by decide +kernel
theorem dX6_readsOrder_61 : decode cX6_readsOrder 61 = .ok (.iastore, 1) := by decide +kernel
theorem dX6_readsOrder_62 : decode cX6_readsOrder 62 = .ok (.goto 28, 3) := by decide +kernel
theorem dX6_readsOrder_65 : decode cX6_readsOrder 65 = .ok (.iload_n 2, 1) := by decide +kernel
theorem dX6_readsOrder_66 : decode cX6_readsOrder 66 = .ok (.iconst 2, 1) := by decide +kernel
theorem dX6_readsOrder_67 : decode cX6_readsOrder 67 = .ok (.if_icmp .eq 8, 3) := by decide +kernel
theorem dX6_readsOrder_70 : decode cX6_readsOrder 70 = .ok (.iload_n 2, 1) := by decide +kernel
theorem dX6_readsOrder_71 : decode cX6_readsOrder 71 = .ok (.iconst 3, 1) := by decide +kernel
theorem dX6_readsOrder_72 : decode cX6_readsOrder 72 = .ok (.if_icmp .ne 18, 3) := by decide +kernel
theorem dX6_readsOrder_75 : decode cX6_readsOrder 75 = .ok (.aload_n 0, 1) := by decide +kernel
theorem dX6_readsOrder_76 : decode cX6_readsOrder 76 = .ok (.getfield 22, 3) := by decide +kernel
theorem dX6_readsOrder_79 : decode cX6_readsOrder 79 = .ok (.iload_n 1, 1) := by decide +kernel
theorem dX6_readsOrder_80 : decode cX6_readsOrder 80 = .ok (.iconst 1, 1) := by decide +kernel
theorem dX6_readsOrder_81 : decode cX6_readsOrder 81 = .ok (.iadd, 1) := by decide +kernel
theorem dX6_readsOrder_82 : decode cX6_readsOrder 82 = .ok (.aload_n 0, 1) := by decide +kernel
theorem dX6_readsOrder_83 : decode cX6_readsOrder 83 = .ok (.iconst 0, 1) := by decide +kernel
theorem dX6_readsOrder_84 : decode cX6_readsOrder 84 = .ok (.bipush 15, 2) := by decide +kernel
theorem dX6_readsOrder_86 : decode cX6_readsOrder 86 = .ok (.invokevirtual 161, 3) := by decide +kernel
theorem dX6_readsOrder_89 : decode cX6_readsOrder 89 = .ok (.iastore, 1) := by decide +kernel
theorem dX6_readsOrder_90 : decode cX6_readsOrder 90 = .ok (.iload_n 2, 1) := by decide +kernel
theorem dX6_readsOrder_91 : decode cX6_readsOrder 91 = .ok (.iconst 1, 1) := by decide +kernel
theorem dX6_readsOrder_92 : decode cX6_readsOrder 92 = .ok (.if_icmp .eq 8, 3) := by decide +kernel
theorem dX6_readsOrder_95 : decode cX6_readsOrder 95 = .ok (.iload_n 2, 1) := by decide +kernel
theorem dX6_readsOrder_96 : decode cX6_readsOrder 96 = .ok (.iconst 3, 1) := by decide +kernel
theorem dX6_readsOrder_97 : decode cX6_readsOrder 97 = .ok (.if_icmp .ne 23, 3) := by decide +kernel
theorem dX6_readsOrder_100 : decode cX6_readsOrder 100 = .ok (.aload_n 0, 1) := by decide +kernel
theorem dX6_readsOrder_101 : decode cX6_readsOrder 101 = .ok (.bipush 64, 2) := by decide +kernel
theorem dX6_readsOrder_103 : decode cX6_readsOrder 103 = .ok (.invokevirtual 147, 3) := by decide +kernel
theorem dX6_readsOrder_106 : decode cX6_readsOrder 106 = .ok (.aload_n 0, 1) := by decide +kernel
theorem dX6_readsOrder_107 : decode cX6_readsOrder 107 = .ok (.getfield 22, 3) := by decide +kernel
theorem dX6_readsOrder_110 : decode cX6_readsOrder 110 = .ok (.iload_n 1, 1) := by decide +kernel
theorem dX6_readsOrder_111 : decode cX6_readsOrder 111 = .ok (.iconst 2, 1) := by decide +kernel
theorem dX6_readsOrder_112 : decode cX6_readsOrder 112 = .ok (.iadd, 1) := by decide +kernel
theorem dX6_readsOrder_113 : decode cX6_readsOrder 113 = .ok (.aload_n 0, 1) := by decide +kernel
theorem dX6_readsOrder_114 : decode cX6_readsOrder 114 = .ok (.iconst 0, 1) := by decide +kernel
theorem dX6_readsOrder_115 : decode cX6_readsOrder 115 = .ok (.iconst 5, 1) := by decide +kernel
theorem dX6_readsOrder_116 : decode cX6_readsOrder 116 = .ok (.invokevirtual 161, 3) := by decide +kernel
theorem dX6_readsOrder_119 : decode cX6_readsOrder 119 = .ok (.iastore, 1) := by decide +kernel
theorem dX6_readsOrder_120 : decode cX6_readsOrder 120 = .ok (.aload_n 0, 1) := by decide +kernel
theorem dX6_readsOrder_121 : decode cX6_readsOrder 121 = .ok (.dup, 1) := by decide +kernel
theorem dX6_readsOrder_122 : decode cX6_readsOrder 122 = .ok (.getfield 155, 3) := by decide +kernel
theorem dX6_readsOrder_125 : decode cX6_readsOrder 125 = .ok (.aload_n 0, 1) := by decide +kernel
theorem dX6_readsOrder_126 : decode cX6_readsOrder 126 = .ok (.getfield 141, 3) := by decide +kernel
theorem dX6_readsOrder_129 : decode cX6_readsOrder 129 = .ok (.ifCond .eq 7, 3) := by decide +kernel
theorem dX6_readsOrder_132 : decode cX6_readsOrder 132 = .ok (.iconst 1, 1) := by decide +kernel
theorem dX6_readsOrder_133 : decode cX6_readsOrder 133 = .ok (.goto 4, 3) := by decide +kernel
theorem dX6_readsOrder_136 : decode cX6_readsOrder 136 = .ok (.iconst 0, 1) := by decide +kernel
theorem dX6_readsOrder_137 : decode cX6_readsOrder 137 = .ok (.iadd, 1) := by decide +kernel
theorem dX6_readsOrder_138 : decode cX6_readsOrder 138 = .ok (.putfield 155, 3) := by decide +kernel
theorem dX6_readsOrder_141 : decode cX6_readsOrder 141 = .ok (.return_, 1) := by decide +kernel
set_option maxRecDepth 20000 in
theorem ggX6_reads_X6_readsOrder : GoodIn wsX6_reads wsX6_readsOrder := goodIn_r _ [9, 2, 10, 3, 11, 12, 13, 8, 14, 1, 15, 16, 17, 18, 4, 19, 20, 21, 22, 23, 24, 25, 26, 27, 28, 29, 30, 31, 32, 33, 34, 35, 36, 37, 38, 39, 40, 41, 42, 43, 44, 45, 46, 47, 48, 49, 50] (by decide +kernel) (by decide +kernel)
set_option maxRecDepth 20000 in
theorem gX6_reads_X6_readsOrder : GoodIn wsX6_reads (wsV RX6 164 RX6 yX6_readsOrder wsX6_readsOrder) := goodIn_app (goodIn_of _ (by decide +kernel)) ggX6_reads_X6_readsOrder
set_option maxRecDepth 20000 in
theorem ggX6_reads_X6_wants : GoodIn wsX6_reads wsX6_wants := goodIn_r _ [27, 3, 1, 15, 16, 17, 8, 18, 4, 19, 35, 36, 37, 38, 39, 40, 41, 42, 43, 44, 45, 46, 47, 48, 49, 50] (by decide +kernel) (by decide +kernel)
set_option maxRecDepth 20000 in
theorem gX6_reads_X6_wants : GoodIn wsX6_reads (wsV RX6 147 RX6 yX6_wants wsX6_wants) := goodIn_app (goodIn_of _ (by decide +kernel)) ggX6_reads_X6_wants
theorem dX6_reads_0 : decode cX6_reads 0 = .ok (.aload_n 0, 1) := by decide +kernel
theorem dX6_reads_1 : decode cX6_reads 1 = .ok (.iconst 0, 1) := by decide +kernel
theorem dX6_reads_2 : decode cX6_reads 2 = .ok (.putfield 138, 3) := by decide +kernel
theorem dX6_reads_5 : decode cX6_reads 5 = .ok (.aload_n 0, 1) := by decide +kernel
theorem dX6_reads_6 : decode cX6_reads 6 = .ok (.iconst 0, 1) := by decide +kernel
theorem dX6_reads_7 : decode cX6_reads 7 = .ok (.putfield 155, 3) := by decide +kernel
theorem dX6_reads_10 : decode cX6_reads 10 = .ok (.aload_n 0, 1) := by decide +kernel
theorem dX6_reads_11 : decode cX6_reads 11 = .ok (.invokevirtual 164, 3) := by decide +kernel
theorem dX6_reads_14 : decode cX6_reads 14 = .ok (.aload_n 0, 1) := by decide +kernel
theorem dX6_reads_15 : decode cX6_reads 15 = .ok (.getfield 141, 3) := by decide +kernel
theorem dX6_reads_18 : decode cX6_reads 18 = .ok (.ifCond .eq 34, 3) := by decide +kernel
theorem dX6_reads_21 : decode cX6_reads 21 = .ok (.aload_n 0, 1) := by decide +kernel
theorem dX6_reads_22 : decode cX6_reads 22 = .ok (.getfield 138, 3) := by decide +kernel
theorem dX6_reads_25 : decode cX6_reads 25 = .ok (.aload_n 0, 1) := by decide +kernel
theorem dX6_reads_26 : decode cX6_reads 26 = .ok (.getfield 135, 3) := by decide +kernel
theorem dX6_reads_29 : decode cX6_reads 29 = .ok (.if_icmp .ge 23, 3) := by decide +kernel
theorem dX6_reads_32 : decode cX6_reads 32 = .ok (.aload_n 0, 1) := by decide +kernel
theorem dX6_reads_33 : decode cX6_reads 33 = .ok (.bipush 59, 2) := by decide +kernel
theorem dX6_reads_35 : decode cX6_reads 35 = .ok (.invokevirtual 147, 3) := by decide +kernel
theorem dX6_reads_38 : decode cX6_reads 38 = .ok (.aload_n 0, 1) := by decide +kernel
theorem dX6_reads_39 : decode cX6_reads 39 = .ok (.getfield 141, 3) := by decide +kernel
theorem dX6_reads_42 : decode cX6_reads 42 = .ok (.ifCond .eq (-28), 3) := by decide +kernel
theorem dX6_reads_45 : decode cX6_reads 45 = .ok (.aload_n 0, 1) := by decide +kernel
theorem dX6_reads_46 : decode cX6_reads 46 = .ok (.invokevirtual 164, 3) := by decide +kernel
theorem dX6_reads_49 : decode cX6_reads 49 = .ok (.goto (-35), 3) := by decide +kernel
theorem dX6_reads_52 : decode cX6_reads 52 = .ok (.aload_n 0, 1) := by decide +kernel
theorem dX6_reads_53 : decode cX6_reads 53 = .ok (.getfield 141, 3) := by decide +kernel
theorem dX6_reads_56 : decode cX6_reads 56 = .ok (.ireturn, 1) := by decide +kernel
set_option maxRecDepth 20000 in
theorem ggX6_firstError_X6_reads : GoodIn wsX6_firstError wsX6_reads := goodIn_r _ [8, 3, 9, 10, 2, 11, 12, 13, 7, 14, 15, 16, 17, 18, 19, 20, 21, 22, 23, 24, 25, 26, 27, 28, 29, 30, 31, 32, 33, 34, 35, 36, 37, 38, 39, 40, 41, 42, 43, 44, 45, 46, 47, 48, 49, 50, 51, 52, 53, 54, 55] (by decide +kernel) (by decide +kernel)
set_option maxRecDepth 20000 in
theorem gX6_firstError_X6_reads : GoodIn wsX6_firstError (wsV RX6 167 RX6 yX6_reads wsX6_reads) := goodIn_app (goodIn_of _ (by decide +kernel)) ggX6_firstError_X6_reads
theorem dX6_firstError_0 : decode cX6_firstError 0 = .ok (.aload_n 0, 1) := by decide +kernel
theorem dX6_firstError_1 : decode cX6_firstError 1 = .ok (.iconst 0, 1) := by decide +kernel
theorem dX6_firstError_2 : decode cX6_firstError 2 = .ok (.putfield 25, 3) := by decide +kernel
theorem dX6_firstError_5 : decode cX6_firstError 5 = .ok (.aload_n 0, 1) := by decide +kernel
theorem dX6_firstError_6 : decode cX6_firstError 6 = .ok (.invokevirtual 167, 3) := by decide +kernel
theorem dX6_firstError_9 : decode cX6_firstError 9 = .ok (.ifCond .eq 10, 3) := by decide +kernel
theorem dX6_firstError_12 : decode cX6_firstError 12 = .ok (.aload_n 0, 1) := by decide +kernel
theorem dX6_firstError_13 : decode cX6_firstError 13 = .ok (.getfield 135, 3) := by decide +kernel
theorem dX6_firstError_16 : decode cX6_firstError 16 = .ok (.goto 7, 3) := by decide +kernel
theorem dX6_firstError_19 : decode cX6_firstError 19 = .ok (.aload_n 0, 1) := by decide +kernel
theorem dX6_firstError_20 : decode cX6_firstError 20 = .ok (.getfield 138, 3) := by decide +kernel
theorem dX6_firstError_23 : decode cX6_firstError 23 = .ok (.ireturn, 1) := by decide +kernel
set_option maxRecDepth 20000 in
theorem ggX6_addsIf_X6_refusesAdding : GoodIn wsX6_addsIf wsX6_refusesAdding := goodIn_r _ [5, 6, 7, 8, 4, 9, 10, 11, 12, 13, 14, 15, 16, 17, 18, 19, 20, 21, 22, 23, 24, 33, 34, 35, 36, 37, 38, 39, 40, 41, 42, 43, 44, 45, 46, 47, 48] (by decide +kernel) (by decide +kernel)
set_option maxRecDepth 20000 in
theorem gX6_addsIf_X6_refusesAdding : GoodIn wsX6_addsIf (wsV RX6 71 RX6 yX6_refusesAdding wsX6_refusesAdding) := goodIn_app (goodIn_of _ (by decide +kernel)) ggX6_addsIf_X6_refusesAdding
set_option maxRecDepth 20000 in
theorem ggX6_addsIf_X6_adds : GoodIn wsX6_addsIf wsX6_adds := goodIn_r _ [28, 6, 29, 30, 31, 4, 32, 33, 34, 35, 36, 37, 38, 39, 40, 41, 42, 43, 44, 45, 46, 47, 48] (by decide +kernel) (by decide +kernel)
set_option maxRecDepth 20000 in
theorem gX6_addsIf_X6_adds : GoodIn wsX6_addsIf (wsV RX6 74 RX6 yX6_adds wsX6_adds) := goodIn_app (goodIn_of _ (by decide +kernel)) ggX6_addsIf_X6_adds
theorem dX6_addsIf_0 : decode cX6_addsIf 0 = .ok (.aload_n 0, 1) := by decide +kernel
theorem dX6_addsIf_1 : decode cX6_addsIf 1 = .ok (.iload_n 1, 1) := by decide +kernel
theorem dX6_addsIf_2 : decode cX6_addsIf 2 = .ok (.iload_n 2, 1) := by decide +kernel
theorem dX6_addsIf_3 : decode cX6_addsIf 3 = .ok (.invokevirtual 71, 3) := by decide +kernel
theorem dX6_addsIf_6 : decode cX6_addsIf 6 = .ok (.ifCond .ne 7, 3) := by decide +kernel
theorem dX6_addsIf_9 : decode cX6_addsIf 9 = .ok (.iconst 1, 1) := by decide +kernel
theorem dX6_addsIf_10 : decode cX6_addsIf 10 = .ok (.goto 4, 3) := by decide +kernel
theorem dX6_addsIf_13 : decode cX6_addsIf 13 = .ok (.iconst 0, 1) := by decide +kernel
theorem dX6_addsIf_14 : decode cX6_addsIf 14 = .ok (.istore_n 3, 1) := by decide +kernel
theorem dX6_addsIf_15 : decode cX6_addsIf 15 = .ok (.iload_n 3, 1) := by decide +kernel
theorem dX6_addsIf_16 : decode cX6_addsIf 16 = .ok (.ifCond .eq 10, 3) := by decide +kernel
theorem dX6_addsIf_19 : decode cX6_addsIf 19 = .ok (.aload_n 0, 1) := by decide +kernel
theorem dX6_addsIf_20 : decode cX6_addsIf 20 = .ok (.iload_n 1, 1) := by decide +kernel
theorem dX6_addsIf_21 : decode cX6_addsIf 21 = .ok (.iload_n 2, 1) := by decide +kernel
theorem dX6_addsIf_22 : decode cX6_addsIf 22 = .ok (.invokevirtual 74, 3) := by decide +kernel
theorem dX6_addsIf_25 : decode cX6_addsIf 25 = .ok (.pop, 1) := by decide +kernel
theorem dX6_addsIf_26 : decode cX6_addsIf 26 = .ok (.iload_n 3, 1) := by decide +kernel
theorem dX6_addsIf_27 : decode cX6_addsIf 27 = .ok (.ireturn, 1) := by decide +kernel
set_option maxRecDepth 20000 in
theorem ggX6_callsIf_X6_isRecord : GoodIn wsX6_callsIf wsX6_isRecord := goodIn_r _ [5, 6, 7, 8, 4, 9, 34, 35, 36, 37, 38, 39, 40, 41, 42, 43, 44, 45, 46, 47, 48, 49] (by decide +kernel) (by decide +kernel)
set_option maxRecDepth 20000 in
theorem gX6_callsIf_X6_isRecord : GoodIn wsX6_callsIf (wsV RX6 77 RX6 yX6_isRecord wsX6_isRecord) := goodIn_app (goodIn_of _ (by decide +kernel)) ggX6_callsIf_X6_isRecord
set_option maxRecDepth 20000 in
theorem ggX6_callsIf_X6_calls : GoodIn wsX6_callsIf wsX6_calls := goodIn_r _ [13, 6, 14, 15, 16, 4, 17, 18, 19, 20, 21, 22, 23, 24, 25, 26, 27, 28, 29, 30, 31, 32, 33, 34, 35, 36, 37, 38, 39, 40, 41, 42, 43, 44, 45, 46, 47, 48, 49] (by decide +kernel) (by decide +kernel)
set_option maxRecDepth 20000 in
theorem gX6_callsIf_X6_calls : GoodIn wsX6_callsIf (wsV RX6 83 RX6 yX6_calls wsX6_calls) := goodIn_app (goodIn_of _ (by decide +kernel)) ggX6_callsIf_X6_calls
theorem dX6_callsIf_0 : decode cX6_callsIf 0 = .ok (.aload_n 0, 1) := by decide +kernel
theorem dX6_callsIf_1 : decode cX6_callsIf 1 = .ok (.iload_n 1, 1) := by decide +kernel
theorem dX6_callsIf_2 : decode cX6_callsIf 2 = .ok (.invokevirtual 77, 3) := by decide +kernel
theorem dX6_callsIf_5 : decode cX6_callsIf 5 = .ok (.istore_n 2, 1) := by decide +kernel
theorem dX6_callsIf_6 : decode cX6_callsIf 6 = .ok (.iload_n 2, 1) := by decide +kernel
theorem dX6_callsIf_7 : decode cX6_callsIf 7 = .ok (.ifCond .eq 9, 3) := by decide +kernel
theorem dX6_callsIf_10 : decode cX6_callsIf 10 = .ok (.aload_n 0, 1) := by decide +kernel
theorem dX6_callsIf_11 : decode cX6_callsIf 11 = .ok (.iload_n 1, 1) := by decide +kernel
theorem dX6_callsIf_12 : decode cX6_callsIf 12 = .ok (.invokevirtual 83, 3) := by decide +kernel
theorem dX6_callsIf_15 : decode cX6_callsIf 15 = .ok (.pop, 1) := by decide +kernel
theorem dX6_callsIf_16 : decode cX6_callsIf 16 = .ok (.iload_n 2, 1) := by decide +kernel
theorem dX6_callsIf_17 : decode cX6_callsIf 17 = .ok (.ireturn, 1) := by decide +kernel
set_option maxRecDepth 20000 in
theorem ggX6_misplacesIf_X6_refusesMisplacing : GoodIn wsX6_misplacesIf wsX6_refusesMisplacing := goodIn_r _ [5, 6, 7, 8, 4, 9, 10, 11, 12, 13, 14, 15, 16, 17, 18, 19, 20, 21, 22, 23, 24, 25, 26, 27, 28, 33, 34, 35, 36, 37, 38, 39, 40, 41, 42, 43, 44, 45, 46, 47, 48] (by decide +kernel) (by decide +kernel)
set_option maxRecDepth 20000 in
theorem gX6_misplacesIf_X6_refusesMisplacing : GoodIn wsX6_misplacesIf (wsV RX6 86 RX6 yX6_refusesMisplacing wsX6_refusesMisplacing) := goodIn_app (goodIn_of _ (by decide +kernel)) ggX6_misplacesIf_X6_refusesMisplacing
set_option maxRecDepth 20000 in
theorem ggX6_misplacesIf_X6_lay : GoodIn wsX6_misplacesIf wsX6_lay := goodIn_r _ [32, 10, 33, 34, 35, 36, 37, 38, 39, 40, 41, 42, 43, 44, 45, 46, 47, 48] (by decide +kernel) (by decide +kernel)
set_option maxRecDepth 20000 in
theorem gX6_misplacesIf_X6_lay : GoodIn wsX6_misplacesIf (wsV RX6 67 RX6 yX6_lay wsX6_lay) := goodIn_app (goodIn_of _ (by decide +kernel)) ggX6_misplacesIf_X6_lay
theorem dX6_misplacesIf_0 : decode cX6_misplacesIf 0 = .ok (.aload_n 0, 1) := by decide +kernel
theorem dX6_misplacesIf_1 : decode cX6_misplacesIf 1 = .ok (.iload_n 1, 1) := by decide +kernel
theorem dX6_misplacesIf_2 : decode cX6_misplacesIf 2 = .ok (.iload_n 2, 1) := by decide +kernel
theorem dX6_misplacesIf_3 : decode cX6_misplacesIf 3 = .ok (.invokevirtual 86, 3) := by decide +kernel
theorem dX6_misplacesIf_6 : decode cX6_misplacesIf 6 = .ok (.ifCond .ne 7, 3) := by decide +kernel
theorem dX6_misplacesIf_9 : decode cX6_misplacesIf 9 = .ok (.iconst 1, 1) := by decide +kernel
theorem dX6_misplacesIf_10 : decode cX6_misplacesIf 10 = .ok (.goto 4, 3) := by decide +kernel
theorem dX6_misplacesIf_13 : decode cX6_misplacesIf 13 = .ok (.iconst 0, 1) := by decide +kernel
theorem dX6_misplacesIf_14 : decode cX6_misplacesIf 14 = .ok (.istore_n 3, 1) := by decide +kernel
theorem dX6_misplacesIf_15 : decode cX6_misplacesIf 15 = .ok (.iload_n 3, 1) := by decide +kernel
theorem dX6_misplacesIf_16 : decode cX6_misplacesIf 16 = .ok (.ifCond .eq 10, 3) := by decide +kernel
theorem dX6_misplacesIf_19 : decode cX6_misplacesIf 19 = .ok (.aload_n 0, 1) := by decide +kernel
theorem dX6_misplacesIf_20 : decode cX6_misplacesIf 20 = .ok (.iload_n 1, 1) := by decide +kernel
theorem dX6_misplacesIf_21 : decode cX6_misplacesIf 21 = .ok (.iconst 1, 1) := by decide +kernel
theorem dX6_misplacesIf_22 : decode cX6_misplacesIf 22 = .ok (.iload_n 2, 1) := by decide +kernel
theorem dX6_misplacesIf_23 : decode cX6_misplacesIf 23 = .ok (.invokevirtual 67, 3) := by decide +kernel
theorem dX6_misplacesIf_26 : decode cX6_misplacesIf 26 = .ok (.iload_n 3, 1) := by decide +kernel
theorem dX6_misplacesIf_27 : decode cX6_misplacesIf 27 = .ok (.ireturn, 1) := by decide +kernel
set_option maxRecDepth 20000 in
theorem ggX6_does_X6_addsIf : GoodIn wsX6_does wsX6_addsIf := goodIn_r _ [6, 7, 8, 9, 5, 10, 11, 12, 13, 14, 15, 16, 17, 18, 19, 20, 21, 22, 23, 24, 25, 26, 27, 28, 29, 30, 31, 32, 33, 34, 35, 36, 37, 110, 111, 112, 113, 114, 115, 116, 117, 118, 119, 120, 121, 122, 123, 124, 125] (by decide +kernel) (by decide +kernel)
set_option maxRecDepth 20000 in
theorem gX6_does_X6_addsIf : GoodIn wsX6_does (wsV RX6 171 RX6 yX6_addsIf wsX6_addsIf) := goodIn_app (goodIn_of _ (by decide +kernel)) ggX6_does_X6_addsIf
set_option maxRecDepth 20000 in
theorem ggX6_does_X6_callsIf : GoodIn wsX6_does wsX6_callsIf := goodIn_r _ [41, 42, 43, 44, 5, 45, 11, 15, 16, 17, 46, 47, 48, 49, 50, 51, 52, 53, 26, 27, 28, 29, 54, 55, 56, 57, 58, 59, 60, 61, 34, 35, 36, 37, 110, 111, 112, 113, 114, 115, 116, 117, 118, 119, 120, 121, 122, 123, 124, 125] (by decide +kernel) (by decide +kernel)
set_option maxRecDepth 20000 in
theorem gX6_does_X6_callsIf : GoodIn wsX6_does (wsV RX6 174 RX6 yX6_callsIf wsX6_callsIf) := goodIn_app (goodIn_of _ (by decide +kernel)) ggX6_does_X6_callsIf
set_option maxRecDepth 20000 in
theorem ggX6_does_X6_misplacesIf : GoodIn wsX6_does wsX6_misplacesIf := goodIn_r _ [65, 66, 67, 68, 5, 69, 42, 43, 44, 45, 11, 15, 16, 17, 12, 13, 14, 26, 27, 28, 29, 18, 19, 20, 21, 22, 23, 24, 25, 34, 35, 36, 37, 110, 111, 112, 113, 114, 115, 116, 117, 118, 119, 120, 121, 122, 123, 124, 125] (by decide +kernel) (by decide +kernel)
set_option maxRecDepth 20000 in
theorem gX6_does_X6_misplacesIf : GoodIn wsX6_does (wsV RX6 177 RX6 yX6_misplacesIf wsX6_misplacesIf) := goodIn_app (goodIn_of _ (by decide +kernel)) ggX6_does_X6_misplacesIf
set_option maxRecDepth 20000 in
theorem ggX6_does_X6_begins : GoodIn wsX6_does wsX6_begins := goodIn_r _ [73, 11, 26, 27, 28, 5, 29, 34, 35, 36, 37, 110, 111, 112, 113, 114, 115, 116, 117, 118, 119, 120, 121, 122, 123, 124, 125] (by decide +kernel) (by decide +kernel)
set_option maxRecDepth 20000 in
theorem gX6_does_X6_begins : GoodIn wsX6_does (wsV RX6 89 RX6 yX6_begins wsX6_begins) := goodIn_app (goodIn_of _ (by decide +kernel)) ggX6_does_X6_begins
set_option maxRecDepth 20000 in
theorem ggX6_does_X6_works : GoodIn wsX6_does wsX6_works := goodIn_r _ [77, 78, 79, 80, 81, 11, 82, 83, 84, 5, 85, 86, 87, 88, 89, 54, 55, 56, 57, 26, 27, 28, 29, 18, 19, 20, 21, 22, 23, 24, 25, 90, 91, 92, 93, 94, 95, 96, 97, 98, 99, 100, 101, 102, 103, 104, 105, 106, 107, 108, 109, 34, 35, 36, 37, 110, 111, 112, 113, 114, 115, 116, 117, 118, 119, 120, 121, 122, 123, 124, 125] (by decide +kernel) (by decide +kernel)
set_option maxRecDepth 20000 in
theorem gX6_does_X6_works : GoodIn wsX6_does (wsV RX6 129 RX6 yX6_works wsX6_works) := goodIn_app (goodIn_of _ (by decide +kernel)) ggX6_does_X6_works
theorem dX6_does_0 : decode cX6_does 0 = .ok (.aload_n 0, 1) := by decide +kernel
theorem dX6_does_1 : decode cX6_does 1 = .ok (.getfield 22, 3) := by decide +kernel
theorem dX6_does_4 : decode cX6_does 4 = .ok (.iload_n 1, 1) := by decide +kernel
theorem dX6_does_5 : decode cX6_does 5 = .ok (.iaload, 1) := by decide +kernel
theorem dX6_does_6 : decode cX6_does 6 = .ok (.tableswitch 92 1 4 #[30, 51, 64, 85], 30) := by decide +kernel
theorem dX6_does_36 : decode cX6_does 36 = .ok (.aload_n 0, 1) := by decide +kernel
theorem dX6_does_37 : decode cX6_does 37 = .ok (.aload_n 0, 1) := by decide +kernel
theorem dX6_does_38 : decode cX6_does 38 = .ok (.getfield 22, 3) := by decide +kernel
theorem dX6_does_41 : decode cX6_does 41 = .ok (.iload_n 1, 1) := by decide +kernel
theorem dX6_does_42 : decode cX6_does 42 = .ok (.iconst 1, 1) := by decide +kernel
theorem dX6_does_43 : decode cX6_does 43 = .ok (.iadd, 1) := by decide +kernel
theorem dX6_does_44 : decode cX6_does 44 = .ok (.iaload, 1) := by decide +kernel
theorem dX6_does_45 : decode cX6_does 45 = .ok (.aload_n 0, 1) := by decide +kernel
theorem dX6_does_46 : decode cX6_does 46 = .ok (.getfield 22, 3) := by decide +kernel
theorem dX6_does_49 : decode cX6_does 49 = .ok (.iload_n 1, 1) := by decide +kernel
theorem dX6_does_50 : decode cX6_does 50 = .ok (.iconst 2, 1) := by decide +kernel
theorem dX6_does_51 : decode cX6_does 51 = .ok (.iadd, 1) := by decide +kernel
theorem dX6_does_52 : decode cX6_does 52 = .ok (.iaload, 1) := by decide +kernel
theorem dX6_does_53 : decode cX6_does 53 = .ok (.invokevirtual 171, 3) := by decide +kernel
theorem dX6_does_56 : decode cX6_does 56 = .ok (.ireturn, 1) := by decide +kernel
theorem dX6_does_57 : decode cX6_does 57 = .ok (.aload_n 0, 1) := by decide +kernel
theorem dX6_does_58 : decode cX6_does 58 = .ok (.aload_n 0, 1) := by decide +kernel
theorem dX6_does_59 : decode cX6_does 59 = .ok (.getfield 22, 3) := by decide +kernel
theorem dX6_does_62 : decode cX6_does 62 = .ok (.iload_n 1, 1) := by decide +kernel
theorem dX6_does_63 : decode cX6_does 63 = .ok (.iconst 1, 1) := by decide +kernel
theorem dX6_does_64 : decode cX6_does 64 = .ok (.iadd, 1) := by decide +kernel
theorem dX6_does_65 : decode cX6_does 65 = .ok (.iaload, 1) := by decide +kernel
theorem dX6_does_66 : decode cX6_does 66 = .ok (.invokevirtual 174, 3) := by decide +kernel
theorem dX6_does_69 : decode cX6_does 69 = .ok (.ireturn, 1) := by decide +kernel
theorem dX6_does_70 : decode cX6_does 70 = .ok (.aload_n 0, 1) := by decide +kernel
theorem dX6_does_71 : decode cX6_does 71 = .ok (.aload_n 0, 1) := by decide +kernel
theorem dX6_does_72 : decode cX6_does 72 = .ok (.getfield 22, 3) := by decide +kernel
theorem dX6_does_75 : decode cX6_does 75 = .ok (.iload_n 1, 1) := by decide +kernel
theorem dX6_does_76 : decode cX6_does 76 = .ok (.iconst 1, 1) := by decide +kernel
theorem dX6_does_77 : decode cX6_does 77 = .ok (.iadd, 1) := by decide +kernel
theorem dX6_does_78 : decode cX6_does 78 = .ok (.iaload, 1) := by decide +kernel
theorem dX6_does_79 : decode cX6_does 79 = .ok (.aload_n 0, 1) := by decide +kernel
theorem dX6_does_80 : decode cX6_does 80 = .ok (.getfield 22, 3) := by decide +kernel
theorem dX6_does_83 : decode cX6_does 83 = .ok (.iload_n 1, 1) := by decide +kernel
theorem dX6_does_84 : decode cX6_does 84 = .ok (.iconst 2, 1) := by decide +kernel
theorem dX6_does_85 : decode cX6_does 85 = .ok (.iadd, 1) := by decide +kernel
theorem dX6_does_86 : decode cX6_does 86 = .ok (.iaload, 1) := by decide +kernel
theorem dX6_does_87 : decode cX6_does 87 = .ok (.invokevirtual 177, 3) := by decide +kernel
theorem dX6_does_90 : decode cX6_does 90 = .ok (.ireturn, 1) := by decide +kernel
theorem dX6_does_91 : decode cX6_does 91 = .ok (.aload_n 0, 1) := by decide +kernel
theorem dX6_does_92 : decode cX6_does 92 = .ok (.invokevirtual 89, 3) := by decide +kernel
theorem dX6_does_95 : decode cX6_does 95 = .ok (.pop, 1) := by decide +kernel
theorem dX6_does_96 : decode cX6_does 96 = .ok (.iconst 1, 1) := by decide +kernel
theorem dX6_does_97 : decode cX6_does 97 = .ok (.ireturn, 1) := by decide +kernel
theorem dX6_does_98 : decode cX6_does 98 = .ok (.aload_n 0, 1) := by decide +kernel
theorem dX6_does_99 : decode cX6_does 99 = .ok (.aload_n 0, 1) := by decide +kernel
theorem dX6_does_100 : decode cX6_does 100 = .ok (.getfield 22, 3) := by decide +kernel
theorem dX6_does_103 : decode cX6_does 103 = .ok (.iload_n 1, 1) := by decide +kernel
theorem dX6_does_104 : decode cX6_does 104 = .ok (.iconst 1, 1) := by decide +kernel
theorem dX6_does_105 : decode cX6_does 105 = .ok (.iadd, 1) := by decide +kernel
theorem dX6_does_106 : decode cX6_does 106 = .ok (.iaload, 1) := by decide +kernel
theorem dX6_does_107 : decode cX6_does 107 = .ok (.invokevirtual 129, 3) := by decide +kernel
theorem dX6_does_110 : decode cX6_does 110 = .ok (.pop, 1) := by decide +kernel
theorem dX6_does_111 : decode cX6_does 111 = .ok (.iconst 1, 1) := by decide +kernel
theorem dX6_does_112 : decode cX6_does 112 = .ok (.ireturn, 1) := by decide +kernel
set_option maxRecDepth 20000 in
theorem ggX6_run_X6_reads : GoodIn wsX6_run wsX6_reads := goodIn_r _ [8, 9, 3, 10, 2, 11, 12, 13, 7, 14, 15, 16, 17, 18, 19, 20, 21, 22, 23, 24, 25, 26, 27, 28, 29, 30, 31, 32, 33, 34, 35, 36, 37, 38, 39, 158, 159, 160, 161, 162, 163, 164, 165, 166, 167, 168, 169, 170, 171, 172, 173] (by decide +kernel) (by decide +kernel)
set_option maxRecDepth 20000 in
theorem gX6_run_X6_reads : GoodIn wsX6_run (wsV RX6 167 RX6 yX6_reads wsX6_reads) := goodIn_app (goodIn_of _ (by decide +kernel)) ggX6_run_X6_reads
set_option maxRecDepth 20000 in
theorem ggX6_run_X6_fails : GoodIn wsX6_run wsX6_fails := goodIn_r _ [43, 1, 158, 159, 160, 161, 162, 163, 164, 165, 166, 167, 168, 169, 170, 171, 172, 173] (by decide +kernel) (by decide +kernel)
set_option maxRecDepth 20000 in
theorem gX6_run_X6_fails : GoodIn wsX6_run (wsV RX6 58 RX6 yX6_fails wsX6_fails) := goodIn_app (goodIn_of _ (by decide +kernel)) ggX6_run_X6_fails
set_option maxRecDepth 20000 in
theorem ggX6_run_X6_saves : GoodIn wsX6_run wsX6_saves := goodIn_r _ [47, 48, 49, 50, 158, 159, 160, 161, 162, 163, 164, 165, 166, 167, 168, 169, 170, 171, 172, 173] (by decide +kernel) (by decide +kernel)
set_option maxRecDepth 20000 in
theorem gX6_run_X6_saves : GoodIn wsX6_run (wsV RX6 61 RX6 yX6_saves wsX6_saves) := goodIn_app (goodIn_of _ (by decide +kernel)) ggX6_run_X6_saves
set_option maxRecDepth 20000 in
theorem ggX6_run_X6_does : GoodIn wsX6_run wsX6_does := goodIn_r _ [54, 15, 55, 56, 57, 7, 58, 59, 60, 61, 62, 50, 63, 64, 65, 37, 38, 39, 66, 67, 68, 69, 70, 71, 72, 73, 74, 75, 76, 77, 78, 79, 80, 81, 82, 83, 84, 85, 86, 87, 88, 89, 90, 91, 92, 93, 94, 95, 96, 97, 98, 99, 100, 101, 102, 103, 104, 105, 106, 107, 108, 109, 110, 111, 112, 113, 114, 115, 116, 117, 118, 119, 120, 121, 122, 123, 124, 125, 126, 127, 128, 129, 130, 131, 132, 133, 134, 135, 136, 137, 138, 139, 140, 141, 142, 143, 144, 145, 146, 147, 148, 149, 150, 151, 152, 153, 154, 155, 156, 157, 158, 159, 160, 161, 162, 163, 164, 165, 166, 167, 168, 169, 170, 171, 172, 173] (by decide +kernel) (by decide +kernel)
set_option maxRecDepth 20000 in
theorem gX6_run_X6_does : GoodIn wsX6_run (wsV RX6 180 RX6 yX6_does wsX6_does) := goodIn_app (goodIn_of _ (by decide +kernel)) ggX6_run_X6_does
theorem dX6_run_0 : decode cX6_run 0 = .ok (.aload_n 0, 1) := by decide +kernel
theorem dX6_run_1 : decode cX6_run 1 = .ok (.iconst 0, 1) := by decide +kernel
theorem dX6_run_2 : decode cX6_run 2 = .ok (.putfield 25, 3) := by decide +kernel
theorem dX6_run_5 : decode cX6_run 5 = .ok (.aload_n 0, 1) := by decide +kernel
theorem dX6_run_6 : decode cX6_run 6 = .ok (.invokevirtual 167, 3) := by decide +kernel
theorem dX6_run_9 : decode cX6_run 9 = .ok (.ifCond .ne 9, 3) := by decide +kernel
theorem dX6_run_12 : decode cX6_run 12 = .ok (.aload_n 0, 1) := by decide +kernel
theorem dX6_run_13 : decode cX6_run 13 = .ok (.iconst 1, 1) := by decide +kernel
theorem dX6_run_14 : decode cX6_run 14 = .ok (.invokevirtual 58, 3) := by decide +kernel
theorem dX6_run_17 : decode cX6_run 17 = .ok (.ireturn, 1) := by decide +kernel
theorem dX6_run_18 : decode cX6_run 18 = .ok (.aload_n 0, 1) := by decide +kernel
theorem dX6_run_19 : decode cX6_run 19 = .ok (.invokevirtual 61, 3) := by decide +kernel
theorem dX6_run_22 : decode cX6_run 22 = .ok (.aload_n 0, 1) := by decide +kernel
theorem dX6_run_23 : decode cX6_run 23 = .ok (.iconst 0, 1) := by decide +kernel
theorem dX6_run_24 : decode cX6_run 24 = .ok (.putfield 135, 3) := by decide +kernel
theorem dX6_run_27 : decode cX6_run 27 = .ok (.iconst 0, 1) := by decide +kernel
theorem dX6_run_28 : decode cX6_run 28 = .ok (.istore_n 1, 1) := by decide +kernel
theorem dX6_run_29 : decode cX6_run 29 = .ok (.iload_n 1, 1) := by decide +kernel
theorem dX6_run_30 : decode cX6_run 30 = .ok (.aload_n 0, 1) := by decide +kernel
theorem dX6_run_31 : decode cX6_run 31 = .ok (.getfield 155, 3) := by decide +kernel
theorem dX6_run_34 : decode cX6_run 34 = .ok (.if_icmp .ge 19, 3) := by decide +kernel
theorem dX6_run_37 : decode cX6_run 37 = .ok (.aload_n 0, 1) := by decide +kernel
theorem dX6_run_38 : decode cX6_run 38 = .ok (.iconst 3, 1) := by decide +kernel
theorem dX6_run_39 : decode cX6_run 39 = .ok (.iload_n 1, 1) := by decide +kernel
theorem dX6_run_40 : decode cX6_run 40 = .ok (.imul, 1) := by decide +kernel
theorem dX6_run_41 : decode cX6_run 41 = .ok (.invokevirtual 180, 3) := by decide +kernel
theorem dX6_run_44 : decode cX6_run 44 = .ok (.ifCond .eq 9, 3) := by decide +kernel
theorem dX6_run_47 : decode cX6_run 47 = .ok (.iinc 1 1, 3) := by decide +kernel
theorem dX6_run_50 : decode cX6_run 50 = .ok (.goto (-21), 3) := by decide +kernel
theorem dX6_run_53 : decode cX6_run 53 = .ok (.iload_n 1, 1) := by decide +kernel
theorem dX6_run_54 : decode cX6_run 54 = .ok (.ireturn, 1) := by decide +kernel
set_option maxRecDepth 20000 in
theorem ggX6_undo_X6_fails : GoodIn wsX6_undo wsX6_fails := goodIn_r _ [9, 1, 10, 11, 12, 13, 14, 15, 16, 17, 18, 19, 20, 21, 22, 23, 24, 25] (by decide +kernel) (by decide +kernel)
set_option maxRecDepth 20000 in
theorem gX6_undo_X6_fails : GoodIn wsX6_undo (wsV RX6 58 RX6 yX6_fails wsX6_fails) := goodIn_app (goodIn_of _ (by decide +kernel)) ggX6_undo_X6_fails
theorem dX6_undo_0 : decode cX6_undo 0 = .ok (.aload_n 0, 1) := by decide +kernel
theorem dX6_undo_1 : decode cX6_undo 1 = .ok (.iconst 0, 1) := by decide +kernel
theorem dX6_undo_2 : decode cX6_undo 2 = .ok (.putfield 25, 3) := by decide +kernel
theorem dX6_undo_5 : decode cX6_undo 5 = .ok (.aload_n 0, 1) := by decide +kernel
theorem dX6_undo_6 : decode cX6_undo 6 = .ok (.getfield 33, 3) := by decide +kernel
theorem dX6_undo_9 : decode cX6_undo 9 = .ok (.ifCond .ne 9, 3) := by decide +kernel
theorem dX6_undo_12 : decode cX6_undo 12 = .ok (.aload_n 0, 1) := by decide +kernel
theorem dX6_undo_13 : decode cX6_undo 13 = .ok (.iconst 1, 1) := by decide +kernel
theorem dX6_undo_14 : decode cX6_undo 14 = .ok (.invokevirtual 58, 3) := by decide +kernel
theorem dX6_undo_17 : decode cX6_undo 17 = .ok (.ireturn, 1) := by decide +kernel
theorem dX6_undo_18 : decode cX6_undo 18 = .ok (.aload_n 0, 1) := by decide +kernel
theorem dX6_undo_19 : decode cX6_undo 19 = .ok (.dup, 1) := by decide +kernel
theorem dX6_undo_20 : decode cX6_undo 20 = .ok (.getfield 33, 3) := by decide +kernel
theorem dX6_undo_23 : decode cX6_undo 23 = .ok (.iconst 1, 1) := by decide +kernel
theorem dX6_undo_24 : decode cX6_undo 24 = .ok (.isub, 1) := by decide +kernel
theorem dX6_undo_25 : decode cX6_undo 25 = .ok (.putfield 33, 3) := by decide +kernel
theorem dX6_undo_28 : decode cX6_undo 28 = .ok (.iconst 0, 1) := by decide +kernel
theorem dX6_undo_29 : decode cX6_undo 29 = .ok (.istore_n 1, 1) := by decide +kernel
theorem dX6_undo_30 : decode cX6_undo 30 = .ok (.iload_n 1, 1) := by decide +kernel
theorem dX6_undo_31 : decode cX6_undo 31 = .ok (.bipush 96, 2) := by decide +kernel
theorem dX6_undo_33 : decode cX6_undo 33 = .ok (.if_icmp .ge 29, 3) := by decide +kernel
theorem dX6_undo_36 : decode cX6_undo 36 = .ok (.aload_n 0, 1) := by decide +kernel
theorem dX6_undo_37 : decode cX6_undo 37 = .ok (.getfield 7, 3) := by decide +kernel
theorem dX6_undo_40 : decode cX6_undo 40 = .ok (.iload_n 1, 1) := by decide +kernel
theorem dX6_undo_41 : decode cX6_undo 41 = .ok (.aload_n 0, 1) := by decide +kernel
theorem dX6_undo_42 : decode cX6_undo 42 = .ok (.getfield 16, 3) := by decide +kernel
theorem dX6_undo_45 : decode cX6_undo 45 = .ok (.bipush 96, 2) := by decide +kernel
theorem dX6_undo_47 : decode cX6_undo 47 = .ok (.aload_n 0, 1) := by decide +kernel
theorem dX6_undo_48 : decode cX6_undo 48 = .ok (.getfield 33, 3) := by decide +kernel
theorem dX6_undo_51 : decode cX6_undo 51 = .ok (.imul, 1) := by decide +kernel
theorem dX6_undo_52 : decode cX6_undo 52 = .ok (.iload_n 1, 1) := by decide +kernel
theorem dX6_undo_53 : decode cX6_undo 53 = .ok (.iadd, 1) := by decide +kernel
theorem dX6_undo_54 : decode cX6_undo 54 = .ok (.iaload, 1) := by decide +kernel
theorem dX6_undo_55 : decode cX6_undo 55 = .ok (.iastore, 1) := by decide +kernel
theorem dX6_undo_56 : decode cX6_undo 56 = .ok (.iinc 1 1, 3) := by decide +kernel
theorem dX6_undo_59 : decode cX6_undo 59 = .ok (.goto (-29), 3) := by decide +kernel
theorem dX6_undo_62 : decode cX6_undo 62 = .ok (.aload_n 0, 1) := by decide +kernel
theorem dX6_undo_63 : decode cX6_undo 63 = .ok (.getfield 33, 3) := by decide +kernel
theorem dX6_undo_66 : decode cX6_undo 66 = .ok (.ireturn, 1) := by decide +kernel
theorem dX6_savedStates_0 : decode cX6_savedStates 0 = .ok (.aload_n 0, 1) := by decide +kernel
theorem dX6_savedStates_1 : decode cX6_savedStates 1 = .ok (.iconst 0, 1) := by decide +kernel
theorem dX6_savedStates_2 : decode cX6_savedStates 2 = .ok (.putfield 25, 3) := by decide +kernel
theorem dX6_savedStates_5 : decode cX6_savedStates 5 = .ok (.aload_n 0, 1) := by decide +kernel
theorem dX6_savedStates_6 : decode cX6_savedStates 6 = .ok (.getfield 33, 3) := by decide +kernel
theorem dX6_savedStates_9 : decode cX6_savedStates 9 = .ok (.ireturn, 1) := by decide +kernel
theorem dX6_hashes_0 : decode cX6_hashes 0 = .ok (.aload_n 0, 1) := by decide +kernel
theorem dX6_hashes_1 : decode cX6_hashes 1 = .ok (.ldc2_w 183, 3) := by decide +kernel
theorem dX6_hashes_4 : decode cX6_hashes 4 = .ok (.aload_n 0, 1) := by decide +kernel
theorem dX6_hashes_5 : decode cX6_hashes 5 = .ok (.getfield 185, 3) := by decide +kernel
theorem dX6_hashes_8 : decode cX6_hashes 8 = .ok (.lmul, 1) := by decide +kernel
theorem dX6_hashes_9 : decode cX6_hashes 9 = .ok (.iload_n 1, 1) := by decide +kernel
theorem dX6_hashes_10 : decode cX6_hashes 10 = .ok (.i2l, 1) := by decide +kernel
theorem dX6_hashes_11 : decode cX6_hashes 11 = .ok (.ladd, 1) := by decide +kernel
theorem dX6_hashes_12 : decode cX6_hashes 12 = .ok (.putfield 185, 3) := by decide +kernel
theorem dX6_hashes_15 : decode cX6_hashes 15 = .ok (.return_, 1) := by decide +kernel
set_option maxRecDepth 20000 in
theorem ggX6_digest_X6_finds : GoodIn wsX6_digest wsX6_finds := goodIn_r _ [10, 5, 4, 11, 12, 13, 9, 14, 15, 16, 17, 18, 19, 20, 21, 22, 23, 24, 25, 26, 27, 28, 29, 30, 31, 32, 33, 34, 35, 36, 37, 38, 39, 40, 41, 42, 43, 44, 45, 46, 47, 48, 49, 71, 72, 73, 74, 75, 76, 77, 78, 79, 80, 81, 82, 83, 84, 85, 86] (by decide +kernel) (by decide +kernel)
set_option maxRecDepth 20000 in
theorem gX6_digest_X6_finds : GoodIn wsX6_digest (wsV RX6 122 RX6 yX6_finds wsX6_finds) := goodIn_app (goodIn_of _ (by decide +kernel)) ggX6_digest_X6_finds
set_option maxRecDepth 20000 in
theorem ggX6_digest_X6_hashes : GoodIn wsX6_digest wsX6_hashes := goodIn_r _ [53, 54, 3, 71, 72, 73, 74, 75, 76, 77, 78, 79, 80, 81, 82, 83, 84, 85, 86] (by decide +kernel) (by decide +kernel)
set_option maxRecDepth 20000 in
theorem gX6_digest_X6_hashes : GoodIn wsX6_digest (wsV RX6 191 RX6 yX6_hashes wsX6_hashes) := goodIn_app (goodIn_of _ (by decide +kernel)) ggX6_digest_X6_hashes
set_option maxRecDepth 20000 in
theorem ggX6_digest_X6_misplacedMany : GoodIn wsX6_digest wsX6_misplacedMany := goodIn_r _ [58, 4, 15, 16, 17, 9, 18, 19, 20, 21, 22, 71, 72, 73, 74, 75, 76, 77, 78, 79, 80, 81, 82, 83, 84, 85, 86] (by decide +kernel) (by decide +kernel)
set_option maxRecDepth 20000 in
theorem gX6_digest_X6_misplacedMany : GoodIn wsX6_digest (wsV RX6 93 RX6 yX6_misplacedMany wsX6_misplacedMany) := goodIn_app (goodIn_of _ (by decide +kernel)) ggX6_digest_X6_misplacedMany
set_option maxRecDepth 20000 in
theorem ggX6_digest_X6_costs : GoodIn wsX6_digest wsX6_costs := goodIn_r _ [62, 4, 35, 36, 37, 9, 38, 19, 20, 21, 22, 71, 72, 73, 74, 75, 76, 77, 78, 79, 80, 81, 82, 83, 84, 85, 86] (by decide +kernel) (by decide +kernel)
set_option maxRecDepth 20000 in
theorem gX6_digest_X6_costs : GoodIn wsX6_digest (wsV RX6 132 RX6 yX6_costs wsX6_costs) := goodIn_app (goodIn_of _ (by decide +kernel)) ggX6_digest_X6_costs
set_option maxRecDepth 20000 in
theorem ggX6_digest_X6_room : GoodIn wsX6_digest wsX6_room := goodIn_r _ [26, 4, 27, 28, 29, 9, 30, 19, 20, 21, 22, 71, 72, 73, 74, 75, 76, 77, 78, 79, 80, 81, 82, 83, 84, 85, 86] (by decide +kernel) (by decide +kernel)
set_option maxRecDepth 20000 in
theorem gX6_digest_X6_room : GoodIn wsX6_digest (wsV RX6 64 RX6 yX6_room wsX6_room) := goodIn_app (goodIn_of _ (by decide +kernel)) ggX6_digest_X6_room
set_option maxRecDepth 20000 in
theorem ggX6_digest_X6_of : GoodIn wsX6_digest wsX6_of := goodIn_r _ [22, 4, 71, 72, 73, 74, 75, 76, 77, 78, 79, 80, 81, 82, 83, 84, 85, 86] (by decide +kernel) (by decide +kernel)
set_option maxRecDepth 20000 in
theorem gX6_digest_X6_of : GoodIn wsX6_digest (wsV RX6 36 RX6 yX6_of wsX6_of) := goodIn_app (goodIn_of _ (by decide +kernel)) ggX6_digest_X6_of
set_option maxRecDepth 20000 in
theorem ggX6_digest_X6_heft : GoodIn wsX6_digest wsX6_heft := goodIn_r _ [38, 19, 20, 21, 9, 22, 4, 71, 72, 73, 74, 75, 76, 77, 78, 79, 80, 81, 82, 83, 84, 85, 86] (by decide +kernel) (by decide +kernel)
set_option maxRecDepth 20000 in
theorem gX6_digest_X6_heft : GoodIn wsX6_digest (wsV RX6 44 RX6 yX6_heft wsX6_heft) := goodIn_app (goodIn_of _ (by decide +kernel)) ggX6_digest_X6_heft
set_option maxRecDepth 20000 in
theorem ggX6_digest_X6_walk : GoodIn wsX6_digest wsX6_walk := goodIn_r _ [66, 4, 19, 20, 21, 9, 22, 15, 16, 17, 18, 67, 68, 69, 70, 71, 72, 73, 74, 75, 76, 77, 78, 79, 80, 81, 82, 83, 84, 85, 86] (by decide +kernel) (by decide +kernel)
set_option maxRecDepth 20000 in
theorem gX6_digest_X6_walk : GoodIn wsX6_digest (wsV RX6 80 RX6 yX6_walk wsX6_walk) := goodIn_app (goodIn_of _ (by decide +kernel)) ggX6_digest_X6_walk
theorem dX6_digest_0 : decode cX6_digest 0 = .ok (.aload_n 0, 1) := by decide +kernel
theorem dX6_digest_1 : decode cX6_digest 1 = .ok (.iconst 0, 1) := by decide +kernel
theorem dX6_digest_2 : decode cX6_digest 2 = .ok (.putfield 25, 3) := by decide +kernel
theorem dX6_digest_5 : decode cX6_digest 5 = .ok (.aload_n 0, 1) := by decide +kernel
theorem dX6_digest_6 : decode cX6_digest 6 = .ok (.ldc2_w 189, 3) := by decide +kernel
theorem dX6_digest_9 : decode cX6_digest 9 = .ok (.putfield 185, 3) := by decide +kernel
theorem dX6_digest_12 : decode cX6_digest 12 = .ok (.aload_n 0, 1) := by decide +kernel
theorem dX6_digest_13 : decode cX6_digest 13 = .ok (.invokevirtual 122, 3) := by decide +kernel
theorem dX6_digest_16 : decode cX6_digest 16 = .ok (.aload_n 0, 1) := by decide +kernel
theorem dX6_digest_17 : decode cX6_digest 17 = .ok (.aload_n 0, 1) := by decide +kernel
theorem dX6_digest_18 : decode cX6_digest 18 = .ok (.getfield 7, 3) := by decide +kernel
theorem dX6_digest_21 : decode cX6_digest 21 = .ok (.iconst 0, 1) := by decide +kernel
theorem dX6_digest_22 : decode cX6_digest 22 = .ok (.iaload, 1) := by decide +kernel
theorem dX6_digest_23 : decode cX6_digest 23 = .ok (.invokevirtual 191, 3) := by decide +kernel
theorem dX6_digest_26 : decode cX6_digest 26 = .ok (.aload_n 0, 1) := by decide +kernel
theorem dX6_digest_27 : decode cX6_digest 27 = .ok (.aload_n 0, 1) := by decide +kernel
theorem dX6_digest_28 : decode cX6_digest 28 = .ok (.invokevirtual 93, 3) := by decide +kernel
theorem dX6_digest_31 : decode cX6_digest 31 = .ok (.invokevirtual 191, 3) := by decide +kernel
theorem dX6_digest_34 : decode cX6_digest 34 = .ok (.aload_n 0, 1) := by decide +kernel
theorem dX6_digest_35 : decode cX6_digest 35 = .ok (.aload_n 0, 1) := by decide +kernel
theorem dX6_digest_36 : decode cX6_digest 36 = .ok (.getfield 7, 3) := by decide +kernel
theorem dX6_digest_39 : decode cX6_digest 39 = .ok (.iconst 1, 1) := by decide +kernel
theorem dX6_digest_40 : decode cX6_digest 40 = .ok (.iaload, 1) := by decide +kernel
theorem dX6_digest_41 : decode cX6_digest 41 = .ok (.invokevirtual 191, 3) := by decide +kernel
theorem dX6_digest_44 : decode cX6_digest 44 = .ok (.aload_n 0, 1) := by decide +kernel
theorem dX6_digest_45 : decode cX6_digest 45 = .ok (.aload_n 0, 1) := by decide +kernel
theorem dX6_digest_46 : decode cX6_digest 46 = .ok (.invokevirtual 132, 3) := by decide +kernel
theorem dX6_digest_49 : decode cX6_digest 49 = .ok (.invokevirtual 191, 3) := by decide +kernel
theorem dX6_digest_52 : decode cX6_digest 52 = .ok (.aload_n 0, 1) := by decide +kernel
theorem dX6_digest_53 : decode cX6_digest 53 = .ok (.aload_n 0, 1) := by decide +kernel
theorem dX6_digest_54 : decode cX6_digest 54 = .ok (.getfield 7, 3) := by decide +kernel
theorem dX6_digest_57 : decode cX6_digest 57 = .ok (.iconst 2, 1) := by decide +kernel
theorem dX6_digest_58 : decode cX6_digest 58 = .ok (.iaload, 1) := by decide +kernel
theorem dX6_digest_59 : decode cX6_digest 59 = .ok (.invokevirtual 191, 3) := by decide +kernel
theorem dX6_digest_62 : decode cX6_digest 62 = .ok (.aload_n 0, 1) := by decide +kernel
theorem dX6_digest_63 : decode cX6_digest 63 = .ok (.aload_n 0, 1) := by decide +kernel
theorem dX6_digest_64 : decode cX6_digest 64 = .ok (.getfield 96, 3) := by decide +kernel
theorem dX6_digest_67 : decode cX6_digest 67 = .ok (.invokevirtual 191, 3) := by decide +kernel
theorem dX6_digest_70 : decode cX6_digest 70 = .ok (.iconst 0, 1) := by decide +kernel
theorem dX6_digest_71 : decode cX6_digest 71 = .ok (.istore_n 1, 1) := by decide +kernel
theorem dX6_digest_72 : decode cX6_digest 72 = .ok (.iload_n 1, 1) := by decide +kernel
theorem dX6_digest_73 : decode cX6_digest 73 = .ok (.bipush 6, 2) := by decide +kernel
theorem dX6_digest_75 : decode cX6_digest 75 = .ok (.if_icmp .ge 31, 3) := by decide +kernel
theorem dX6_digest_78 : decode cX6_digest 78 = .ok (.aload_n 0, 1) := by decide +kernel
theorem dX6_digest_79 : decode cX6_digest 79 = .ok (.aload_n 0, 1) := by decide +kernel
theorem dX6_digest_80 : decode cX6_digest 80 = .ok (.iload_n 1, 1) := by decide +kernel
theorem dX6_digest_81 : decode cX6_digest 81 = .ok (.invokevirtual 64, 3) := by decide +kernel
theorem dX6_digest_84 : decode cX6_digest 84 = .ok (.invokevirtual 191, 3) := by decide +kernel
theorem dX6_digest_87 : decode cX6_digest 87 = .ok (.aload_n 0, 1) := by decide +kernel
theorem dX6_digest_88 : decode cX6_digest 88 = .ok (.aload_n 0, 1) := by decide +kernel
theorem dX6_digest_89 : decode cX6_digest 89 = .ok (.getfield 7, 3) := by decide +kernel
theorem dX6_digest_92 : decode cX6_digest 92 = .ok (.bipush 9, 2) := by decide +kernel
theorem dX6_digest_94 : decode cX6_digest 94 = .ok (.iload_n 1, 1) := by decide +kernel
theorem dX6_digest_95 : decode cX6_digest 95 = .ok (.iadd, 1) := by decide +kernel
theorem dX6_digest_96 : decode cX6_digest 96 = .ok (.iaload, 1) := by decide +kernel
theorem dX6_digest_97 : decode cX6_digest 97 = .ok (.invokevirtual 191, 3) := by decide +kernel
theorem dX6_digest_100 : decode cX6_digest 100 = .ok (.iinc 1 1, 3) := by decide +kernel
theorem dX6_digest_103 : decode cX6_digest 103 = .ok (.goto (-31), 3) := by decide +kernel
theorem dX6_digest_106 : decode cX6_digest 106 = .ok (.iconst 0, 1) := by decide +kernel
theorem dX6_digest_107 : decode cX6_digest 107 = .ok (.istore_n 1, 1) := by decide +kernel
theorem dX6_digest_108 : decode cX6_digest 108 = .ok (.iload_n 1, 1) := by decide +kernel
theorem dX6_digest_109 : decode cX6_digest 109 = .ok (.aload_n 0, 1) := by decide +kernel
theorem dX6_digest_110 : decode cX6_digest 110 = .ok (.getfield 7, 3) := by decide +kernel
theorem dX6_digest_113 : decode cX6_digest 113 = .ok (.iconst 0, 1) := by decide +kernel
theorem dX6_digest_114 : decode cX6_digest 114 = .ok (.iaload, 1) := by decide +kernel
theorem dX6_digest_115 : decode cX6_digest 115 = .ok (.if_icmp .ge 57, 3) := by decide +kernel
theorem dX6_digest_118 : decode cX6_digest 118 = .ok (.aload_n 0, 1) := by decide +kernel
theorem dX6_digest_119 : decode cX6_digest 119 = .ok (.aload_n 0, 1) := by decide +kernel
theorem dX6_digest_120 : decode cX6_digest 120 = .ok (.iload_n 1, 1) := by decide +kernel
theorem dX6_digest_121 : decode cX6_digest 121 = .ok (.iconst 0, 1) := by decide +kernel
theorem dX6_digest_122 : decode cX6_digest 122 = .ok (.invokevirtual 36, 3) := by decide +kernel
theorem dX6_digest_125 : decode cX6_digest 125 = .ok (.invokevirtual 191, 3) := by decide +kernel
theorem dX6_digest_128 : decode cX6_digest 128 = .ok (.aload_n 0, 1) := by decide +kernel
theorem dX6_digest_129 : decode cX6_digest 129 = .ok (.aload_n 0, 1) := by decide +kernel
theorem dX6_digest_130 : decode cX6_digest 130 = .ok (.iload_n 1, 1) := by decide +kernel
theorem dX6_digest_131 : decode cX6_digest 131 = .ok (.iconst 1, 1) := by decide +kernel
theorem dX6_digest_132 : decode cX6_digest 132 = .ok (.invokevirtual 36, 3) := by decide +kernel
theorem dX6_digest_135 : decode cX6_digest 135 = .ok (.invokevirtual 191, 3) := by decide +kernel
theorem dX6_digest_138 : decode cX6_digest 138 = .ok (.aload_n 0, 1) := by decide +kernel
theorem dX6_digest_139 : decode cX6_digest 139 = .ok (.aload_n 0, 1) := by decide +kernel
theorem dX6_digest_140 : decode cX6_digest 140 = .ok (.iload_n 1, 1) := by decide +kernel
theorem dX6_digest_141 : decode cX6_digest 141 = .ok (.iconst 2, 1) := by decide +kernel
theorem dX6_digest_142 : decode cX6_digest 142 = .ok (.invokevirtual 36, 3) := by decide +kernel
theorem dX6_digest_145 : decode cX6_digest 145 = .ok (.invokevirtual 191, 3) := by decide +kernel
theorem dX6_digest_148 : decode cX6_digest 148 = .ok (.aload_n 0, 1) := by decide +kernel
theorem dX6_digest_149 : decode cX6_digest 149 = .ok (.aload_n 0, 1) := by decide +kernel
theorem dX6_digest_150 : decode cX6_digest 150 = .ok (.iload_n 1, 1) := by decide +kernel
theorem dX6_digest_151 : decode cX6_digest 151 = .ok (.invokevirtual 44, 3) := by decide +kernel
theorem dX6_digest_154 : decode cX6_digest 154 = .ok (.invokevirtual 191, 3) := by decide +kernel
theorem dX6_digest_157 : decode cX6_digest 157 = .ok (.aload_n 0, 1) := by decide +kernel
theorem dX6_digest_158 : decode cX6_digest 158 = .ok (.aload_n 0, 1) := by decide +kernel
theorem dX6_digest_159 : decode cX6_digest 159 = .ok (.iload_n 1, 1) := by decide +kernel
theorem dX6_digest_160 : decode cX6_digest 160 = .ok (.invokevirtual 80, 3) := by decide +kernel
theorem dX6_digest_163 : decode cX6_digest 163 = .ok (.invokevirtual 191, 3) := by decide +kernel
theorem dX6_digest_166 : decode cX6_digest 166 = .ok (.iinc 1 1, 3) := by decide +kernel
theorem dX6_digest_169 : decode cX6_digest 169 = .ok (.goto (-61), 3) := by decide +kernel
theorem dX6_digest_172 : decode cX6_digest 172 = .ok (.aload_n 0, 1) := by decide +kernel
theorem dX6_digest_173 : decode cX6_digest 173 = .ok (.getfield 185, 3) := by decide +kernel
theorem dX6_digest_176 : decode cX6_digest 176 = .ok (.lreturn, 1) := by decide +kernel
